set_option maxRecDepth 100000 in
theorem w_X10_putOnTape_0 {ex : sm_O} {d n : Nat} {y : sm_Y} {I : Nat → Nat → Int32} {L : Nat → Nat → Int64} {R : Nat → Nat → Option Nat} {Q : sm_Q} {w0 : Option Value} {w2 : Option Value} {a1 : Int32} (k : sm_W ex d 0 0 116 3 [w0, some (.int a1), some (.int 24)] [] (n, y, I, L, R) Q) : sm_W ex d 0 0 116 0 [w0, some (.int a1), w2] [] (n, y, I, L, R) Q := sm_in (sm_in (And.intro (Nat.le_of_ble_eq_true rfl) (k)))
set_option maxRecDepth 100000 in
theorem w_X10_putOnTape_3 {ex : sm_O} {d n : Nat} {y : sm_Y} {I : Nat → Nat → Int32} {L : Nat → Nat → Int64} {R : Nat → Nat → Option Nat} {Q : sm_Q} {a1 : Int32} {a2 : Int32} (hG : sm_G y R) (k : if a2 < 0 then (Q none (n, y, I, L, R)) else (if 400 ≤ (I 0 12) then (Q none (n, y, I, L, R)) else (vp_in (I 0 12) 400 ∧ sm_W ex d 0 0 116 3 [some (.ref 0), some (.int a1), some (.int (a2 + (-8)))] [] (n, y, sm_st (sm_st I 119 ((I 0 12).toNatClampNeg) (((a1.toUInt32 >>> (a2.toUInt32 &&& Int32.toUInt32 31)).toInt32) &&& 255)) 0 12 ((I 0 12) + 1), L, R) Q))) : sm_W ex d 0 0 116 3 [some (.ref 0), some (.int a1), some (.int a2)] [] (n, y, I, L, R) Q := sm_in (sm_in (And.intro (fun c1 => have k1t := Eq.mp (if_pos c1) k; sm_in (And.intro rfl (And.intro rfl k1t))) (fun c1 => have k1f := Eq.mp (if_neg c1) k; sm_in (sm_in (And.intro (hG.1 0 (Nat.le_of_ble_eq_true rfl)) (sm_in (sm_in (And.intro (fun c2 => have k2t := Eq.mp (if_pos c2) k1f; sm_in (And.intro rfl (And.intro rfl k2t))) (fun c2 => have k2f := Eq.mp (if_neg c2) k1f; sm_in (sm_in (And.intro (hG.1 0 (Nat.le_of_ble_eq_true rfl)) (sm_gfr rfl (hG.2 0 11 rfl) (sm_in (sm_in (And.intro (hG.1 0 (Nat.le_of_ble_eq_true rfl)) (sm_in (sm_in (sm_in (sm_in (sm_in ((have e3 := k2f.1; have k3 := k2f.2; sm_in (Exists.intro 400 (And.intro (hG.1 119 (Nat.le_of_ble_eq_true rfl)) (And.intro e3 (sm_in (sm_in (And.intro rfl (sm_in (And.intro (hG.1 0 (Nat.le_of_ble_eq_true rfl)) (sm_in (sm_in (sm_in (And.intro (hG.1 0 (Nat.le_of_ble_eq_true rfl)) (sm_in (And.intro (Nat.le_of_ble_eq_true rfl) (sm_in (k3))))))))))))))))))))))))))))))))))))))
set_option maxRecDepth 100000 in
theorem w_X11_four_0 {ex : sm_O} {d n : Nat} {y : sm_Y} {I : Nat → Nat → Int32} {L : Nat → Nat → Int64} {R : Nat → Nat → Option Nat} {Q : sm_Q} {w0 : Option Value} {w2 : Option Value} {a1 : Int32} (k : sm_W ex d 0 0 148 3 [w0, some (.int a1), some (.int 24)] [] (n, y, I, L, R) Q) : sm_W ex d 0 0 148 0 [w0, some (.int a1), w2] [] (n, y, I, L, R) Q := sm_in (sm_in (And.intro (Nat.le_of_ble_eq_true rfl) (k)))
set_option maxRecDepth 100000 in
theorem w_X11_four_3 {ex : sm_O} {d n : Nat} {y : sm_Y} {I : Nat → Nat → Int32} {L : Nat → Nat → Int64} {R : Nat → Nat → Option Nat} {Q : sm_Q} {a1 : Int32} {a2 : Int32} (hG : sm_G y R) (k : if a2 < 0 then (Q none (n, y, I, L, R)) else (vp_in (I 123 13) 400 ∧ sm_W ex d 0 0 148 3 [some (.ref 123), some (.int a1), some (.int (a2 + (-8)))] [] (n, y, sm_st (sm_st I 132 ((I 123 13).toNatClampNeg) ((a1 >>> (a2 &&& 31)) &&& 255)) 123 13 ((I 123 13) + 1), L, R) Q)) : sm_W ex d 0 0 148 3 [some (.ref 123), some (.int a1), some (.int a2)] [] (n, y, I, L, R) Q := sm_in (sm_in (And.intro (fun c1 => have k1t := Eq.mp (if_pos c1) k; sm_in (And.intro rfl (And.intro rfl k1t))) (fun c1 => have k1f := Eq.mp (if_neg c1) k; sm_in (sm_in (And.intro (hG.1 123 (Nat.le_of_ble_eq_true rfl)) (sm_gfr rfl (hG.2 123 12 rfl) (sm_in (sm_in (And.intro (hG.1 123 (Nat.le_of_ble_eq_true rfl)) (sm_in (sm_in (sm_in (sm_in (sm_in ((have e2 := k1f.1; have k2 := k1f.2; sm_in (Exists.intro 400 (And.intro (hG.1 132 (Nat.le_of_ble_eq_true rfl)) (And.intro e2 (sm_in (sm_in (And.intro rfl (sm_in (And.intro (hG.1 123 (Nat.le_of_ble_eq_true rfl)) (sm_in (sm_in (sm_in (And.intro (hG.1 123 (Nat.le_of_ble_eq_true rfl)) (sm_in (And.intro (Nat.le_of_ble_eq_true rfl) (sm_in (k2))))))))))))))))))))))))))))))))
set_option maxRecDepth 100000 in
theorem w_X10_feed_0 {ex : sm_O} {d n : Nat} {y : sm_Y} {I : Nat → Nat → Int32} {L : Nat → Nat → Int64} {R : Nat → Nat → Option Nat} {Q : sm_Q} {w2 : Option Value} {w3 : Option Value} {w4 : Option Value} {w5 : Option Value} {a1 : Int32} {d1 : Nat} (hG : sm_G y R) (h1 : d1 < d) (k : if ((I 0 12) + 20) ≤ 400 then (sm_W ex d1 0 0 116 0 [some (.ref 0), some (.int a1), none] [] (n, y, I, L, R) (fun r μ1 => sm_W ex d 0 0 79 20 [some (.ref 0), some (.int a1), w2, w3, w4, w5] (r.toList ++ []) μ1 Q)) else (Q (some (.int (-1))) (n, y, I, L, R))) : sm_W ex d 0 0 79 0 [some (.ref 0), some (.int a1), w2, w3, w4, w5] [] (n, y, I, L, R) Q := sm_in (sm_in (And.intro (hG.1 0 (Nat.le_of_ble_eq_true rfl)) (sm_in (sm_in (sm_in (sm_in (And.intro (fun c1 => have k1t := Eq.mp (if_pos c1) k; sm_in (sm_in (sm_in (Exists.intro 10 (And.intro (hG.1 0 (Nat.le_of_ble_eq_true rfl)) (And.intro rfl (sm_calln h1 (Nat.le_of_ble_eq_true rfl) (Nat.le_of_ble_eq_true rfl) k1t))))))) (fun c1 => have k1f := Eq.mp (if_neg c1) k; sm_in (sm_in (And.intro rfl k1f))))))))))
set_option maxRecDepth 100000 in
theorem w_X10_feed_20 {ex : sm_O} {d n : Nat} {y : sm_Y} {I : Nat → Nat → Int32} {L : Nat → Nat → Int64} {R : Nat → Nat → Option Nat} {Q : sm_Q} {w1 : Option Value} {w3 : Option Value} {w4 : Option Value} {w5 : Option Value} {a2 : Int32} {d1 : Nat} (hG : sm_G y R) (h1 : d1 < d) (k : sm_W ex d1 0 0 116 0 [some (.ref 0), some (.int a2), none] [] (n, y, I, L, R) (fun r μ1 => sm_W ex d 0 0 79 25 [some (.ref 0), w1, some (.int a2), w3, w4, w5] (r.toList ++ []) μ1 Q)) : sm_W ex d 0 0 79 20 [some (.ref 0), w1, some (.int a2), w3, w4, w5] [] (n, y, I, L, R) Q := sm_in (sm_in (sm_in (Exists.intro 10 (And.intro (hG.1 0 (Nat.le_of_ble_eq_true rfl)) (And.intro rfl (sm_calln h1 (Nat.le_of_ble_eq_true rfl) (Nat.le_of_ble_eq_true rfl) k))))))
set_option maxRecDepth 100000 in
theorem w_X10_feed_25 {ex : sm_O} {d n : Nat} {y : sm_Y} {I : Nat → Nat → Int32} {L : Nat → Nat → Int64} {R : Nat → Nat → Option Nat} {Q : sm_Q} {w1 : Option Value} {w2 : Option Value} {w4 : Option Value} {w5 : Option Value} {a3 : Int32} {d1 : Nat} (hG : sm_G y R) (h1 : d1 < d) (k : sm_W ex d1 0 0 116 0 [some (.ref 0), some (.int a3), none] [] (n, y, I, L, R) (fun r μ1 => sm_W ex d 0 0 79 30 [some (.ref 0), w1, w2, some (.int a3), w4, w5] (r.toList ++ []) μ1 Q)) : sm_W ex d 0 0 79 25 [some (.ref 0), w1, w2, some (.int a3), w4, w5] [] (n, y, I, L, R) Q := sm_in (sm_in (sm_in (Exists.intro 10 (And.intro (hG.1 0 (Nat.le_of_ble_eq_true rfl)) (And.intro rfl (sm_calln h1 (Nat.le_of_ble_eq_true rfl) (Nat.le_of_ble_eq_true rfl) k))))))
set_option maxRecDepth 100000 in
theorem w_X10_feed_30 {ex : sm_O} {d n : Nat} {y : sm_Y} {I : Nat → Nat → Int32} {L : Nat → Nat → Int64} {R : Nat → Nat → Option Nat} {Q : sm_Q} {w1 : Option Value} {w2 : Option Value} {w3 : Option Value} {w5 : Option Value} {a4 : Int32} {d1 : Nat} (hG : sm_G y R) (h1 : d1 < d) (k : sm_W ex d1 0 0 116 0 [some (.ref 0), some (.int a4), none] [] (n, y, I, L, R) (fun r μ1 => sm_W ex d 0 0 79 36 [some (.ref 0), w1, w2, w3, some (.int a4), w5] (r.toList ++ []) μ1 Q)) : sm_W ex d 0 0 79 30 [some (.ref 0), w1, w2, w3, some (.int a4), w5] [] (n, y, I, L, R) Q := sm_in (sm_in (sm_in (Exists.intro 10 (And.intro (hG.1 0 (Nat.le_of_ble_eq_true rfl)) (And.intro rfl (sm_calln h1 (Nat.le_of_ble_eq_true rfl) (Nat.le_of_ble_eq_true rfl) k))))))
set_option maxRecDepth 100000 in
theorem w_X10_feed_36 {ex : sm_O} {d n : Nat} {y : sm_Y} {I : Nat → Nat → Int32} {L : Nat → Nat → Int64} {R : Nat → Nat → Option Nat} {Q : sm_Q} {w1 : Option Value} {w2 : Option Value} {w3 : Option Value} {w4 : Option Value} {a5 : Int32} {d1 : Nat} (hG : sm_G y R) (h1 : d1 < d) (k : sm_W ex d1 0 0 116 0 [some (.ref 0), some (.int a5), none] [] (n, y, I, L, R) (fun r μ1 => sm_W ex d 0 0 79 42 [some (.ref 0), w1, w2, w3, w4, some (.int a5)] (r.toList ++ []) μ1 Q)) : sm_W ex d 0 0 79 36 [some (.ref 0), w1, w2, w3, w4, some (.int a5)] [] (n, y, I, L, R) Q := sm_in (sm_in (sm_in (Exists.intro 10 (And.intro (hG.1 0 (Nat.le_of_ble_eq_true rfl)) (And.intro rfl (sm_calln h1 (Nat.le_of_ble_eq_true rfl) (Nat.le_of_ble_eq_true rfl) k))))))
set_option maxRecDepth 100000 in
theorem w_X10_feed_42 {ex : sm_O} {d n : Nat} {y : sm_Y} {I : Nat → Nat → Int32} {L : Nat → Nat → Int64} {R : Nat → Nat → Option Nat} {Q : sm_Q} {w1 : Option Value} {w2 : Option Value} {w3 : Option Value} {w4 : Option Value} {w5 : Option Value} (hG : sm_G y R) (k : Q (some (.int (I 0 12))) (n, y, I, L, R)) : sm_W ex d 0 0 79 42 [some (.ref 0), w1, w2, w3, w4, w5] [] (n, y, I, L, R) Q := sm_in (sm_in (And.intro (hG.1 0 (Nat.le_of_ble_eq_true rfl)) (sm_in (And.intro rfl k))))
set_option maxRecDepth 100000 in
theorem w_X11_feed_0 {ex : sm_O} {d n : Nat} {y : sm_Y} {I : Nat → Nat → Int32} {L : Nat → Nat → Int64} {R : Nat → Nat → Option Nat} {Q : sm_Q} {w2 : Option Value} {w3 : Option Value} {w4 : Option Value} {w5 : Option Value} {a1 : Int32} {d1 : Nat} (hG : sm_G y R) (h1 : d1 < d) (k : if ((I 123 13) + 20) ≤ 400 then (sm_W ex d1 0 0 148 0 [some (.ref 123), some (.int a1), none] [] (n, y, sm_st I 123 0 0, L, R) (fun r μ1 => sm_W ex d 0 0 149 25 [some (.ref 123), some (.int a1), w2, w3, w4, w5] (r.toList ++ []) μ1 Q)) else (Q (some (.int (-1))) (n, y, sm_st I 123 0 0, L, R))) : sm_W ex d 0 0 149 0 [some (.ref 123), some (.int a1), w2, w3, w4, w5] [] (n, y, I, L, R) Q := sm_in (sm_in (sm_in (And.intro (hG.1 123 (Nat.le_of_ble_eq_true rfl)) (sm_in (sm_in (And.intro (hG.1 123 (Nat.le_of_ble_eq_true rfl)) (sm_in (sm_in (sm_in (sm_in (And.intro (fun c1 => have k1t := Eq.mp (if_pos c1) k; sm_in (sm_in (sm_in (Exists.intro 11 (And.intro (hG.1 123 (Nat.le_of_ble_eq_true rfl)) (And.intro rfl (sm_calln h1 (Nat.le_of_ble_eq_true rfl) (Nat.le_of_ble_eq_true rfl) k1t))))))) (fun c1 => have k1f := Eq.mp (if_neg c1) k; sm_in (sm_in (And.intro rfl k1f))))))))))))))
set_option maxRecDepth 100000 in
theorem w_X11_feed_25 {ex : sm_O} {d n : Nat} {y : sm_Y} {I : Nat → Nat → Int32} {L : Nat → Nat → Int64} {R : Nat → Nat → Option Nat} {Q : sm_Q} {w1 : Option Value} {w3 : Option Value} {w4 : Option Value} {w5 : Option Value} {a2 : Int32} {d1 : Nat} (hG : sm_G y R) (h1 : d1 < d) (k : sm_W ex d1 0 0 148 0 [some (.ref 123), some (.int a2), none] [] (n, y, I, L, R) (fun r μ1 => sm_W ex d 0 0 149 30 [some (.ref 123), w1, some (.int a2), w3, w4, w5] (r.toList ++ []) μ1 Q)) : sm_W ex d 0 0 149 25 [some (.ref 123), w1, some (.int a2), w3, w4, w5] [] (n, y, I, L, R) Q := sm_in (sm_in (sm_in (Exists.intro 11 (And.intro (hG.1 123 (Nat.le_of_ble_eq_true rfl)) (And.intro rfl (sm_calln h1 (Nat.le_of_ble_eq_true rfl) (Nat.le_of_ble_eq_true rfl) k))))))
set_option maxRecDepth 100000 in
theorem w_X11_feed_30 {ex : sm_O} {d n : Nat} {y : sm_Y} {I : Nat → Nat → Int32} {L : Nat → Nat → Int64} {R : Nat → Nat → Option Nat} {Q : sm_Q} {w1 : Option Value} {w2 : Option Value} {w4 : Option Value} {w5 : Option Value} {a3 : Int32} {d1 : Nat} (hG : sm_G y R) (h1 : d1 < d) (k : sm_W ex d1 0 0 148 0 [some (.ref 123), some (.int a3), none] [] (n, y, I, L, R) (fun r μ1 => sm_W ex d 0 0 149 35 [some (.ref 123), w1, w2, some (.int a3), w4, w5] (r.toList ++ []) μ1 Q)) : sm_W ex d 0 0 149 30 [some (.ref 123), w1, w2, some (.int a3), w4, w5] [] (n, y, I, L, R) Q := sm_in (sm_in (sm_in (Exists.intro 11 (And.intro (hG.1 123 (Nat.le_of_ble_eq_true rfl)) (And.intro rfl (sm_calln h1 (Nat.le_of_ble_eq_true rfl) (Nat.le_of_ble_eq_true rfl) k))))))
set_option maxRecDepth 100000 in
theorem w_X11_feed_35 {ex : sm_O} {d n : Nat} {y : sm_Y} {I : Nat → Nat → Int32} {L : Nat → Nat → Int64} {R : Nat → Nat → Option Nat} {Q : sm_Q} {w1 : Option Value} {w2 : Option Value} {w3 : Option Value} {w5 : Option Value} {a4 : Int32} {d1 : Nat} (hG : sm_G y R) (h1 : d1 < d) (k : sm_W ex d1 0 0 148 0 [some (.ref 123), some (.int a4), none] [] (n, y, I, L, R) (fun r μ1 => sm_W ex d 0 0 149 41 [some (.ref 123), w1, w2, w3, some (.int a4), w5] (r.toList ++ []) μ1 Q)) : sm_W ex d 0 0 149 35 [some (.ref 123), w1, w2, w3, some (.int a4), w5] [] (n, y, I, L, R) Q := sm_in (sm_in (sm_in (Exists.intro 11 (And.intro (hG.1 123 (Nat.le_of_ble_eq_true rfl)) (And.intro rfl (sm_calln h1 (Nat.le_of_ble_eq_true rfl) (Nat.le_of_ble_eq_true rfl) k))))))
set_option maxRecDepth 100000 in
theorem w_X11_feed_41 {ex : sm_O} {d n : Nat} {y : sm_Y} {I : Nat → Nat → Int32} {L : Nat → Nat → Int64} {R : Nat → Nat → Option Nat} {Q : sm_Q} {w1 : Option Value} {w2 : Option Value} {w3 : Option Value} {w4 : Option Value} {a5 : Int32} {d1 : Nat} (hG : sm_G y R) (h1 : d1 < d) (k : sm_W ex d1 0 0 148 0 [some (.ref 123), some (.int a5), none] [] (n, y, I, L, R) (fun r μ1 => sm_W ex d 0 0 149 47 [some (.ref 123), w1, w2, w3, w4, some (.int a5)] (r.toList ++ []) μ1 Q)) : sm_W ex d 0 0 149 41 [some (.ref 123), w1, w2, w3, w4, some (.int a5)] [] (n, y, I, L, R) Q := sm_in (sm_in (sm_in (Exists.intro 11 (And.intro (hG.1 123 (Nat.le_of_ble_eq_true rfl)) (And.intro rfl (sm_calln h1 (Nat.le_of_ble_eq_true rfl) (Nat.le_of_ble_eq_true rfl) k))))))
set_option maxRecDepth 100000 in
theorem w_X11_feed_47 {ex : sm_O} {d n : Nat} {y : sm_Y} {I : Nat → Nat → Int32} {L : Nat → Nat → Int64} {R : Nat → Nat → Option Nat} {Q : sm_Q} {w1 : Option Value} {w2 : Option Value} {w3 : Option Value} {w4 : Option Value} {w5 : Option Value} (hG : sm_G y R) (k : Q (some (.int (I 123 13))) (n, y, I, L, R)) : sm_W ex d 0 0 149 47 [some (.ref 123), w1, w2, w3, w4, w5] [] (n, y, I, L, R) Q := sm_in (sm_in (And.intro (hG.1 123 (Nat.le_of_ble_eq_true rfl)) (sm_in (And.intro rfl k))))
set_option maxRecDepth 100000 in
theorem w_X10_row_0 {ex : sm_O} {d n : Nat} {y : sm_Y} {I : Nat → Nat → Int32} {L : Nat → Nat → Int64} {R : Nat → Nat → Option Nat} {Q : sm_Q} {w1 : Option Value} {w2 : Option Value} {w3 : Option Value} {w4 : Option Value} {d1 : Nat} (hG : sm_G y R) (h1 : d1 < d) (k : if (I 0 12) = 0 then (sm_W ex d1 0 0 122 0 [some (.ref 0), some (.int (-6))] [] (n, y, I, L, R) (fun r μ1 => sm_W ex d 0 0 81 13 [some (.ref 0), w1, w2, w3, w4] (r.toList ++ []) μ1 Q)) else (sm_W ex d 0 0 81 20 [some (.ref 0), some (.int 0), some (.int 0), some (.int 0), w4] [] (n, y, I, L, R) Q)) : sm_W ex d 0 0 81 0 [some (.ref 0), w1, w2, w3, w4] [] (n, y, I, L, R) Q := sm_in (sm_in (And.intro (hG.1 0 (Nat.le_of_ble_eq_true rfl)) (sm_in (And.intro (fun c1 => have k1f := Eq.mp (if_neg c1) k; sm_in (sm_in (And.intro (Nat.le_of_ble_eq_true rfl) (sm_in (sm_in (And.intro (Nat.le_of_ble_eq_true rfl) (sm_in (sm_in (And.intro (Nat.le_of_ble_eq_true rfl) (k1f)))))))))) (fun c1 => have k1t := Eq.mp (if_pos c1) k; sm_in (sm_in (sm_in (Exists.intro 10 (And.intro (hG.1 0 (Nat.le_of_ble_eq_true rfl)) (And.intro rfl (sm_calln h1 (Nat.le_of_ble_eq_true rfl) (Nat.le_of_ble_eq_true rfl) k1t)))))))))))
set_option maxRecDepth 100000 in
theorem w_X10_row_13 {ex : sm_O} {d n : Nat} {y : sm_Y} {I : Nat → Nat → Int32} {L : Nat → Nat → Int64} {R : Nat → Nat → Option Nat} {Q : sm_Q} {w0 : Option Value} {w1 : Option Value} {w2 : Option Value} {w3 : Option Value} {w4 : Option Value} {s0 : Int32} (k : Q (some (.int s0)) (n, y, I, L, R)) : sm_W ex d 0 0 81 13 [w0, w1, w2, w3, w4] [.int s0] (n, y, I, L, R) Q := sm_in (And.intro rfl k)
set_option maxRecDepth 100000 in
theorem w_X10_row_20 {ex : sm_O} {d n : Nat} {y : sm_Y} {I : Nat → Nat → Int32} {L : Nat → Nat → Int64} {R : Nat → Nat → Option Nat} {Q : sm_Q} {w4 : Option Value} {a1 : Int32} {a2 : Int32} {a3 : Int32} {d1 : Nat} (hG : sm_G y R) (hdep : 1 ≤ d) (h1 : d1 < d) (k : if (I 0 12) ≤ a3 then (sm_W ex d 0 0 81 139 [some (.ref 0), some (.int a1), some (.int a2), some (.int a3), w4] [] (n, y, sm_st (sm_st (sm_st I 0 12 0) 0 15 a2) 65 1 0, L, R) Q) else (if (I 0 12) ≤ (a3 + 1) then (sm_W ex d 0 0 81 20 [some (.ref 0), some (.int a1), some (.int (a2 + 1)), some (.int (a3 + 2)), some (.int 0)] [] (n, y, I, L, R) Q) else (if 7 ≤ (I 1 4) then (sm_W ex d 0 0 81 20 [some (.ref 0), some (.int a1), some (.int (a2 + 1)), some (.int (a3 + 2)), some (.int 1)] [] (n, y, I, L, R) Q) else (vp_in a3 400 ∧ vp_in (a3 + 1) 400 ∧ (if (I 119 a3.toNatClampNeg) < 1 then (sm_W ex d 0 0 81 20 [some (.ref 0), some (.int a1), some (.int (a2 + 1)), some (.int (a3 + 2)), some (.int 1)] [] (n, y, I, L, R) Q) else (if 9 < (I 119 a3.toNatClampNeg) then (sm_W ex d 0 0 81 20 [some (.ref 0), some (.int a1), some (.int (a2 + 1)), some (.int (a3 + 2)), some (.int 1)] [] (n, y, I, L, R) Q) else (if (I 119 (a3 + 1).toNatClampNeg) < 0 then (sm_W ex d 0 0 81 20 [some (.ref 0), some (.int a1), some (.int (a2 + 1)), some (.int (a3 + 2)), some (.int 1)] [] (n, y, I, L, R) Q) else (if 63 < (I 119 (a3 + 1).toNatClampNeg) then (sm_W ex d 0 0 81 20 [some (.ref 0), some (.int a1), some (.int (a2 + 1)), some (.int (a3 + 2)), some (.int 1)] [] (n, y, I, L, R) Q) else (sm_W ex d1 0 0 67 0 [some (.ref 1), some (.int (I 119 a3.toNatClampNeg)), some (.int (I 119 (a3 + 1).toNatClampNeg))] [] (n, y, I, L, R) (fun r μ1 => sm_W ex d 0 0 81 103 [some (.ref 0), some (.int a1), some (.int a2), some (.int a3), some (.int 1)] (r.toList ++ []) μ1 Q)))))))))) : sm_W ex d 0 0 81 20 [some (.ref 0), some (.int a1), some (.int a2), some (.int a3), w4] [] (n, y, I, L, R) Q := sm_in (sm_in (sm_in (And.intro (hG.1 0 (Nat.le_of_ble_eq_true rfl)) (sm_in (And.intro (fun c1 => have k1t := Eq.mp (if_pos c1) k; sm_in (sm_in (sm_in (And.intro (hG.1 0 (Nat.le_of_ble_eq_true rfl)) (sm_in (sm_in (sm_in (And.intro (hG.1 0 (Nat.le_of_ble_eq_true rfl)) (sm_in (sm_in (And.intro (hG.1 0 (Nat.le_of_ble_eq_true rfl)) (sm_gfr rfl (hG.2 0 3 rfl) (sm_in (And.intro (hG.1 54 (Nat.le_of_ble_eq_true rfl)) (sm_gfr rfl (hG.2 54 5 rfl) (sm_in (Exists.intro 4 (And.intro (hG.1 65 (Nat.le_of_ble_eq_true rfl)) (And.intro rfl (sm_calln (d1 := 0) (Nat.lt_of_lt_of_le (Nat.le_of_ble_eq_true rfl : 0 < 1) hdep) (Nat.le_of_ble_eq_true rfl) (Nat.le_of_ble_eq_true rfl) (sm_in (sm_in (sm_in (And.intro (hG.1 65 (Nat.le_of_ble_eq_true rfl)) (sm_in (And.intro rfl (And.intro rfl (k1t)))))))))))))))))))))))))))) (fun c1 => have k1f := Eq.mp (if_neg c1) k; sm_in (sm_in (sm_in (sm_in (sm_in (And.intro (hG.1 0 (Nat.le_of_ble_eq_true rfl)) (sm_in (And.intro (fun c2 => have k2t := Eq.mp (if_pos c2) k1f; sm_in (sm_in (And.intro (Nat.le_of_ble_eq_true rfl) (sm_in (sm_in (And.intro (fun _ => sm_in (And.intro (Nat.le_of_ble_eq_true rfl) (sm_in (And.intro (Nat.le_of_ble_eq_true rfl) (sm_in (k2t)))))) (fun c => absurd (by decide : (0 : Int32) = 0) c))))))) (fun c2 => have k2f := Eq.mp (if_neg c2) k1f; sm_in (sm_in (sm_in (And.intro (Nat.le_of_ble_eq_true rfl) (sm_in (sm_in (And.intro (fun c => absurd c (by decide : ¬ (1 : Int32) = 0)) (fun _ => sm_in (sm_in (And.intro (hG.1 0 (Nat.le_of_ble_eq_true rfl)) (sm_gfr rfl (hG.2 0 0 rfl) (sm_in (And.intro (hG.1 1 (Nat.le_of_ble_eq_true rfl)) (sm_in (sm_in (And.intro (fun c3 => have k3t := Eq.mp (if_pos c3) k2f; sm_in (And.intro (Nat.le_of_ble_eq_true rfl) (sm_in (And.intro (Nat.le_of_ble_eq_true rfl) (sm_in (k3t)))))) (fun c3 => have k3f := Eq.mp (if_neg c3) k2f; sm_in (sm_in (And.intro (hG.1 0 (Nat.le_of_ble_eq_true rfl)) (sm_gfr rfl (hG.2 0 11 rfl) (sm_in ((have e4 := k3f.1; have k4 := k3f.2; sm_in (Exists.intro 400 (And.intro (hG.1 119 (Nat.le_of_ble_eq_true rfl)) (And.intro e4 (sm_in (sm_in (And.intro (hG.1 0 (Nat.le_of_ble_eq_true rfl)) (sm_gfr rfl (hG.2 0 11 rfl) (sm_in (sm_in (sm_in ((have e5 := k4.1; have k5 := k4.2; sm_in (Exists.intro 400 (And.intro (hG.1 119 (Nat.le_of_ble_eq_true rfl)) (And.intro e5 (sm_in (And.intro (Nat.le_of_ble_eq_true rfl) (sm_calln (d1 := 0) (Nat.lt_of_lt_of_le (Nat.le_of_ble_eq_true rfl : 0 < 1) hdep) (Nat.le_of_ble_eq_true rfl) (Nat.le_of_ble_eq_true rfl) (sm_in (sm_in (sm_in (And.intro (fun c6 => have k6t := Eq.mp (if_pos c6) k5; sm_in (sm_in (And.intro rfl (And.intro (Or.inl rfl) (sm_in (And.intro (fun _ => sm_in (And.intro (Nat.le_of_ble_eq_true rfl) (sm_in (And.intro (Nat.le_of_ble_eq_true rfl) (sm_in (k6t)))))) (fun c => absurd (by decide : (0 : Int32) = 0) c))))))) (fun c6 => have k6f := Eq.mp (if_neg c6) k5; sm_in (sm_in (sm_in (And.intro (fun c7 => have k7t := Eq.mp (if_pos c7) k6f; sm_in (sm_in (And.intro rfl (And.intro (Or.inl rfl) (sm_in (And.intro (fun _ => sm_in (And.intro (Nat.le_of_ble_eq_true rfl) (sm_in (And.intro (Nat.le_of_ble_eq_true rfl) (sm_in (k7t)))))) (fun c => absurd (by decide : (0 : Int32) = 0) c))))))) (fun c7 => have k7f := Eq.mp (if_neg c7) k6f; sm_in (sm_in (And.intro (fun c8 => have k8t := Eq.mp (if_pos c8) k7f; sm_in (sm_in (And.intro rfl (And.intro (Or.inl rfl) (sm_in (And.intro (fun _ => sm_in (And.intro (Nat.le_of_ble_eq_true rfl) (sm_in (And.intro (Nat.le_of_ble_eq_true rfl) (sm_in (k8t)))))) (fun c => absurd (by decide : (0 : Int32) = 0) c))))))) (fun c8 => have k8f := Eq.mp (if_neg c8) k7f; sm_in (sm_in (sm_in (And.intro (fun c9 => have k9t := Eq.mp (if_pos c9) k8f; sm_in (sm_in (And.intro rfl (And.intro (Or.inl rfl) (sm_in (And.intro (fun _ => sm_in (And.intro (Nat.le_of_ble_eq_true rfl) (sm_in (And.intro (Nat.le_of_ble_eq_true rfl) (sm_in (k9t)))))) (fun c => absurd (by decide : (0 : Int32) = 0) c))))))) (fun c9 => have k9f := Eq.mp (if_neg c9) k8f; sm_in (sm_in (sm_in (And.intro rfl (And.intro (Or.inr rfl) (sm_in (And.intro (fun c => absurd c (by decide : ¬ (1 : Int32) = 0)) (fun _ => sm_in (sm_in (And.intro (hG.1 0 (Nat.le_of_ble_eq_true rfl)) (sm_gfr rfl (hG.2 0 0 rfl) (sm_in (sm_in (And.intro (hG.1 0 (Nat.le_of_ble_eq_true rfl)) (sm_gfr rfl (hG.2 0 11 rfl) (sm_in (sm_in (Exists.intro 400 (And.intro (hG.1 119 (Nat.le_of_ble_eq_true rfl)) (And.intro e4 (sm_in (sm_in (And.intro (hG.1 0 (Nat.le_of_ble_eq_true rfl)) (sm_gfr rfl (hG.2 0 11 rfl) (sm_in (sm_in (sm_in (sm_in (Exists.intro 400 (And.intro (hG.1 119 (Nat.le_of_ble_eq_true rfl)) (And.intro e5 (sm_in (Exists.intro 9 (And.intro (hG.1 1 (Nat.le_of_ble_eq_true rfl)) (And.intro rfl (sm_calln h1 (Nat.le_of_ble_eq_true rfl) (Nat.le_of_ble_eq_true rfl) k9f)))))))))))))))))))))))))))))))))))))))))))))))))))))))))))))))))))))))))))))))))))))))))))))))))))))))))
set_option maxRecDepth 100000 in
theorem w_X10_row_103 {ex : sm_O} {d n : Nat} {y : sm_Y} {I : Nat → Nat → Int32} {L : Nat → Nat → Int64} {R : Nat → Nat → Option Nat} {Q : sm_Q} {w4 : Option Value} {a1 : Int32} {a2 : Int32} {a3 : Int32} {s0 : Int32} (k : sm_W ex d 0 0 81 20 [some (.ref 0), some (.int (a1 + 1)), some (.int a2), some (.int (a3 + 2)), w4] [] (n, y, I, L, R) Q) : sm_W ex d 0 0 81 103 [some (.ref 0), some (.int a1), some (.int a2), some (.int a3), w4] [.int s0] (n, y, I, L, R) Q := sm_in (And.intro rfl (sm_in (And.intro (Nat.le_of_ble_eq_true rfl) (sm_in (sm_in (And.intro (Nat.le_of_ble_eq_true rfl) (sm_in (k))))))))
set_option maxRecDepth 100000 in
theorem w_X10_row_139 {ex : sm_O} {d n : Nat} {y : sm_Y} {I : Nat → Nat → Int32} {L : Nat → Nat → Int64} {R : Nat → Nat → Option Nat} {Q : sm_Q} {w2 : Option Value} {w3 : Option Value} {w4 : Option Value} {a1 : Int32} {d1 : Nat} (hG : sm_G y R) (h1 : d1 < d) (k : sm_W ex d1 0 0 121 0 [some (.ref 0), some (.int a1)] [] (n, y, I, L, R) (fun r μ1 => sm_W ex d 0 0 81 144 [some (.ref 0), some (.int a1), w2, w3, w4] (r.toList ++ []) μ1 Q)) : sm_W ex d 0 0 81 139 [some (.ref 0), some (.int a1), w2, w3, w4] [] (n, y, I, L, R) Q := sm_in (sm_in (sm_in (Exists.intro 10 (And.intro (hG.1 0 (Nat.le_of_ble_eq_true rfl)) (And.intro rfl (sm_calln h1 (Nat.le_of_ble_eq_true rfl) (Nat.le_of_ble_eq_true rfl) k))))))
set_option maxRecDepth 100000 in
theorem w_X10_row_144 {ex : sm_O} {d n : Nat} {y : sm_Y} {I : Nat → Nat → Int32} {L : Nat → Nat → Int64} {R : Nat → Nat → Option Nat} {Q : sm_Q} {w0 : Option Value} {w1 : Option Value} {w2 : Option Value} {w3 : Option Value} {w4 : Option Value} {s0 : Int32} (k : Q (some (.int s0)) (n, y, I, L, R)) : sm_W ex d 0 0 81 144 [w0, w1, w2, w3, w4] [.int s0] (n, y, I, L, R) Q := sm_in (And.intro rfl k)
set_option maxRecDepth 100000 in
theorem w_X11_row_0 {ex : sm_O} {d n : Nat} {y : sm_Y} {I : Nat → Nat → Int32} {L : Nat → Nat → Int64} {R : Nat → Nat → Option Nat} {Q : sm_Q} {w1 : Option Value} {w2 : Option Value} {w3 : Option Value} {d1 : Nat} (hG : sm_G y R) (h1 : d1 < d) (k : if (I 123 13) = 0 then (sm_W ex d1 0 0 128 0 [some (.ref 123), some (.int (-6))] [] (n, y, sm_st (sm_st I 123 0 0) 123 13 0, L, R) (fun r μ1 => sm_W ex d 0 0 146 25 [some (.ref 123), some (.int (I 123 13)), w2, w3] (r.toList ++ []) μ1 Q)) else (sm_W ex d 0 0 146 35 [some (.ref 123), some (.int (I 123 13)), some (.int 0), some (.int 0)] [] (n, y, sm_st (sm_st (sm_st I 123 0 0) 123 13 0) 123 11 0, L, R) Q)) : sm_W ex d 0 0 146 0 [some (.ref 123), w1, w2, w3] [] (n, y, I, L, R) Q := sm_in (sm_in (sm_in (And.intro (hG.1 123 (Nat.le_of_ble_eq_true rfl)) (sm_in (sm_in (And.intro (hG.1 123 (Nat.le_of_ble_eq_true rfl)) (sm_in (And.intro (Nat.le_of_ble_eq_true rfl) (sm_in (sm_in (sm_in (And.intro (hG.1 123 (Nat.le_of_ble_eq_true rfl)) (sm_in (sm_in (And.intro (fun c1 => have k1f := Eq.mp (if_neg c1) k; sm_in (sm_in (sm_in (And.intro (hG.1 123 (Nat.le_of_ble_eq_true rfl)) (sm_in (sm_in (And.intro (Nat.le_of_ble_eq_true rfl) (sm_in (sm_in (And.intro (Nat.le_of_ble_eq_true rfl) (k1f))))))))))) (fun c1 => have k1t := Eq.mp (if_pos c1) k; sm_in (sm_in (sm_in (Exists.intro 11 (And.intro (hG.1 123 (Nat.le_of_ble_eq_true rfl)) (And.intro rfl (sm_calln h1 (Nat.le_of_ble_eq_true rfl) (Nat.le_of_ble_eq_true rfl) k1t))))))))))))))))))))))
set_option maxRecDepth 100000 in
theorem w_X11_row_25 {ex : sm_O} {d n : Nat} {y : sm_Y} {I : Nat → Nat → Int32} {L : Nat → Nat → Int64} {R : Nat → Nat → Option Nat} {Q : sm_Q} {w0 : Option Value} {w1 : Option Value} {w2 : Option Value} {w3 : Option Value} {s0 : Int32} (k : Q (some (.int s0)) (n, y, I, L, R)) : sm_W ex d 0 0 146 25 [w0, w1, w2, w3] [.int s0] (n, y, I, L, R) Q := sm_in (And.intro rfl k)
set_option maxRecDepth 100000 in
theorem w_X11_row_35 {ex : sm_O} {d n : Nat} {y : sm_Y} {I : Nat → Nat → Int32} {L : Nat → Nat → Int64} {R : Nat → Nat → Option Nat} {Q : sm_Q} {a1 : Int32} {a2 : Int32} {a3 : Int32} {d1 : Nat} (hG : sm_G y R) (h1 : d1 < d) (k : if a1 ≤ a3 then (sm_W ex d1 0 0 130 0 [some (.ref 123), some (.int a2)] [] (n, y, I, L, R) (fun r μ1 => sm_W ex d 0 0 146 95 [some (.ref 123), some (.int a1), some (.int a2), some (.int a3)] (r.toList ++ []) μ1 Q)) else (if a1 ≤ (a3 + 1) then (sm_W ex d 0 0 146 35 [some (.ref 123), some (.int a1), some (.int a2), some (.int (a3 + 2))] [] (n, y, sm_st I 123 11 ((I 123 11) + 1), L, R) Q) else (vp_in a3 400 ∧ vp_in (a3 + 1) 400 ∧ sm_W ex d1 0 0 141 0 [some (.ref 123), some (.int (I 132 a3.toNatClampNeg)), some (.int (I 132 (a3 + 1).toNatClampNeg)), none] [] (n, y, I, L, R) (fun r μ1 => sm_W ex d 0 0 146 65 [some (.ref 123), some (.int a1), some (.int a2), some (.int a3)] (r.toList ++ []) μ1 Q)))) : sm_W ex d 0 0 146 35 [some (.ref 123), some (.int a1), some (.int a2), some (.int a3)] [] (n, y, I, L, R) Q := sm_in (sm_in (sm_in (And.intro (fun c1 => have k1t := Eq.mp (if_pos c1) k; sm_in (sm_in (sm_in (Exists.intro 11 (And.intro (hG.1 123 (Nat.le_of_ble_eq_true rfl)) (And.intro rfl (sm_calln h1 (Nat.le_of_ble_eq_true rfl) (Nat.le_of_ble_eq_true rfl) k1t))))))) (fun c1 => have k1f := Eq.mp (if_neg c1) k; sm_in (sm_in (sm_in (sm_in (sm_in (And.intro (fun c2 => have k2t := Eq.mp (if_pos c2) k1f; sm_in (sm_in (And.intro rfl (sm_in (And.intro (hG.1 123 (Nat.le_of_ble_eq_true rfl)) (sm_in (sm_in (sm_in (And.intro (hG.1 123 (Nat.le_of_ble_eq_true rfl)) (sm_in (And.intro (Nat.le_of_ble_eq_true rfl) (sm_in (k2t))))))))))))) (fun c2 => have k2f := Eq.mp (if_neg c2) k1f; sm_in (sm_in (sm_in (And.intro (hG.1 123 (Nat.le_of_ble_eq_true rfl)) (sm_gfr rfl (hG.2 123 12 rfl) (sm_in ((have e3 := k2f.1; have k3 := k2f.2; sm_in (Exists.intro 400 (And.intro (hG.1 132 (Nat.le_of_ble_eq_true rfl)) (And.intro e3 (sm_in (sm_in (And.intro (hG.1 123 (Nat.le_of_ble_eq_true rfl)) (sm_gfr rfl (hG.2 123 12 rfl) (sm_in (sm_in (sm_in ((have e4 := k3.1; have k4 := k3.2; sm_in (Exists.intro 400 (And.intro (hG.1 132 (Nat.le_of_ble_eq_true rfl)) (And.intro e4 (sm_in (Exists.intro 11 (And.intro (hG.1 123 (Nat.le_of_ble_eq_true rfl)) (And.intro rfl (sm_calln h1 (Nat.le_of_ble_eq_true rfl) (Nat.le_of_ble_eq_true rfl) k4)))))))))))))))))))))))))))))))))))))
set_option maxRecDepth 100000 in
theorem w_X11_row_65 {ex : sm_O} {d n : Nat} {y : sm_Y} {I : Nat → Nat → Int32} {L : Nat → Nat → Int64} {R : Nat → Nat → Option Nat} {Q : sm_Q} {a1 : Int32} {a2 : Int32} {a3 : Int32} {s0 : Int32} (hG : sm_G y R) (k : if s0 < 0 then (sm_W ex d 0 0 146 35 [some (.ref 123), some (.int a1), some (.int a2), some (.int (a3 + 2))] [] (n, y, sm_st I 123 11 ((I 123 11) + 1), L, R) Q) else (sm_W ex d 0 0 146 35 [some (.ref 123), some (.int a1), some (.int (a2 + 1)), some (.int (a3 + 2))] [] (n, y, I, L, R) Q)) : sm_W ex d 0 0 146 65 [some (.ref 123), some (.int a1), some (.int a2), some (.int a3)] [.int s0] (n, y, I, L, R) Q := sm_in (And.intro (fun c1 => have k1t := Eq.mp (if_pos c1) k; sm_in (sm_in (And.intro rfl (sm_in (And.intro (hG.1 123 (Nat.le_of_ble_eq_true rfl)) (sm_in (sm_in (sm_in (And.intro (hG.1 123 (Nat.le_of_ble_eq_true rfl)) (sm_in (And.intro (Nat.le_of_ble_eq_true rfl) (sm_in (k1t))))))))))))) (fun c1 => have k1f := Eq.mp (if_neg c1) k; sm_in (And.intro (Nat.le_of_ble_eq_true rfl) (sm_in (sm_in (And.intro (Nat.le_of_ble_eq_true rfl) (sm_in (k1f))))))))
set_option maxRecDepth 100000 in
theorem w_X11_row_95 {ex : sm_O} {d n : Nat} {y : sm_Y} {I : Nat → Nat → Int32} {L : Nat → Nat → Int64} {R : Nat → Nat → Option Nat} {Q : sm_Q} {w0 : Option Value} {w1 : Option Value} {w2 : Option Value} {w3 : Option Value} {s0 : Int32} (k : Q (some (.int s0)) (n, y, I, L, R)) : sm_W ex d 0 0 146 95 [w0, w1, w2, w3] [.int s0] (n, y, I, L, R) Q := sm_in (And.intro rfl k)
-- FEED, ROW
theorem mU_ext {s : St} {u : List (Nat × St)} {I I' : Nat → Nat → Int32} (hu : wU s u) (h : ∀ a j, (a = 123 ∧ j = 8) ∨ a = 129 ∨ (a = 128 ∧ j < 320) → I' a j = I a j) (hs : mU u I) : mU u I' := by
  refine ⟨by rw [h 123 8 (by omega)]; exact hs.1, fun i x hi => ?_⟩
  have hl : i < u.length := (List.getElem?_eq_some_iff.mp hi).1
  have h16 := hu.1
  have hx := hu.2 x (List.mem_of_getElem? hi)
  have h7 : sMen x.2 ≤ 7 := hx.2.1.1.1
  obtain ⟨a1, a2, a3, a4, a5⟩ := hs.2 i x hi
  refine ⟨by rw [h 129 i (by omega)]; exact a1, fun j hj => ?_, ?_, ?_, fun j hj => ?_⟩
  · show I' 128 _ = _; rw [h 128 _ (by omega)]; exact a2 j hj
  · show I' 128 _ = _; rw [h 128 _ (by omega)]; exact a3
  · show I' 128 _ = _; rw [h 128 _ (by omega)]; exact a4
  · show I' 128 _ = _ ∧ I' 128 _ = _; rw [h 128 _ (by omega), h 128 _ (by omega)]; exact a5 j hj
theorem mT_ext {t : Nat × (Nat → Nat)} {I I' : Nat → Nat → Int32} (h : ∀ a j, (a = 123 ∧ j = 13) ∨ a = 132 → I' a j = I a j) (hs : mT t I) : mT t I' := ⟨by rw [h 123 13 (by omega)]; exact hs.1, fun j hj => by rw [h 132 j (by omega)]; exact hs.2 j hj⟩
theorem mN_ext {x : Int32 × Int32 × Int32 × Int32 × (Nat → Int32)} {I I' : Nat → Nat → Int32} (h : ∀ a j, (a = 123 ∧ (j = 11 ∨ j = 18 ∨ j = 55 ∨ j = 1 ∨ j = 20)) ∨ a = 124 → I' a j = I a j) (hs : mN x I) : mN x I' := ⟨by rw [h 123 11 (by omega)]; exact hs.1, by rw [h 123 18 (by omega)]; exact hs.2.1, by rw [h 123 55 (by omega)]; exact hs.2.2.1, by rw [h 123 1 (by omega)]; exact hs.2.2.2.1, by rw [h 123 20 (by omega)]; exact hs.2.2.2.2.1, fun j hj => by rw [h 124 j (by omega)]; exact hs.2.2.2.2.2 j hj⟩
theorem mDr_ext {d : Option St} {I I' : Nat → Nat → Int32} (h : ∀ a j, (a = 123 ∧ j = 59) ∨ a = 155 → I' a j = I a j) (hs : mDr d I) : mDr d I' := by
  have e : I' 155 = I 155 := funext fun j => h 155 j (by omega)
  unfold mDr at hs ⊢
  rw [e, h 123 59 (by omega)]
  exact hs
theorem mIm_ext {im : Nat → Option Sn} {I I' : Nat → Nat → Int32} (h : ∀ a j, a = 126 ∨ a = 127 → I' a j = I a j) (hs : mIm im I) : mIm im I' := by
  have e : I' 126 = I 126 := funext fun j => h 126 j (by omega)
  have e2 : I' 127 = I 127 := funext fun j => h 127 j (by omega)
  unfold mIm at hs ⊢
  rw [e, e2]
  exact hs
/-- bytes of a number -/
def by8 (a : Int32) (i : Nat) : Nat := a.toBitVec.toNat / 2 ^ (24 - 8 * i) % 256
theorem by8_c (a : Int32) : ∀ i, i < 4 → ((a.toUInt32 >>> ((nI (24 - 8 * i)).toUInt32 &&& Int32.toUInt32 31)).toInt32) &&& 255 = nI (by8 a i) := by
  intro i hi
  have key : ∀ (s : Int32) (k : Nat), ((s.toUInt32 &&& Int32.toUInt32 31).toBitVec % 32).toNat = k → ((a.toUInt32 >>> (s.toUInt32 &&& Int32.toUInt32 31)).toInt32) &&& 255 = nI (a.toBitVec.toNat / 2 ^ k % 256) := by
    intro s k hs
    rw [pk_and _ 8 (by decide), pk_ushr a s k hs]
  match i, hi with
  | 0, _ => exact key (nI 24) 24 (by decide)
  | 1, _ => exact key (nI 16) 16 (by decide)
  | 2, _ => exact key (nI 8) 8 (by decide)
  | 3, _ => exact key (nI 0) 0 (by decide)
theorem by8_m (a : Int32) : ∀ i, i < 4 → (a >>> (nI (24 - 8 * i) &&& 31)) &&& 255 = nI (by8 a i) := by
  intro i hi
  have key : ∀ (s : Int32) (k : Nat), k = 24 ∨ k = 16 ∨ k = 8 ∨ k = 0 → (s.toBitVec.smod 32).toNat = k → (a >>> s) &&& 255 = nI (a.toBitVec.toNat / 2 ^ k % 256) := by
    intro s k hk hs
    rw [pk_and _ 8 (by decide)]
    congr 1
    have e := pk_shr a s k hs
    rw [Int.shiftRight_eq_div_pow] at e
    have e1 : (a >>> s).toInt = (a >>> s).toBitVec.toInt := rfl
    have e2 : a.toInt = a.toBitVec.toInt := rfl
    rw [e1, e2, BitVec.toInt_eq_toNat_cond, BitVec.toInt_eq_toNat_cond] at e
    have l1 := (a >>> s).toBitVec.isLt
    have l2 := a.toBitVec.isLt
    show (a >>> s).toBitVec.toNat % 256 = _
    generalize (a >>> s).toBitVec.toNat = V at *
    generalize a.toBitVec.toNat = A at *
    rcases hk with rfl | rfl | rfl | rfl <;> simp only [Nat.reducePow] at * <;> split at e <;> split at e <;> omega
  match i, hi with
  | 0, _ => exact key (nI 24 &&& 31) 24 (by decide) (by decide)
  | 1, _ => exact key (nI 16 &&& 31) 16 (by decide) (by decide)
  | 2, _ => exact key (nI 8 &&& 31) 8 (by decide) (by decide)
  | 3, _ => exact key (nI 0 &&& 31) 0 (by decide) (by decide)
def tpk (t : Nat × (Nat → Nat)) (a : Int32) (i : Nat) : Nat × (Nat → Nat) := (t.1 + i, fun j => if t.1 ≤ j ∧ j < t.1 + i then by8 a (j - t.1) else t.2 j)
theorem tpk_0 (t : Nat × (Nat → Nat)) (a : Int32) : tpk t a 0 = t := by
  unfold tpk
  refine Prod.ext rfl (funext fun j => ?_)
  show (if _ then _ else _) = _
  rw [if_neg (by omega)]
theorem tpk_s (t : Nat × (Nat → Nat)) (a : Int32) (i j : Nat) (h : j ≠ t.1 + i) : (tpk t a (i + 1)).2 j = (tpk t a i).2 j := by
  show (if _ then _ else _) = (if _ then _ else _)
  by_cases q : t.1 ≤ j ∧ j < t.1 + i
  · rw [if_pos q, if_pos (by omega)]
  · rw [if_neg q, if_neg (by omega)]
theorem tpk_n (t : Nat × (Nat → Nat)) (a : Int32) (i : Nat) : (tpk t a (i + 1)).2 (t.1 + i) = by8 a i := by
  show (if _ then _ else _) = _
  rw [if_pos (by omega)]
  congr 1
  omega
theorem tpk_256 {t : Nat × (Nat → Nat)} (h : ∀ j, t.2 j < 256) (a : Int32) (i : Nat) : ∀ j, (tpk t a i).2 j < 256 := by
  intro j
  show (if _ then _ else _) < 256
  split
  · exact Nat.mod_lt _ (by decide)
  · exact h j
theorem c_X10_put {ex : sm_O} {n : Nat} {y : sm_Y} {I : Nat → Nat → Int32} {L : Nat → Nat → Int64} {R : Nat → Nat → Option Nat} {Q : sm_Q} {d : Nat} {w2 : Option Value} {t : Nat × (Nat → Nat)} {a : Int32} (hG : sm_G y R) (hT : cT t I) (h4 : t.1 + 4 ≤ 400)
    (k : ∀ (I' : Nat → Nat → Int32), (∀ a j, ¬ (a = 0 ∧ j = 12) → a ≠ 119 → I' a j = I a j) → cT (tpk t a 4) I' → Q none (n, y, I', L, R)) : sm_W ex d 0 0 116 0 [some (.ref 0), some (.int a), w2] [] (n, y, I, L, R) Q := by
  have step : ∀ (i : Nat) (I1 : Nat → Nat → Int32) (v : Int32), i < 4 → nI (24 - 8 * i) + (-8) = v → (∀ a j, ¬ (a = 0 ∧ j = 12) → a ≠ 119 → I1 a j = I a j) → cT (tpk t a i) I1 → (∀ (I2 : Nat → Nat → Int32), (∀ a j, ¬ (a = 0 ∧ j = 12) → a ≠ 119 → I2 a j = I a j) → cT (tpk t a (i + 1)) I2 → sm_W ex d 0 0 116 3 [some (.ref 0), some (.int a), some (.int v)] [] (n, y, I2, L, R) Q) → sm_W ex d 0 0 116 3 [some (.ref 0), some (.int a), some (.int (nI (24 - 8 * i)))] [] (n, y, I1, L, R) Q := by
    intro i I1 v hi hv hf hc kk
    refine w_X10_putOnTape_3 hG ?_
    have e0 : I1 0 12 = nI (t.1 + i) := hc.1
    rw [if_neg (nI_pos (by omega)), e0, if_neg (by rw [sm_of 400, nI_leI (by decide) (by omega)]; omega), nI_clamp (by omega), by8_c a i hi, hv, sm_n1]
    refine ⟨vp_in_nI (by omega) (by decide), kk _ (fun a j h1 h2 => ?_) ⟨sm_st_s _ _ _ _, fun j hj => ?_⟩⟩
    · rw [sm_st_or _ _ (by omega), sm_st_or _ _ (by omega)]
      exact hf a j h1 h2
    · rw [sm_st_o _ _ (by decide)]
      by_cases q : j = t.1 + i
      · subst q
        rw [sm_st_s, tpk_n]
      · have hj : j < t.1 + (i + 1) := hj
        rw [sm_st_j _ _ q, tpk_s _ _ _ _ q]
        exact hc.2 j (show j < t.1 + i by omega)
  refine w_X10_putOnTape_0 ?_
  refine step 0 I (nI 16) (by decide) (by decide) (fun _ _ _ _ => rfl) (by rw [tpk_0]; exact hT) ?_
  intro I1 f1 c1
  refine step 1 I1 (nI 8) (by decide) (by decide) f1 c1 ?_
  intro I2 f2 c2
  refine step 2 I2 (nI 0) (by decide) (by decide) f2 c2 ?_
  intro I3 f3 c3
  refine step 3 I3 (-8) (by decide) (by decide) f3 c3 ?_
  intro I4 f4 c4
  refine w_X10_putOnTape_3 hG ?_
  rw [if_pos (by decide)]
  exact k I4 f4 c4
theorem c_X11_four {ex : sm_O} {n : Nat} {y : sm_Y} {I : Nat → Nat → Int32} {L : Nat → Nat → Int64} {R : Nat → Nat → Option Nat} {Q : sm_Q} {d : Nat} {w2 : Option Value} {t : Nat × (Nat → Nat)} {a : Int32} (hG : sm_G y R) (hT : mT t I) (h4 : t.1 + 4 ≤ 400)
    (k : ∀ (I' : Nat → Nat → Int32), (∀ a j, ¬ (a = 123 ∧ j = 13) → a ≠ 132 → I' a j = I a j) → mT (tpk t a 4) I' → Q none (n, y, I', L, R)) : sm_W ex d 0 0 148 0 [some (.ref 123), some (.int a), w2] [] (n, y, I, L, R) Q := by
  have step : ∀ (i : Nat) (I1 : Nat → Nat → Int32) (v : Int32), i < 4 → nI (24 - 8 * i) + (-8) = v → (∀ a j, ¬ (a = 123 ∧ j = 13) → a ≠ 132 → I1 a j = I a j) → mT (tpk t a i) I1 → (∀ (I2 : Nat → Nat → Int32), (∀ a j, ¬ (a = 123 ∧ j = 13) → a ≠ 132 → I2 a j = I a j) → mT (tpk t a (i + 1)) I2 → sm_W ex d 0 0 148 3 [some (.ref 123), some (.int a), some (.int v)] [] (n, y, I2, L, R) Q) → sm_W ex d 0 0 148 3 [some (.ref 123), some (.int a), some (.int (nI (24 - 8 * i)))] [] (n, y, I1, L, R) Q := by
    intro i I1 v hi hv hf hc kk
    refine w_X11_four_3 hG ?_
    have e0 : I1 123 13 = nI (t.1 + i) := hc.1
    rw [if_neg (nI_pos (by omega)), e0, nI_clamp (by omega), by8_m a i hi, hv, sm_n1]
    refine ⟨vp_in_nI (by omega) (by decide), kk _ (fun a j h1 h2 => ?_) ⟨sm_st_s _ _ _ _, fun j hj => ?_⟩⟩
    · rw [sm_st_or _ _ (by omega), sm_st_or _ _ (by omega)]
      exact hf a j h1 h2
    · rw [sm_st_o _ _ (by decide)]
      by_cases q : j = t.1 + i
      · subst q
        rw [sm_st_s, tpk_n]
      · have hj : j < t.1 + (i + 1) := hj
        rw [sm_st_j _ _ q, tpk_s _ _ _ _ q]
        exact hc.2 j (show j < t.1 + i by omega)
  refine w_X11_four_0 ?_
  refine step 0 I (nI 16) (by decide) (by decide) (fun _ _ _ _ => rfl) (by rw [tpk_0]; exact hT) ?_
  intro I1 f1 c1
  refine step 1 I1 (nI 8) (by decide) (by decide) f1 c1 ?_
  intro I2 f2 c2
  refine step 2 I2 (nI 0) (by decide) (by decide) f2 c2 ?_
  intro I3 f3 c3
  refine step 3 I3 (-8) (by decide) (by decide) f3 c3 ?_
  intro I4 f4 c4
  refine w_X11_four_3 hG ?_
  rw [if_pos (by decide)]
  exact k I4 f4 c4
def tp5 (t : Nat × (Nat → Nat)) (a b c d e : Int32) : Nat × (Nat → Nat) := tpk (tpk (tpk (tpk (tpk t a 4) b 4) c 4) d 4) e 4
def f_feed (g : GG) (a b c d e : Int32) : Int32 × GG := if (gT g).1 + 20 ≤ 400 then (nI ((gT g).1 + 20), gTa g (tp5 (gT g) a b c d e)) else (-1, g)
theorem Wf_feed {g : GG} (hw : Wf g) (a b c d e : Int32) : Wf (f_feed g a b c d e).2 := by
  unfold f_feed
  split
  · rename_i h
    obtain ⟨h1, h2, h3, h4, h5, h6⟩ := hw
    refine ⟨h1, h2, h3, h4, ?_, tpk_256 (tpk_256 (tpk_256 (tpk_256 (tpk_256 h6 a 4) b 4) c 4) d 4) e 4⟩
    show (gT g).1 + 4 + 4 + 4 + 4 + 4 ≤ 400
    omega
  · exact hw
theorem C_feed {ex : sm_O} {d : Nat} {g : GG} {a b c e f : Int32} (hd : 1 ≤ d) (hw : Wf g) : CM ex d 79 [some (.ref 0), some (.int a), some (.int b), some (.int c), some (.int e), some (.int f)] g (f_feed g a b c e f).1 (f_feed g a b c e f).2 := by
  intro n y I L R Q hc k
  have hT := hc.2.2.2.2.2.2.1
  have hG := hc.2.1
  have h4 := hw.2.2.2.2.1
  unfold f_feed at k
  refine w_X10_feed_0 (d1 := 0) hG (by omega) ?_
  have e20 : nI (gT g).1 + 20 = nI ((gT g).1 + 20) := nI_add _ 20
  rw [hT.1, e20]
  by_cases h : (gT g).1 + 20 ≤ 400
  · rw [if_pos h] at k
    rw [if_pos (by rw [sm_of 400, nI_leI (by omega) (by decide)]; exact h)]
    refine c_X10_put hG hT (by omega) ?_
    intro I1 f1 c1
    refine w_X10_feed_20 (d1 := 0) hG (by omega) (c_X10_put hG c1 (by show (gT g).1 + 4 + 4 ≤ 400; omega) ?_)
    intro I2 f2 c2
    refine w_X10_feed_25 (d1 := 0) hG (by omega) (c_X10_put hG c2 (by show (gT g).1 + 4 + 4 + 4 ≤ 400; omega) ?_)
    intro I3 f3 c3
    refine w_X10_feed_30 (d1 := 0) hG (by omega) (c_X10_put hG c3 (by show (gT g).1 + 4 + 4 + 4 + 4 ≤ 400; omega) ?_)
    intro I4 f4 c4
    refine w_X10_feed_36 (d1 := 0) hG (by omega) (c_X10_put hG c4 (by show (gT g).1 + 4 + 4 + 4 + 4 + 4 ≤ 400; omega) ?_)
    intro I5 f5 c5
    refine w_X10_feed_42 hG ?_
    have ff : ∀ a j, ¬ (a = 0 ∧ j = 12) → a ≠ 119 → I5 a j = I a j := fun a j p q => ((((f5 a j p q).trans (f4 a j p q)).trans (f3 a j p q)).trans (f2 a j p q)).trans (f1 a j p q)
    rw [c5.1]
    refine k I5 L ⟨hc.1, hc.2.1, cS_kept2 (fun a j q => ff a j (by omega) (by omega)) hc.2.2.1, cP_kept (fun a j q => ff a j (by omega) (by omega)) hc.2.2.2.1, cB_kept hw.1.2.2.1 (fun a j q => ff a j (by omega) (by omega)) hc.2.2.2.2.1, cU_kept (fun a j q => ff a j (by omega) (by omega)) hc.2.2.2.2.2.1, c5, cN_kept (fun a j q => ff a j (by omega) (by omega)) hc.2.2.2.2.2.2.2.1, cDr_kept (fun a j q => ff a j (by omega) (by omega)) hc.2.2.2.2.2.2.2.2.1, cIm_kept hw.2.2.2.1 (fun a j q => ff a j (by omega) (by omega)) hc.2.2.2.2.2.2.2.2.2.1, cCa_kept (fun a j q => ff a j (by omega) (by omega)) hc.2.2.2.2.2.2.2.2.2.2⟩ (cKeep_c (fun a j q => ff a j (by omega) (by omega)))
  · rw [if_neg h] at k
    rw [if_neg (by rw [sm_of 400, nI_leI (by omega) (by decide)]; exact h)]
    exact k I L hc (cKeep.rfl' I L)
theorem M_feed {ex : sm_O} {d : Nat} {g : GG} {a b c e f : Int32} (hd : 1 ≤ d) (hw : Wf g) : MM ex d 149 [some (.ref 123), some (.int a), some (.int b), some (.int c), some (.int e), some (.int f)] g (f_feed g a b c e f).1 (f_feed g a b c e f).2 := by
  intro n y I L R Q hG hm k
  have hT := hm.2.2.2.2.1
  have h4 := hw.2.2.2.2.1
  unfold f_feed at k
  refine w_X11_feed_0 (d1 := 0) hG (by omega) ?_
  have e20 : nI (gT g).1 + 20 = nI ((gT g).1 + 20) := nI_add _ 20
  rw [hT.1, e20]
  by_cases h : (gT g).1 + 20 ≤ 400
  · rw [if_pos h] at k
    rw [if_pos (by rw [sm_of 400, nI_leI (by omega) (by decide)]; exact h)]
    have hT0 : mT (gT g) (sm_st I 123 0 0) := hT
    refine c_X11_four hG hT0 (by omega) ?_
    intro I1 f1 c1
    refine w_X11_feed_25 (d1 := 0) hG (by omega) (c_X11_four hG c1 (by show (gT g).1 + 4 + 4 ≤ 400; omega) ?_)
    intro I2 f2 c2
    refine w_X11_feed_30 (d1 := 0) hG (by omega) (c_X11_four hG c2 (by show (gT g).1 + 4 + 4 + 4 ≤ 400; omega) ?_)
    intro I3 f3 c3
    refine w_X11_feed_35 (d1 := 0) hG (by omega) (c_X11_four hG c3 (by show (gT g).1 + 4 + 4 + 4 + 4 ≤ 400; omega) ?_)
    intro I4 f4 c4
    refine w_X11_feed_41 (d1 := 0) hG (by omega) (c_X11_four hG c4 (by show (gT g).1 + 4 + 4 + 4 + 4 + 4 ≤ 400; omega) ?_)
    intro I5 f5 c5
    refine w_X11_feed_47 hG ?_
    have ff : ∀ a j, ¬ (a = 123 ∧ (j = 13 ∨ j = 0)) → a ≠ 132 → I5 a j = I a j := fun a j p q => (((((f5 a j (by omega) q).trans (f4 a j (by omega) q)).trans (f3 a j (by omega) q)).trans (f2 a j (by omega) q)).trans (f1 a j (by omega) q)).trans (sm_st_or _ _ (by omega))
    rw [c5.1]
    refine k I5 L ⟨mS_ext (fun j q => ff 125 j (by omega) (by omega)) hw.1.1.1.1 hm.1, mP_ext (fun j q => ff 125 j (by omega) (by omega)) hw.1.2.1.1 hm.2.1, mB_ext (fun j q => ff 125 j (by omega) (by omega)) hw.1.2.2.1 hm.2.2.1, mU_ext hw.2.1 (fun a j q => ff a j (by omega) (by omega)) hm.2.2.2.1, c5, mN_ext (fun a j q => ff a j (by omega) (by omega)) hm.2.2.2.2.2.1, mDr_ext (fun a j q => ff a j (by omega) (by omega)) hm.2.2.2.2.2.2.1, mIm_ext (fun a j q => ff a j (by omega) (by omega)) hm.2.2.2.2.2.2.2.1, hm.2.2.2.2.2.2.2.2⟩ (fun a j q => ff a j (by omega) (by omega))
  · rw [if_neg h] at k
    rw [if_neg (by rw [sm_of 400, nI_leI (by omega) (by decide)]; exact h)]
    exact k _ L (MI_thr hm) (mKeep_thr I)
-- row

noncomputable def sp_row (t : Nat × (Nat → Nat)) : Nat → Nat → St → Nat → Nat → St × Nat × Nat
  | 0, _, s, c, f => (s, c, f)
  | q + 1, i, s, c, f => if t.1 ≤ i then (s, c, f) else if i + 1 < t.1 ∧ sMen s < 7 ∧ (1 ≤ t.2 i ∧ t.2 i ≤ 9) ∧ t.2 (i + 1) ≤ 63 then sp_row t q (i + 2) (sp_add s (t.2 i) (t.2 (i + 1))) (c + 1) f else sp_row t q (i + 2) s c (f + 1)
theorem sp_row_end (t : Nat × (Nat → Nat)) : ∀ (q i : Nat) (s : St) (c f : Nat), t.1 ≤ i → sp_row t q i s c f = (s, c, f)
  | 0, _, _, _, _, _ => rfl
  | q + 1, i, s, c, f, h => by
    show (if _ then _ else _) = _
    rw [if_pos h]
theorem sp_row_w (t : Nat × (Nat → Nat)) : ∀ (q i : Nat) (s : St) (c f : Nat), wS s → c + q ≤ 1000 → wS (sp_row t q i s c f).1 ∧ (sp_row t q i s c f).2.1 ≤ 1000
  | 0, _, _, _, _, h, hc => ⟨h, hc⟩
  | q + 1, i, s, c, f, h, hc => by
    unfold sp_row
    split
    · exact ⟨h, by show c ≤ 1000; omega⟩
    · split
      · rename_i z
        exact sp_row_w t q _ _ _ _ (wS_add h z.2.1 z.2.2.1 z.2.2.2) (by omega)
      · exact sp_row_w t q _ _ _ _ h (by omega)
noncomputable def g_row (g : GG) : GG := gNu (gTa (gUn (gKe g ((sp_row (gT g) 200 0 (gS g) 0 0).1, gP g, gB g)) []) (0, (gT g).2)) (nI (sp_row (gT g) 200 0 (gS g) 0 0).2.2, (gN g).2)
noncomputable def f_row (g : GG) : Int32 × GG := if (gT g).1 = 0 then (-6, gRe g 6) else (nI (sp_row (gT g) 200 0 (gS g) 0 0).2.1, gSt (g_row g) 0)
theorem Wf_grow {g : GG} (hw : Wf g) : Wf (g_row g) := ⟨⟨(sp_row_w (gT g) 200 0 (gS g) 0 0 hw.1.1 (by omega)).1, hw.1.2⟩, ⟨Nat.zero_le _, fun _ q => by cases q⟩, hw.2.2.1, hw.2.2.2.1, Nat.zero_le _, hw.2.2.2.2.2⟩
theorem Wf_row {g : GG} (hw : Wf g) : Wf (f_row g).2 := by
  unfold f_row
  split
  · exact Wf_re hw 6
  · exact Wf_st (Wf_grow hw) 0
theorem C_row {ex : sm_O} {d : Nat} {w1 w2 w3 w4 : Option Value} {g : GG} (hd : 2 ≤ d) (hw : Wf g) : CM ex d 81 [some (.ref 0), w1, w2, w3, w4] g (f_row g).1 (f_row g).2 := by
  intro n y I L R Q hc k
  have hT := hc.2.2.2.2.2.2.1
  have hG := hc.2.1
  have h4 := hw.2.2.2.2.1
  have h256 := hw.2.2.2.2.2
  unfold f_row at k
  refine w_X10_row_0 (d1 := 1) hG (by omega) ?_
  rw [hT.1]
  by_cases h0 : (gT g).1 = 0
  · rw [if_pos h0] at k
    rw [h0, if_pos (by decide)]
    refine c_X10_refused (j := 6) hG (by omega) (by decide) ?_
    exact w_X10_row_13 (k _ L (CI_ref hw hc (by omega)) (cKeep_ref 6 I L))
  · rw [if_neg h0] at k
    rw [if_neg (nI_ne0 (by omega) (by omega))]
    have fin : ∀ (i : Nat) (s : St) (c f : Nat) (I1 : Nat → Nat → Int32) (u4 : Option Value), (s, c, f) = sp_row (gT g) 200 0 (gS g) 0 0 → i ≤ 402 → (gT g).1 ≤ i → cS s 1 I1 → (∀ a j, ¬ (a = 1 ∧ j = 4) → ¬ (2 ≤ a ∧ a ≤ 4) → I1 a j = I a j) → sm_W ex d 0 0 81 20 [some (.ref 0), some (.int (nI c)), some (.int (nI f)), some (.int (nI i)), u4] [] (n, y, I1, L, R) Q := by
      intro i s c f I1 u4 he hi hle hcs hf
      have e12 : I1 0 12 = nI (gT g).1 := (hf 0 12 (by omega) (by omega)).trans hT.1
      refine w_X10_row_20 (d1 := 1) hG (by omega) (by omega) ?_
      rw [e12, if_pos (by rw [nI_leI (by omega) (by omega)]; omega)]
      refine w_X10_row_139 (d1 := 1) hG (by omega) ?_
      refine c_X10_accepted hG ?_
      refine w_X10_row_144 ?_
      have r1 : (sp_row (gT g) 200 0 (gS g) 0 0).1 = s := by rw [← he]
      have r2 : (sp_row (gT g) 200 0 (gS g) 0 0).2.1 = c := by rw [← he]
      have r3 : (sp_row (gT g) 200 0 (gS g) 0 0).2.2 = f := by rw [← he]
      have fr : ∀ a j, ¬ (a = 1 ∧ j = 4) → ¬ (2 ≤ a ∧ a ≤ 4) → ¬ (a = 0 ∧ (j = 12 ∨ j = 15)) → ¬ (a = 65 ∧ j = 1) → (sm_st (sm_st (sm_st I1 0 12 0) 0 15 (nI f)) 65 1 0) a j = I a j := fun a j h1 h2 h3 h4 => by
        rw [sm_st_or _ _ (by omega), sm_st_or _ _ (by omega), sm_st_or _ _ (by omega)]
        exact hf a j h1 h2
      have k1 := k (accI (sm_st (sm_st (sm_st I1 0 12 0) 0 15 (nI f)) 65 1 0)) L (CI_acc (Wf_grow hw) ⟨hc.1, hG, ?_, cP_kept (fun a j q => fr a j (by omega) (by omega) (by omega) (by omega)) hc.2.2.2.1, cB_kept hw.1.2.2.1 (fun a j q => fr a j (by omega) (by omega) (by omega) (by omega)) hc.2.2.2.2.1, ⟨sm_st_s _ _ _ _, fun i x q => by cases q⟩, ⟨?_, fun j hj => absurd hj (by show ¬ j < 0; omega)⟩, ?_, cDr_kept (fun a j q => fr a j (by omega) (by omega) (by omega) (by omega)) hc.2.2.2.2.2.2.2.2.1, cIm_kept hw.2.2.2.1 (fun a j q => fr a j (by omega) (by omega) (by omega) (by omega)) hc.2.2.2.2.2.2.2.2.2.1⟩) ((cKeep_c (fun a j q => fr a j (by omega) (by omega) (by omega) (by omega))).trans (cKeep_acc _ L))
      · rw [r2] at k1
        exact k1
      · show cS (sp_row (gT g) 200 0 (gS g) 0 0).1 1 _
        rw [r1]
        exact cS_kept2 (fun a j q => by rw [sm_st_or _ _ (by omega), sm_st_or _ _ (by omega), sm_st_or _ _ (by omega)]) hcs
      · rw [sm_st_o _ _ (by decide), sm_st_j _ _ (by decide), sm_st_s]
        rfl
      · have hn := hc.2.2.2.2.2.2.2.1
        refine ⟨?_, (fr 0 16 (by omega) (by omega) (by omega) (by omega)).trans hn.2.1, (fr 54 9 (by omega) (by omega) (by omega) (by omega)).trans hn.2.2.1, (fr 0 18 (by omega) (by omega) (by omega) (by omega)).trans hn.2.2.2.1, fun j hj => (fr 122 j (by omega) (by omega) (by omega) (by omega)).trans (hn.2.2.2.2 j hj)⟩
        show _ = nI (sp_row (gT g) 200 0 (gS g) 0 0).2.2
        rw [r3, sm_st_o _ _ (by decide), sm_st_s]
    have key : ∀ (q i : Nat) (s : St) (c f : Nat) (I1 : Nat → Nat → Int32) (u4 : Option Value), 400 ≤ i + 2 * q → i ≤ 402 → wS s → cS s 1 I1 → (∀ a j, ¬ (a = 1 ∧ j = 4) → ¬ (2 ≤ a ∧ a ≤ 4) → I1 a j = I a j) → sp_row (gT g) q i s c f = sp_row (gT g) 200 0 (gS g) 0 0 → sm_W ex d 0 0 81 20 [some (.ref 0), some (.int (nI c)), some (.int (nI f)), some (.int (nI i)), u4] [] (n, y, I1, L, R) Q := by
      intro q
      induction q with
      | zero =>
        intro i s c f I1 u4 hq hi hs hcs hf he
        exact fin i s c f I1 u4 he hi (by omega) hcs hf
      | succ q ih =>
        intro i s c f I1 u4 hq hi hs hcs hf he
        by_cases hle : (gT g).1 ≤ i
        · rw [sp_row_end _ _ _ _ _ _ hle] at he
          exact fin i s c f I1 u4 he hi hle hcs hf
        have hstep : sp_row (gT g) (q + 1) i s c f = if (gT g).1 ≤ i then (s, c, f) else if i + 1 < (gT g).1 ∧ sMen s < 7 ∧ (1 ≤ (gT g).2 i ∧ (gT g).2 i ≤ 9) ∧ (gT g).2 (i + 1) ≤ 63 then sp_row (gT g) q (i + 2) (sp_add s ((gT g).2 i) ((gT g).2 (i + 1))) (c + 1) f else sp_row (gT g) q (i + 2) s c (f + 1) := rfl
        rw [hstep, if_neg hle] at he
        have e12 : I1 0 12 = nI (gT g).1 := (hf 0 12 (by omega) (by omega)).trans hT.1
        have hsm : sMen s ≤ 7 := hs.1.1
        have e1 : nI i + 1 = nI (i + 1) := nI_1 i
        have e2 : nI i + 2 = nI (i + 2) := nI_add i 2
        have fl : ∀ u : Option Value, sp_row (gT g) q (i + 2) s c (f + 1) = sp_row (gT g) 200 0 (gS g) 0 0 → sm_W ex d 0 0 81 20 [some (.ref 0), some (.int (nI c)), some (.int (nI (f + 1))), some (.int (nI (i + 2))), u] [] (n, y, I1, L, R) Q := fun u hq => ih (i + 2) s c (f + 1) I1 u (by omega) (by omega) hs hcs hf hq
        refine w_X10_row_20 (d1 := 1) hG (by omega) (by omega) ?_
        rw [e12, e1, e2, sm_n1 f, if_neg (by rw [nI_leI (by omega) (by omega)]; omega)]
        by_cases c1 : i + 1 < (gT g).1
        · rw [if_neg (by rw [nI_leI (by omega) (by omega)]; omega), hcs.1]
          by_cases c2 : sMen s < 7
          · rw [if_neg (by rw [sm_of 7, nI_leI (by decide) (by omega)]; omega)]
            refine ⟨vp_in_nI (by omega) (by decide), vp_in_nI (by omega) (by decide), ?_⟩
            have t1 : I1 119 i = nI ((gT g).2 i) := (hf 119 i (by omega) (by omega)).trans (hT.2 i (by omega))
            have t2 : I1 119 (i + 1) = nI ((gT g).2 (i + 1)) := (hf 119 (i + 1) (by omega) (by omega)).trans (hT.2 (i + 1) (by omega))
            have l1 := h256 i
            have l2 := h256 (i + 1)
            rw [nI_clamp (by omega), nI_clamp (by omega), t1, t2]
            by_cases c3 : 1 ≤ (gT g).2 i
            · rw [if_neg (by rw [sm_of 1, nI_ltI (by omega) (by decide)]; omega)]
              by_cases c4 : (gT g).2 i ≤ 9
              · rw [if_neg (by rw [sm_of 9, nI_ltI (by decide) (by omega)]; omega), if_neg (nI_pos (by omega))]
                by_cases c5 : (gT g).2 (i + 1) ≤ 63
                · rw [if_neg (by rw [sm_of 63, nI_ltI (by decide) (by omega)]; omega)]
                  rw [if_pos ⟨c1, c2, ⟨c3, c4⟩, c5⟩] at he
                  refine c_X9_add (mk1 hG).1 hcs c2 ?_
                  intro I2 hf2 hs2
                  refine w_X10_row_103 ?_
                  rw [sm_n1, e2]
                  exact ih (i + 2) _ (c + 1) f I2 _ (by omega) (by omega) (wS_add hs c2 ⟨c3, c4⟩ c5) hs2 (fun a j h1 h2 => (hf2 a j h1 (by omega)).trans (hf a j h1 h2)) he
                · rw [if_pos (by rw [sm_of 63, nI_ltI (by decide) (by omega)]; omega)]
                  rw [if_neg (fun z => c5 z.2.2.2)] at he
                  exact fl _ he
              · rw [if_pos (by rw [sm_of 9, nI_ltI (by decide) (by omega)]; omega)]
                rw [if_neg (fun z => c4 z.2.2.1.2)] at he
                exact fl _ he
            · rw [if_pos (by rw [sm_of 1, nI_ltI (by omega) (by decide)]; omega)]
              rw [if_neg (fun z => c3 z.2.2.1.1)] at he
              exact fl _ he
          · rw [if_pos (by rw [sm_of 7, nI_leI (by decide) (by omega)]; omega)]
            rw [if_neg (fun z => c2 z.2.1)] at he
            exact fl _ he
        · rw [if_pos (by rw [nI_leI (by omega) (by omega)]; omega)]
          rw [if_neg (fun z => c1 z.1)] at he
          exact fl _ he
    exact key 200 0 (gS g) 0 0 I _ (by omega) (by omega) hw.1.1 hc.2.2.1 (fun _ _ _ _ => rfl) rfl
theorem M_row {ex : sm_O} {d : Nat} {w1 w2 w3 : Option Value} {g : GG} (hd : 2 ≤ d) (hw : Wf g) : MM ex d 146 [some (.ref 123), w1, w2, w3] g (f_row g).1 (f_row g).2 := by
  intro n y I L R Q hG hm k
  have hT := hm.2.2.2.2.1
  have h4 := hw.2.2.2.2.1
  have h256 := hw.2.2.2.2.2
  unfold f_row at k
  refine w_X11_row_0 (d1 := 1) hG (by omega) ?_
  rw [hT.1]
  by_cases h0 : (gT g).1 = 0
  · rw [if_pos h0] at k
    rw [h0, if_pos (by decide)]
    refine c_X11_tellN (j := 6) hG (by omega) (by decide) ?_
    have hm0 : MI g (sm_st (sm_st I 123 0 0) 123 13 0) L := by
      have e : sm_st (sm_st I 123 0 0) 123 13 0 = sm_st I 123 0 0 := by
        have := sm_st_id (sm_st I 123 0 0) 123 13
        rw [show (sm_st I 123 0 0) 123 13 = 0 from by rw [sm_st_j _ _ (by decide), hT.1, h0]; rfl] at this
        exact this
      rw [e]
      exact MI_thr hm
    exact w_X11_row_25 (k _ L (MI_ref hm0) (((mKeep_thr I).trans (mKeep.s _ (by omega) 13 0)).trans (mKeep_rfu 6 _)))
  · rw [if_neg h0] at k
    rw [if_neg (nI_ne0 (by omega) (by omega))]
    have fin : ∀ (i : Nat) (s : St) (c f : Nat) (I1 : Nat → Nat → Int32), (s, c, f) = sp_row (gT g) 200 0 (gS g) 0 0 → i ≤ 402 → (gT g).1 ≤ i → mS s (I1 125) → I1 123 11 = nI f → I1 123 13 = 0 → (∀ a j, ¬ (a = 125 ∧ (j = 0 ∨ (10 ≤ j ∧ j < 38))) → ¬ (a = 123 ∧ (j = 0 ∨ j = 11 ∨ j = 13)) → I1 a j = I a j) → sm_W ex d 0 0 146 35 [some (.ref 123), some (.int (nI (gT g).1)), some (.int (nI c)), some (.int (nI i))] [] (n, y, I1, L, R) Q := by
      intro i s c f I1 he hi hle hms h11 h13 hf
      have r1 : (sp_row (gT g) 200 0 (gS g) 0 0).1 = s := by rw [← he]
      have r2 : (sp_row (gT g) 200 0 (gS g) 0 0).2.1 = c := by rw [← he]
      have r3 : (sp_row (gT g) 200 0 (gS g) 0 0).2.2 = f := by rw [← he]
      have hcl := (sp_row_w (gT g) 200 0 (gS g) 0 0 hw.1.1 (by omega)).2
      refine w_X11_row_35 (d1 := 1) hG (by omega) ?_
      rw [if_pos (by rw [nI_leI (by omega) (by omega)]; omega)]
      refine c_X11_lastP (by omega) hG (nI_pos' (by omega)) ?_
      refine w_X11_row_95 ?_
      have k1 := k (telI (sm_st I1 123 8 0)) L (MI_acc (g := g_row g) ⟨?_, mP_ext (fun j q => by rw [sm_st_o _ _ (by decide)]; exact hf 125 j (by omega) (by omega)) hw.1.2.1.1 hm.2.1, mB_ext (fun j q => by rw [sm_st_o _ _ (by decide)]; exact hf 125 j (by omega) (by omega)) hw.1.2.2.1 hm.2.2.1, ⟨sm_st_s _ _ _ _, fun i x q => by cases q⟩, ⟨?_, fun j hj => absurd hj (by show ¬ j < 0; omega)⟩, ?_, mDr_ext (fun a j q => by rw [sm_st_or _ _ (by omega)]; exact hf a j (by omega) (by omega)) hm.2.2.2.2.2.2.1, mIm_ext (fun a j q => by rw [sm_st_or _ _ (by omega)]; exact hf a j (by omega) (by omega)) hm.2.2.2.2.2.2.2.1, hm.2.2.2.2.2.2.2.2⟩) ?_
      · rw [r2] at k1
        exact k1
      · show mS (sp_row (gT g) 200 0 (gS g) 0 0).1 _
        rw [r1]
        exact mS_ext (fun j q => sm_st_o _ _ (by decide)) (by rw [← r1]; exact (sp_row_w (gT g) 200 0 (gS g) 0 0 hw.1.1 (by omega)).1.1.1) hms
      · rw [sm_st_j _ _ (by decide), h13]
        rfl
      · have hn := hm.2.2.2.2.2.1
        refine ⟨?_, ?_, ?_, ?_, ?_, fun j hj => ?_⟩
        · show _ = nI (sp_row (gT g) 200 0 (gS g) 0 0).2.2
          rw [r3, sm_st_j _ _ (by decide), h11]
        · rw [sm_st_j _ _ (by decide), hf 123 18 (by omega) (by omega)]; exact hn.2.1
        · rw [sm_st_j _ _ (by decide), hf 123 55 (by omega) (by omega)]; exact hn.2.2.1
        · rw [sm_st_j _ _ (by decide), hf 123 1 (by omega) (by omega)]; exact hn.2.2.2.1
        · rw [sm_st_j _ _ (by decide), hf 123 20 (by omega) (by omega)]; exact hn.2.2.2.2.1
        · rw [sm_st_o _ _ (by decide), hf 124 j (by omega) (by omega)]; exact hn.2.2.2.2.2 j hj
      · intro a j q
        refine (mKeep_tel _ a j q).trans ((mKeep.s _ (by omega) 8 0 a j q).trans ?_)
        exact hf a j (by omega) (by omega)
    have key : ∀ (q i : Nat) (s : St) (c f : Nat) (I1 : Nat → Nat → Int32), 400 ≤ i + 2 * q → i ≤ 402 → wS s → mS s (I1 125) → I1 123 11 = nI f → I1 123 13 = 0 → (∀ a j, ¬ (a = 125 ∧ (j = 0 ∨ (10 ≤ j ∧ j < 38))) → ¬ (a = 123 ∧ (j = 0 ∨ j = 11 ∨ j = 13)) → I1 a j = I a j) → sp_row (gT g) q i s c f = sp_row (gT g) 200 0 (gS g) 0 0 → sm_W ex d 0 0 146 35 [some (.ref 123), some (.int (nI (gT g).1)), some (.int (nI c)), some (.int (nI i))] [] (n, y, I1, L, R) Q := by
      intro q
      induction q with
      | zero =>
        intro i s c f I1 hq hi hs hms h11 h13 hf he
        exact fin i s c f I1 he hi (by omega) hms h11 h13 hf
      | succ q ih =>
        intro i s c f I1 hq hi hs hms h11 h13 hf he
        by_cases hle : (gT g).1 ≤ i
        · rw [sp_row_end _ _ _ _ _ _ hle] at he
          exact fin i s c f I1 he hi hle hms h11 h13 hf
        have hstep : sp_row (gT g) (q + 1) i s c f = if (gT g).1 ≤ i then (s, c, f) else if i + 1 < (gT g).1 ∧ sMen s < 7 ∧ (1 ≤ (gT g).2 i ∧ (gT g).2 i ≤ 9) ∧ (gT g).2 (i + 1) ≤ 63 then sp_row (gT g) q (i + 2) (sp_add s ((gT g).2 i) ((gT g).2 (i + 1))) (c + 1) f else sp_row (gT g) q (i + 2) s c (f + 1) := rfl
        rw [hstep, if_neg hle] at he
        have hsm : sMen s ≤ 7 := hs.1.1
        have e1 : nI i + 1 = nI (i + 1) := nI_1 i
        have e2 : nI i + 2 = nI (i + 2) := nI_add i 2
        have fl : sp_row (gT g) q (i + 2) s c (f + 1) = sp_row (gT g) 200 0 (gS g) 0 0 → sm_W ex d 0 0 146 35 [some (.ref 123), some (.int (nI (gT g).1)), some (.int (nI c)), some (.int (nI (i + 2)))] [] (n, y, sm_st I1 123 11 (I1 123 11 + 1), L, R) Q := fun hq => ih (i + 2) s c (f + 1) _ (by omega) (by omega) hs (by rw [show sm_st I1 123 11 (I1 123 11 + 1) 125 = I1 125 from funext fun j => sm_st_o _ _ (by decide)]; exact hms) (by rw [sm_st_s, h11, sm_n1]) (by rw [sm_st_j _ _ (by decide)]; exact h13) (fun a j p1 p2 => (sm_st_or _ _ (by omega)).trans (hf a j p1 p2)) hq
        refine w_X11_row_35 (d1 := 1) hG (by omega) ?_
        rw [e1, e2, if_neg (by rw [nI_leI (by omega) (by omega)]; omega)]
        by_cases c1 : i + 1 < (gT g).1
        · rw [if_neg (by rw [nI_leI (by omega) (by omega)]; omega)]
          refine ⟨vp_in_nI (by omega) (by decide), vp_in_nI (by omega) (by decide), ?_⟩
          have t1 : I1 132 i = nI ((gT g).2 i) := (hf 132 i (by omega) (by omega)).trans (hT.2 i (by omega))
          have t2 : I1 132 (i + 1) = nI ((gT g).2 (i + 1)) := (hf 132 (i + 1) (by omega) (by omega)).trans (hT.2 (i + 1) (by omega))
          have l1 := h256 i
          have l2 := h256 (i + 1)
          rw [nI_clamp (by omega), nI_clamp (by omega), t1, t2]
          refine c_X11_comes (s := s) (by omega) hG hms hsm (fun z => ?_) (fun z z7 => ?_) ?_
          · refine w_X11_row_65 hG ?_
            rw [if_pos (by decide), e2]
            rw [if_neg (fun w => z ⟨⟨(nI_leI (a := 1) (by decide) (by omega)).mpr w.2.2.1.1, (nI_leI (b := 9) (by omega) (by decide)).mpr w.2.2.1.2⟩, nI_pos' (by omega), (nI_leI (b := 63) (by omega) (by decide)).mpr w.2.2.2⟩)] at he
            exact fl he
          · refine w_X11_row_65 hG ?_
            rw [if_pos (by decide), e2]
            rw [if_neg (fun w => by omega)] at he
            exact fl he
          · intro I2 h l ha hh hb hl hm7 hf2 hs2
            have ha := (nI_eq (by omega) (by omega)).mp ha
            have hb := (nI_eq (by omega) (by omega)).mp hb
            rw [if_pos ⟨c1, hm7, by omega, by omega⟩, ha, hb] at he
            refine w_X11_row_65 hG ?_
            rw [if_neg (nI_pos (by omega)), e2, sm_n1]
            exact ih (i + 2) _ (c + 1) f I2 (by omega) (by omega) (wS_add hs hm7 hh hl) hs2 ((hf2 123 11 (by omega)).trans h11) ((hf2 123 13 (by omega)).trans h13) (fun a j p1 p2 => (hf2 a j p1).trans (hf a j p1 p2)) he
        · rw [if_pos (by rw [nI_leI (by omega) (by omega)]; omega)]
          rw [if_neg (fun z => c1 z.1)] at he
          exact fl he
    exact key 200 0 (gS g) 0 0 _ (by omega) (by omega) hw.1.1 (mS_ext (fun j q => by rw [sm_st_o _ _ (by decide), sm_st_o _ _ (by decide), sm_st_o _ _ (by decide)]) hw.1.1.1.1 hm.1) (sm_st_s _ _ _ _) (by rw [sm_st_j _ _ (by decide), sm_st_s]) (fun a j p1 p2 => by rw [sm_st_or _ _ (by omega), sm_st_or _ _ (by omega), sm_st_or _ _ (by omega)]) rfl

