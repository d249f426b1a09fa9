set_option maxRecDepth 100000 in
theorem w_X11_layNotice_0 {ex : sm_O} {d n : Nat} {y : sm_Y} {I : Nat → Nat → Int32} {L : Nat → Nat → Int64} {R : Nat → Nat → Option Nat} {Q : sm_Q} {w1 : Option Value} {w2 : Option Value} (k : sm_W ex d 0 0 210 2 [some (.ref 123), some (.int 0), w2] [] (n, y, I, L, R) Q) : sm_W ex d 0 0 210 0 [some (.ref 123), w1, w2] [] (n, y, I, L, R) Q := sm_in (sm_in (And.intro (Nat.le_of_ble_eq_true rfl) (k)))
set_option maxRecDepth 100000 in
theorem w_X11_layNotice_2 {ex : sm_O} {d n : Nat} {y : sm_Y} {I : Nat → Nat → Int32} {L : Nat → Nat → Int64} {R : Nat → Nat → Option Nat} {Q : sm_Q} {w2 : Option Value} {a1 : Int32} (hG : sm_G y R) (k : if (I 125 0) ≤ a1 then (Q none (n, y, I, L, R)) else (sm_W ex d 0 0 210 14 [some (.ref 123), some (.int a1), some (.int 0)] [] (n, y, I, L, R) Q)) : sm_W ex d 0 0 210 2 [some (.ref 123), some (.int a1), w2] [] (n, y, I, L, R) Q := sm_in (sm_in (sm_in (And.intro (hG.1 123 (Nat.le_of_ble_eq_true rfl)) (sm_gfr rfl (hG.2 123 3 rfl) (sm_in (sm_in (Exists.intro 5450 (And.intro (hG.1 125 (Nat.le_of_ble_eq_true rfl)) (And.intro (sm_lin (by decide)) (sm_in (And.intro (fun c1 => have k1t := Eq.mp (if_pos c1) k; sm_in (And.intro rfl (And.intro rfl k1t))) (fun c1 => have k1f := Eq.mp (if_neg c1) k; sm_in (sm_in (And.intro (Nat.le_of_ble_eq_true rfl) (k1f)))))))))))))))
set_option maxRecDepth 100000 in
theorem w_X11_layNotice_14 {ex : sm_O} {d n : Nat} {y : sm_Y} {I : Nat → Nat → Int32} {L : Nat → Nat → Int64} {R : Nat → Nat → Option Nat} {Q : sm_Q} {a1 : Int32} {a2 : Int32} {d1 : Nat} (hG : sm_G y R) (h1 : d1 < d) (k : if (I 125 0) ≤ a2 then (sm_W ex d 0 0 210 2 [some (.ref 123), some (.int (a1 + 1)), some (.int a2)] [] (n, y, I, L, R) Q) else (if a1 = a2 then (sm_W ex d 0 0 210 49 [some (.ref 123), some (.int a1), some (.int a2)] [.int 0, .int ((7 * a1) + a2), .ref 149] (n, y, I, L, R) Q) else (sm_W ex d1 0 0 188 0 [some (.ref 123), some (.int a1), some (.int a2)] [] (n, y, I, L, R) (fun r μ1 => sm_W ex d 0 0 210 49 [some (.ref 123), some (.int a1), some (.int a2)] (r.toList ++ [.int ((7 * a1) + a2), .ref 149]) μ1 Q)))) : sm_W ex d 0 0 210 14 [some (.ref 123), some (.int a1), some (.int a2)] [] (n, y, I, L, R) Q := sm_in (sm_in (sm_in (And.intro (hG.1 123 (Nat.le_of_ble_eq_true rfl)) (sm_gfr rfl (hG.2 123 3 rfl) (sm_in (sm_in (Exists.intro 5450 (And.intro (hG.1 125 (Nat.le_of_ble_eq_true rfl)) (And.intro (sm_lin (by decide)) (sm_in (And.intro (fun c1 => have k1t := Eq.mp (if_pos c1) k; sm_in (And.intro (Nat.le_of_ble_eq_true rfl) (sm_in (k1t)))) (fun c1 => have k1f := Eq.mp (if_neg c1) k; sm_in (sm_in (And.intro (hG.1 123 (Nat.le_of_ble_eq_true rfl)) (sm_gfr rfl (hG.2 123 47 rfl) (sm_in (sm_in (sm_in (sm_in (sm_in (sm_in (sm_in (sm_in (And.intro (fun c2 => have k2f := Eq.mp (if_neg c2) k1f; sm_in (sm_in (sm_in (sm_in (Exists.intro 11 (And.intro (hG.1 123 (Nat.le_of_ble_eq_true rfl)) (And.intro rfl (sm_calln h1 (Nat.le_of_ble_eq_true rfl) (Nat.le_of_ble_eq_true rfl) k2f)))))))) (fun c2 => have k2t := Eq.mp (if_pos c2) k1f; sm_in (sm_in (k2t)))))))))))))))))))))))))))
set_option maxRecDepth 100000 in
theorem w_X11_layNotice_49 {ex : sm_O} {d n : Nat} {y : sm_Y} {I : Nat → Nat → Int32} {L : Nat → Nat → Int64} {R : Nat → Nat → Option Nat} {Q : sm_Q} {w0 : Option Value} {a1 : Int32} {a2 : Int32} {s0 : Int32} {s1 : Int32} (hG : sm_G y R) (k : vp_in s1 49 ∧ sm_W ex d 0 0 210 14 [w0, some (.int a1), some (.int (a2 + 1))] [] (n, y, sm_st I 149 s1.toNatClampNeg s0, L, R) Q) : sm_W ex d 0 0 210 49 [w0, some (.int a1), some (.int a2)] [.int s0, .int s1, .ref 149] (n, y, I, L, R) Q := (have e1 := k.1; have k1 := k.2; sm_in (Exists.intro 49 (And.intro (hG.1 149 (Nat.le_of_ble_eq_true rfl)) (And.intro e1 (sm_in (And.intro (Nat.le_of_ble_eq_true rfl) (sm_in (k1))))))))
set_option maxRecDepth 100000 in
theorem w_X11_layOrders_0 {ex : sm_O} {d n : Nat} {y : sm_Y} {I : Nat → Nat → Int32} {L : Nat → Nat → Int64} {R : Nat → Nat → Option Nat} {Q : sm_Q} {w1 : Option Value} {w2 : Option Value} {w3 : Option Value} {w4 : Option Value} {w5 : Option Value} {d1 : Nat} (hG : sm_G y R) (h1 : d1 < d) (k : sm_W ex d1 0 0 210 0 [some (.ref 123), none, none] [] (n, y, I, L, R) (fun r μ1 => sm_W ex d 0 0 211 4 [some (.ref 123), w1, w2, w3, w4, w5] (r.toList ++ []) μ1 Q)) : sm_W ex d 0 0 211 0 [some (.ref 123), w1, w2, w3, w4, w5] [] (n, y, I, L, R) Q := sm_in (sm_in (Exists.intro 11 (And.intro (hG.1 123 (Nat.le_of_ble_eq_true rfl)) (And.intro rfl (sm_calln h1 (Nat.le_of_ble_eq_true rfl) (Nat.le_of_ble_eq_true rfl) k)))))
set_option maxRecDepth 100000 in
theorem w_X11_layOrders_4 {ex : sm_O} {d n : Nat} {y : sm_Y} {I : Nat → Nat → Int32} {L : Nat → Nat → Int64} {R : Nat → Nat → Option Nat} {Q : sm_Q} {w1 : Option Value} {w2 : Option Value} {w3 : Option Value} {w4 : Option Value} {w5 : Option Value} (k : sm_W ex d 0 0 211 6 [some (.ref 123), some (.int 0), w2, w3, w4, w5] [] (n, y, I, L, R) Q) : sm_W ex d 0 0 211 4 [some (.ref 123), w1, w2, w3, w4, w5] [] (n, y, I, L, R) Q := sm_in (sm_in (And.intro (Nat.le_of_ble_eq_true rfl) (k)))
set_option maxRecDepth 100000 in
theorem w_X11_layOrders_6 {ex : sm_O} {d n : Nat} {y : sm_Y} {I : Nat → Nat → Int32} {L : Nat → Nat → Int64} {R : Nat → Nat → Option Nat} {Q : sm_Q} {w0 : Option Value} {w2 : Option Value} {w3 : Option Value} {w4 : Option Value} {w5 : Option Value} {a1 : Int32} (k : if 128 ≤ a1 then (Q none (n, y, I, L, R)) else (sm_W ex d 0 0 211 15 [w0, some (.int a1), some (.int 0), w3, w4, w5] [] (n, y, I, L, R) Q)) : sm_W ex d 0 0 211 6 [w0, some (.int a1), w2, w3, w4, w5] [] (n, y, I, L, R) Q := sm_in (sm_in (sm_in (And.intro (fun c1 => have k1t := Eq.mp (if_pos c1) k; sm_in (And.intro rfl (And.intro rfl k1t))) (fun c1 => have k1f := Eq.mp (if_neg c1) k; sm_in (sm_in (And.intro (Nat.le_of_ble_eq_true rfl) (k1f)))))))
set_option maxRecDepth 100000 in
theorem w_X11_layOrders_15 {ex : sm_O} {d n : Nat} {y : sm_Y} {I : Nat → Nat → Int32} {L : Nat → Nat → Int64} {R : Nat → Nat → Option Nat} {Q : sm_Q} {w3 : Option Value} {w4 : Option Value} {w5 : Option Value} {a1 : Int32} {a2 : Int32} (hG : sm_G y R) (k : if (I 125 0) ≤ a2 then (sm_W ex d 0 0 211 6 [some (.ref 123), some (.int (a1 + 1)), some (.int a2), w3, w4, w5] [] (n, y, I, L, R) Q) else (if a1 = 0 then (sm_W ex d 0 0 211 40 [some (.ref 123), some (.int a1), some (.int a2), some (.int 0), some (.int 0), w5] [] (n, y, I, L, R) Q) else (sm_W ex d 0 0 211 40 [some (.ref 123), some (.int a1), some (.int a2), some (.int 100000000), some (.int 0), w5] [] (n, y, I, L, R) Q))) : sm_W ex d 0 0 211 15 [some (.ref 123), some (.int a1), some (.int a2), w3, w4, w5] [] (n, y, I, L, R) Q := sm_in (sm_in (sm_in (And.intro (hG.1 123 (Nat.le_of_ble_eq_true rfl)) (sm_gfr rfl (hG.2 123 3 rfl) (sm_in (sm_in (Exists.intro 5450 (And.intro (hG.1 125 (Nat.le_of_ble_eq_true rfl)) (And.intro (sm_lin (by decide)) (sm_in (And.intro (fun c1 => have k1t := Eq.mp (if_pos c1) k; sm_in (And.intro (Nat.le_of_ble_eq_true rfl) (sm_in (k1t)))) (fun c1 => have k1f := Eq.mp (if_neg c1) k; sm_in (sm_in (And.intro (fun c2 => have k2f := Eq.mp (if_neg c2) k1f; sm_in (sm_in (And.intro (Nat.le_of_ble_eq_true rfl) (sm_in (sm_in (And.intro (Nat.le_of_ble_eq_true rfl) (k2f))))))) (fun c2 => have k2t := Eq.mp (if_pos c2) k1f; sm_in (sm_in (sm_in (And.intro (Nat.le_of_ble_eq_true rfl) (sm_in (sm_in (And.intro (Nat.le_of_ble_eq_true rfl) (k2t))))))))))))))))))))))
set_option maxRecDepth 100000 in
theorem w_X11_layOrders_40 {ex : sm_O} {d n : Nat} {y : sm_Y} {I : Nat → Nat → Int32} {L : Nat → Nat → Int64} {R : Nat → Nat → Option Nat} {Q : sm_Q} {w5 : Option Value} {a1 : Int32} {a2 : Int32} {a3 : Int32} {a4 : Int32} (hG : sm_G y R) (hdep : 1 ≤ d) (k : if (I 125 0) ≤ a4 then (vp_in ((7 * a1) + a2) 896 ∧ sm_W ex d 0 0 211 15 [some (.ref 123), some (.int a1), some (.int (a2 + 1)), some (.int a3), some (.int a4), w5] [] (n, y, sm_st I 150 (((7 * a1) + a2).toNatClampNeg) a3, L, R) Q) else (if (a1 >>> (a4 &&& 31)) &&& 1 = 1 then (vp_in ((7 * a4) + a2) 49 ∧ vp_in ((7 * (a1 &&& (((1 : Int32) <<< (a4 &&& 31)) ^^^ (-1)))) + a4) 896 ∧ (if a3 ≤ ((I 149 ((7 * a4) + a2).toNatClampNeg) + (I 150 ((7 * (a1 &&& (((1 : Int32) <<< (a4 &&& 31)) ^^^ (-1)))) + a4).toNatClampNeg)) then (sm_W ex d 0 0 211 40 [some (.ref 123), some (.int a1), some (.int a2), some (.int a3), some (.int (a4 + 1)), some (.int ((I 149 ((7 * a4) + a2).toNatClampNeg) + (I 150 ((7 * (a1 &&& (((1 : Int32) <<< (a4 &&& 31)) ^^^ (-1)))) + a4).toNatClampNeg)))] [] (n, y, I, L, R) Q) else (sm_W ex d 0 0 211 40 [some (.ref 123), some (.int a1), some (.int a2), some (.int ((I 149 ((7 * a4) + a2).toNatClampNeg) + (I 150 ((7 * (a1 &&& (((1 : Int32) <<< (a4 &&& 31)) ^^^ (-1)))) + a4).toNatClampNeg))), some (.int (a4 + 1)), some (.int ((I 149 ((7 * a4) + a2).toNatClampNeg) + (I 150 ((7 * (a1 &&& (((1 : Int32) <<< (a4 &&& 31)) ^^^ (-1)))) + a4).toNatClampNeg)))] [] (n, y, I, L, R) Q))) else (sm_W ex d 0 0 211 40 [some (.ref 123), some (.int a1), some (.int a2), some (.int a3), some (.int (a4 + 1)), w5] [] (n, y, I, L, R) Q))) : sm_W ex d 0 0 211 40 [some (.ref 123), some (.int a1), some (.int a2), some (.int a3), some (.int a4), w5] [] (n, y, I, L, R) Q := sm_in (sm_in (sm_in (And.intro (hG.1 123 (Nat.le_of_ble_eq_true rfl)) (sm_gfr rfl (hG.2 123 3 rfl) (sm_in (sm_in (Exists.intro 5450 (And.intro (hG.1 125 (Nat.le_of_ble_eq_true rfl)) (And.intro (sm_lin (by decide)) (sm_in (And.intro (fun c1 => have k1t := Eq.mp (if_pos c1) k; sm_in (sm_in (And.intro (hG.1 123 (Nat.le_of_ble_eq_true rfl)) (sm_gfr rfl (hG.2 123 48 rfl) (sm_in (sm_in (sm_in (sm_in (sm_in (sm_in ((have e2 := k1t.1; have k2 := k1t.2; sm_in (Exists.intro 896 (And.intro (hG.1 150 (Nat.le_of_ble_eq_true rfl)) (And.intro e2 (sm_in (And.intro (Nat.le_of_ble_eq_true rfl) (sm_in (k2))))))))))))))))))) (fun c1 => have k1f := Eq.mp (if_neg c1) k; sm_in (sm_in (sm_in (And.intro (Nat.le_of_ble_eq_true rfl) (sm_calln (d1 := 0) (Nat.lt_of_lt_of_le (Nat.lt_succ_self 0) (Nat.le_trans (Nat.le_of_ble_eq_true rfl) hdep)) (Nat.le_of_ble_eq_true rfl) (Nat.le_of_ble_eq_true rfl) (c_X11_is  (sm_in (And.intro (fun c3 => have k3f := Eq.mp (if_neg (sm_b_0.mp c3)) k1f; sm_in (And.intro (Nat.le_of_ble_eq_true rfl) (sm_in (k3f)))) (fun c3 => have k3t := Eq.mp (if_pos (sm_b_n.mp c3)) k1f; sm_in (sm_in (And.intro (hG.1 123 (Nat.le_of_ble_eq_true rfl)) (sm_gfr rfl (hG.2 123 47 rfl) (sm_in (sm_in (sm_in (sm_in (sm_in ((have e4 := k3t.1; have k4 := k3t.2; sm_in (Exists.intro 49 (And.intro (hG.1 149 (Nat.le_of_ble_eq_true rfl)) (And.intro e4 (sm_in (sm_in (And.intro (hG.1 123 (Nat.le_of_ble_eq_true rfl)) (sm_gfr rfl (hG.2 123 48 rfl) (sm_in (sm_in (sm_in (sm_in (sm_in (sm_in (sm_in (sm_in (sm_in (sm_in (sm_in ((have e5 := k4.1; have k5 := k4.2; sm_in (Exists.intro 896 (And.intro (hG.1 150 (Nat.le_of_ble_eq_true rfl)) (And.intro e5 (sm_in (sm_in (And.intro (Nat.le_of_ble_eq_true rfl) (sm_in (sm_in (sm_in (And.intro (fun c6 => have k6t := Eq.mp (if_pos c6) k5; sm_in (sm_in (And.intro (Nat.le_of_ble_eq_true rfl) (sm_in (And.intro (Nat.le_of_ble_eq_true rfl) (sm_in (k6t))))))) (fun c6 => have k6f := Eq.mp (if_neg c6) k5; sm_in (sm_in (sm_in (And.intro (Nat.le_of_ble_eq_true rfl) (sm_in (And.intro (Nat.le_of_ble_eq_true rfl) (sm_in (k6f))))))))))))))))))))))))))))))))))))))))))))))))))))))))))))))))))))
set_option maxRecDepth 100000 in
theorem w_X11_canBegin_0 {ex : sm_O} {d n : Nat} {y : sm_Y} {I : Nat → Nat → Int32} {L : Nat → Nat → Int64} {R : Nat → Nat → Option Nat} {Q : sm_Q} {a1 : Int32} (hG : sm_G y R) (hdep : 1 ≤ d) (k : vp_in (17 + a1) 5450 ∧ (if (I 125 (17 + a1).toNatClampNeg) = 0 then (if (I 125 8) = (-1) then (Q (some (.int 1)) (n, y, I, L, R)) else (if (I 125 8) = a1 then (Q (some (.int 1)) (n, y, I, L, R)) else (Q (some (.int 0)) (n, y, I, L, R)))) else (Q (some (.int 0)) (n, y, I, L, R)))) : sm_W ex d 0 0 212 0 [some (.ref 123), some (.int a1)] [] (n, y, I, L, R) Q := sm_in (sm_in (sm_in (Exists.intro 11 (And.intro (hG.1 123 (Nat.le_of_ble_eq_true rfl)) (And.intro rfl (sm_calln (d1 := 0) (Nat.lt_of_lt_of_le (Nat.le_of_ble_eq_true rfl : 0 < 1) hdep) (Nat.le_of_ble_eq_true rfl) (Nat.le_of_ble_eq_true rfl) (sm_in (sm_in (And.intro (hG.1 123 (Nat.le_of_ble_eq_true rfl)) (sm_gfr rfl (hG.2 123 3 rfl) (sm_in (sm_in (sm_in ((have e1 := k.1; have k1 := k.2; sm_in (Exists.intro 5450 (And.intro (hG.1 125 (Nat.le_of_ble_eq_true rfl)) (And.intro e1 (sm_in (And.intro (fun c2 => have k2f := Eq.mp (if_neg c2) k1; sm_in (sm_in (And.intro rfl (And.intro (Or.inl rfl) (sm_in (And.intro (fun _ => sm_in (sm_in (And.intro rfl (And.intro (Or.inl rfl) k2f)))) (fun c => absurd (by decide : (0 : Int32) = 0) c))))))) (fun c2 => have k2t := Eq.mp (if_pos c2) k1; sm_in (sm_in (sm_in (And.intro rfl (And.intro (Or.inr rfl) (sm_in (And.intro (fun c => absurd c (by decide : ¬ (1 : Int32) = 0)) (fun _ => sm_in (sm_in (And.intro (hG.1 123 (Nat.le_of_ble_eq_true rfl)) (sm_gfr rfl (hG.2 123 3 rfl) (sm_in (sm_in (Exists.intro 5450 (And.intro (hG.1 125 (Nat.le_of_ble_eq_true rfl)) (And.intro (sm_lin (by decide)) (sm_in (sm_in (And.intro (fun c3 => have k3t := Eq.mp (if_pos c3) k2t; sm_in (sm_in (sm_in (And.intro rfl (And.intro (Or.inr rfl) k3t))))) (fun c3 => have k3f := Eq.mp (if_neg c3) k2t; sm_in (sm_in (And.intro (hG.1 123 (Nat.le_of_ble_eq_true rfl)) (sm_gfr rfl (hG.2 123 3 rfl) (sm_in (sm_in (Exists.intro 5450 (And.intro (hG.1 125 (Nat.le_of_ble_eq_true rfl)) (And.intro (sm_lin (by decide)) (sm_in (sm_in (And.intro (fun c4 => have k4f := Eq.mp (if_neg c4) k3f; sm_in (sm_in (And.intro rfl (And.intro (Or.inl rfl) k4f)))) (fun c4 => have k4t := Eq.mp (if_pos c4) k3f; sm_in (sm_in (sm_in (And.intro rfl (And.intro (Or.inr rfl) k4t))))))))))))))))))))))))))))))))))))))))))))))))))))))))
set_option maxRecDepth 100000 in
theorem w_X11_order_0 {ex : sm_O} {d n : Nat} {y : sm_Y} {I : Nat → Nat → Int32} {L : Nat → Nat → Int64} {R : Nat → Nat → Option Nat} {Q : sm_Q} {w1 : Option Value} {w2 : Option Value} {w3 : Option Value} {w4 : Option Value} {w5 : Option Value} {w6 : Option Value} {d1 : Nat} (hG : sm_G y R) (h1 : d1 < d) (k : sm_W ex d1 0 0 139 0 [some (.ref 123), none, none] [] (n, y, sm_st I 123 0 0, L, R) (fun r μ1 => sm_W ex d 0 0 213 9 [some (.ref 123), w1, w2, w3, w4, w5, w6] (r.toList ++ []) μ1 Q)) : sm_W ex d 0 0 213 0 [some (.ref 123), w1, w2, w3, w4, w5, w6] [] (n, y, I, L, R) Q := sm_in (sm_in (sm_in (And.intro (hG.1 123 (Nat.le_of_ble_eq_true rfl)) (sm_in (sm_in (Exists.intro 11 (And.intro (hG.1 123 (Nat.le_of_ble_eq_true rfl)) (And.intro rfl (sm_calln h1 (Nat.le_of_ble_eq_true rfl) (Nat.le_of_ble_eq_true rfl) k)))))))))
set_option maxRecDepth 100000 in
theorem w_X11_order_9 {ex : sm_O} {d n : Nat} {y : sm_Y} {I : Nat → Nat → Int32} {L : Nat → Nat → Int64} {R : Nat → Nat → Option Nat} {Q : sm_Q} {w0 : Option Value} {w2 : Option Value} {w3 : Option Value} {w4 : Option Value} {w5 : Option Value} {w6 : Option Value} {a1 : Int32} {s0 : Int32} {d1 : Nat} (h1 : d1 < d) (k : if a1 < (-1) then (Q (some (.int (-1))) (n, y, I, L, R)) else (sm_W ex d1 0 0 127 0 [some (.int s0), none, none] [] (n, y, I, L, R) (fun r μ1 => sm_W ex d 0 0 213 20 [w0, some (.int a1), some (.int s0), w3, w4, w5, w6] (r.toList ++ [.int a1]) μ1 Q))) : sm_W ex d 0 0 213 9 [w0, some (.int a1), w2, w3, w4, w5, w6] [.int s0] (n, y, I, L, R) Q := sm_in (And.intro (Nat.le_of_ble_eq_true rfl) (sm_in (sm_in (sm_in (And.intro (fun c1 => have k1t := Eq.mp (if_pos c1) k; sm_in (sm_in (And.intro rfl k1t))) (fun c1 => have k1f := Eq.mp (if_neg c1) k; sm_in (sm_in (sm_in (And.intro (Nat.le_of_ble_eq_true rfl) (sm_calln h1 (Nat.le_of_ble_eq_true rfl) (Nat.le_of_ble_eq_true rfl) k1f))))))))))
set_option maxRecDepth 100000 in
theorem w_X11_order_20 {ex : sm_O} {d n : Nat} {y : sm_Y} {I : Nat → Nat → Int32} {L : Nat → Nat → Int64} {R : Nat → Nat → Option Nat} {Q : sm_Q} {w1 : Option Value} {w2 : Option Value} {w3 : Option Value} {w4 : Option Value} {w5 : Option Value} {w6 : Option Value} {s0 : Int32} {s1 : Int32} {d1 : Nat} (hG : sm_G y R) (h1 : d1 < d) (k : if s1 < s0 then (sm_W ex d1 0 0 211 0 [some (.ref 123), none, none, none, none, none] [] (n, y, I, L, R) (fun r μ1 => sm_W ex d 0 0 213 29 [some (.ref 123), w1, w2, w3, w4, w5, w6] (r.toList ++ []) μ1 Q)) else (Q (some (.int (-1))) (n, y, I, L, R))) : sm_W ex d 0 0 213 20 [some (.ref 123), w1, w2, w3, w4, w5, w6] [.int s0, .int s1] (n, y, I, L, R) Q := sm_in (And.intro (fun c1 => have k1t := Eq.mp (if_pos c1) k; sm_in (sm_in (Exists.intro 11 (And.intro (hG.1 123 (Nat.le_of_ble_eq_true rfl)) (And.intro rfl (sm_calln h1 (Nat.le_of_ble_eq_true rfl) (Nat.le_of_ble_eq_true rfl) k1t)))))) (fun c1 => have k1f := Eq.mp (if_neg c1) k; sm_in (sm_in (And.intro rfl k1f))))
set_option maxRecDepth 100000 in
theorem w_X11_order_29 {ex : sm_O} {d n : Nat} {y : sm_Y} {I : Nat → Nat → Int32} {L : Nat → Nat → Int64} {R : Nat → Nat → Option Nat} {Q : sm_Q} {w0 : Option Value} {w1 : Option Value} {w3 : Option Value} {w4 : Option Value} {w5 : Option Value} {w6 : Option Value} {a2 : Int32} (k : if a2 = 0 then (sm_W ex d 0 0 213 47 [w0, w1, some (.int a2), some (.int 0), some (.int (-1)), some (.int 0), w6] [] (n, y, I, L, R) Q) else (sm_W ex d 0 0 213 47 [w0, w1, some (.int a2), some (.int 100000000), some (.int (-1)), some (.int 0), w6] [] (n, y, I, L, R) Q)) : sm_W ex d 0 0 213 29 [w0, w1, some (.int a2), w3, w4, w5, w6] [] (n, y, I, L, R) Q := sm_in (sm_in (And.intro (fun c1 => have k1f := Eq.mp (if_neg c1) k; sm_in (sm_in (And.intro (Nat.le_of_ble_eq_true rfl) (sm_in (sm_in (And.intro (Nat.le_of_ble_eq_true rfl) (sm_in (sm_in (And.intro (Nat.le_of_ble_eq_true rfl) (k1f)))))))))) (fun c1 => have k1t := Eq.mp (if_pos c1) k; sm_in (sm_in (sm_in (And.intro (Nat.le_of_ble_eq_true rfl) (sm_in (sm_in (And.intro (Nat.le_of_ble_eq_true rfl) (sm_in (sm_in (And.intro (Nat.le_of_ble_eq_true rfl) (k1t)))))))))))))
set_option maxRecDepth 100000 in
theorem w_X11_order_47 {ex : sm_O} {d n : Nat} {y : sm_Y} {I : Nat → Nat → Int32} {L : Nat → Nat → Int64} {R : Nat → Nat → Option Nat} {Q : sm_Q} {w6 : Option Value} {a1 : Int32} {a2 : Int32} {a3 : Int32} {a4 : Int32} {a5 : Int32} {d1 : Nat} (hG : sm_G y R) (h1 : d1 < d) (k : if (I 125 0) ≤ a5 then (if a1 = (-1) then (Q (some (.int a3)) (n, y, I, L, R)) else (sm_W ex d 0 0 213 147 [some (.ref 123), some (.int a1), some (.int (a2 &&& (((1 : Int32) <<< (a4 &&& 31)) ^^^ (-1)))), some (.int a3), some (.int a4), some (.int 0), w6] [] (n, y, I, L, R) Q)) else (sm_W ex d1 0 0 212 0 [some (.ref 123), some (.int a5)] [] (n, y, I, L, R) (fun r μ1 => sm_W ex d 0 0 213 64 [some (.ref 123), some (.int a1), some (.int a2), some (.int a3), some (.int a4), some (.int a5), w6] (r.toList ++ []) μ1 Q))) : sm_W ex d 0 0 213 47 [some (.ref 123), some (.int a1), some (.int a2), some (.int a3), some (.int a4), some (.int a5), w6] [] (n, y, I, L, R) Q := sm_in (sm_in (sm_in (And.intro (hG.1 123 (Nat.le_of_ble_eq_true rfl)) (sm_gfr rfl (hG.2 123 3 rfl) (sm_in (sm_in (Exists.intro 5450 (And.intro (hG.1 125 (Nat.le_of_ble_eq_true rfl)) (And.intro (sm_lin (by decide)) (sm_in (And.intro (fun c1 => have k1t := Eq.mp (if_pos c1) k; sm_in (sm_in (sm_in (And.intro (fun c2 => have k2f := Eq.mp (if_neg c2) k1t; sm_in (sm_in (sm_in (sm_in (sm_in (sm_in (sm_in (sm_in (And.intro (Nat.le_of_ble_eq_true rfl) (sm_in (sm_in (And.intro (Nat.le_of_ble_eq_true rfl) (k2f))))))))))))) (fun c2 => have k2t := Eq.mp (if_pos c2) k1t; sm_in (sm_in (And.intro rfl k2t))))))) (fun c1 => have k1f := Eq.mp (if_neg c1) k; sm_in (sm_in (sm_in (Exists.intro 11 (And.intro (hG.1 123 (Nat.le_of_ble_eq_true rfl)) (And.intro rfl (sm_calln h1 (Nat.le_of_ble_eq_true rfl) (Nat.le_of_ble_eq_true rfl) k1f))))))))))))))))))
set_option maxRecDepth 100000 in
theorem w_X11_order_64 {ex : sm_O} {d n : Nat} {y : sm_Y} {I : Nat → Nat → Int32} {L : Nat → Nat → Int64} {R : Nat → Nat → Option Nat} {Q : sm_Q} {w1 : Option Value} {w6 : Option Value} {a2 : Int32} {a3 : Int32} {a4 : Int32} {a5 : Int32} {s0 : Int32} (hG : sm_G y R) (k : if s0 = 0 then (if a3 ≤ 100000000 then (sm_W ex d 0 0 213 47 [some (.ref 123), w1, some (.int a2), some (.int a3), some (.int a4), some (.int (a5 + 1)), some (.int 100000000)] [] (n, y, I, L, R) Q) else (sm_W ex d 0 0 213 47 [some (.ref 123), w1, some (.int a2), some (.int 100000000), some (.int a5), some (.int (a5 + 1)), some (.int 100000000)] [] (n, y, I, L, R) Q)) else (vp_in ((7 * (a2 &&& (((1 : Int32) <<< (a5 &&& 31)) ^^^ (-1)))) + a5) 896 ∧ (if a3 ≤ (I 150 ((7 * (a2 &&& (((1 : Int32) <<< (a5 &&& 31)) ^^^ (-1)))) + a5).toNatClampNeg) then (sm_W ex d 0 0 213 47 [some (.ref 123), w1, some (.int a2), some (.int a3), some (.int a4), some (.int (a5 + 1)), some (.int (I 150 ((7 * (a2 &&& (((1 : Int32) <<< (a5 &&& 31)) ^^^ (-1)))) + a5).toNatClampNeg))] [] (n, y, I, L, R) Q) else (sm_W ex d 0 0 213 47 [some (.ref 123), w1, some (.int a2), some (.int (I 150 ((7 * (a2 &&& (((1 : Int32) <<< (a5 &&& 31)) ^^^ (-1)))) + a5).toNatClampNeg)), some (.int a5), some (.int (a5 + 1)), some (.int (I 150 ((7 * (a2 &&& (((1 : Int32) <<< (a5 &&& 31)) ^^^ (-1)))) + a5).toNatClampNeg))] [] (n, y, I, L, R) Q)))) : sm_W ex d 0 0 213 64 [some (.ref 123), w1, some (.int a2), some (.int a3), some (.int a4), some (.int a5), w6] [.int s0] (n, y, I, L, R) Q := sm_in (And.intro (fun c1 => have k1t := Eq.mp (if_pos c1) k; sm_in (sm_in (And.intro (Nat.le_of_ble_eq_true rfl) (sm_in (sm_in (sm_in (And.intro (fun c2 => have k2t := Eq.mp (if_pos c2) k1t; sm_in (sm_in (And.intro (Nat.le_of_ble_eq_true rfl) (sm_in (sm_in (sm_in (And.intro (fun _ => sm_in (sm_in (And.intro (Nat.le_of_ble_eq_true rfl) (sm_in (And.intro (Nat.le_of_ble_eq_true rfl) (sm_in (k2t))))))) (fun c => absurd c2 c)))))))) (fun c2 => have k2f := Eq.mp (if_neg c2) k1t; sm_in (sm_in (sm_in (And.intro (Nat.le_of_ble_eq_true rfl) (sm_in (sm_in (sm_in (And.intro (fun c => absurd c c2) (fun _ => sm_in (sm_in (sm_in (And.intro (Nat.le_of_ble_eq_true rfl) (sm_in (And.intro (Nat.le_of_ble_eq_true rfl) (sm_in (k2f))))))))))))))))))))))) (fun c1 => have k1f := Eq.mp (if_neg c1) k; sm_in (sm_in (And.intro (hG.1 123 (Nat.le_of_ble_eq_true rfl)) (sm_gfr rfl (hG.2 123 48 rfl) (sm_in (sm_in (sm_in (sm_in (sm_in (sm_in (sm_in (sm_in (sm_in (sm_in (sm_in ((have e3 := k1f.1; have k3 := k1f.2; sm_in (Exists.intro 896 (And.intro (hG.1 150 (Nat.le_of_ble_eq_true rfl)) (And.intro e3 (sm_in (sm_in (And.intro (Nat.le_of_ble_eq_true rfl) (sm_in (sm_in (sm_in (And.intro (fun c4 => have k4t := Eq.mp (if_pos c4) k3; sm_in (sm_in (And.intro (Nat.le_of_ble_eq_true rfl) (sm_in (sm_in (sm_in (And.intro (fun _ => sm_in (sm_in (And.intro (Nat.le_of_ble_eq_true rfl) (sm_in (And.intro (Nat.le_of_ble_eq_true rfl) (sm_in (k4t))))))) (fun c => absurd c4 c)))))))) (fun c4 => have k4f := Eq.mp (if_neg c4) k3; sm_in (sm_in (sm_in (And.intro (Nat.le_of_ble_eq_true rfl) (sm_in (sm_in (sm_in (And.intro (fun c => absurd c c4) (fun _ => sm_in (sm_in (sm_in (And.intro (Nat.le_of_ble_eq_true rfl) (sm_in (And.intro (Nat.le_of_ble_eq_true rfl) (sm_in (k4f))))))))))))))))))))))))))))))))))))))))))))
set_option maxRecDepth 100000 in
theorem w_X11_order_147 {ex : sm_O} {d n : Nat} {y : sm_Y} {I : Nat → Nat → Int32} {L : Nat → Nat → Int64} {R : Nat → Nat → Option Nat} {Q : sm_Q} {w0 : Option Value} {w2 : Option Value} {w3 : Option Value} {w6 : Option Value} {a1 : Int32} {a4 : Int32} {a5 : Int32} (k : if a1 ≤ a5 then (Q (some (.int a4)) (n, y, I, L, R)) else (sm_W ex d 0 0 213 156 [w0, some (.int a1), w2, w3, some (.int a4), some (.int a5), some (.int 0)] [] (n, y, I, L, R) Q)) : sm_W ex d 0 0 213 147 [w0, some (.int a1), w2, w3, some (.int a4), some (.int a5), w6] [] (n, y, I, L, R) Q := sm_in (sm_in (sm_in (And.intro (fun c1 => have k1t := Eq.mp (if_pos c1) k; sm_in (sm_in (And.intro rfl k1t))) (fun c1 => have k1f := Eq.mp (if_neg c1) k; sm_in (sm_in (And.intro (Nat.le_of_ble_eq_true rfl) (k1f)))))))
set_option maxRecDepth 100000 in
theorem w_X11_order_156 {ex : sm_O} {d n : Nat} {y : sm_Y} {I : Nat → Nat → Int32} {L : Nat → Nat → Int64} {R : Nat → Nat → Option Nat} {Q : sm_Q} {a1 : Int32} {a2 : Int32} {a3 : Int32} {a4 : Int32} {a5 : Int32} {a6 : Int32} (hG : sm_G y R) (hdep : 1 ≤ d) (k : if (a2 >>> (a6 &&& 31)) &&& 1 = 1 then (vp_in ((7 * a6) + a4) 49 ∧ vp_in ((7 * (a2 &&& (((1 : Int32) <<< (a6 &&& 31)) ^^^ (-1)))) + a6) 896 ∧ vp_in ((7 * a2) + a4) 896 ∧ (if ((I 149 ((7 * a6) + a4).toNatClampNeg) + (I 150 ((7 * (a2 &&& (((1 : Int32) <<< (a6 &&& 31)) ^^^ (-1)))) + a6).toNatClampNeg)) = (I 150 ((7 * a2) + a4).toNatClampNeg) then (sm_W ex d 0 0 213 147 [some (.ref 123), some (.int a1), some (.int (a2 &&& (((1 : Int32) <<< (a6 &&& 31)) ^^^ (-1)))), some (.int a3), some (.int a6), some (.int (a5 + 1)), some (.int a6)] [] (n, y, I, L, R) Q) else (sm_W ex d 0 0 213 156 [some (.ref 123), some (.int a1), some (.int a2), some (.int a3), some (.int a4), some (.int a5), some (.int (a6 + 1))] [] (n, y, I, L, R) Q))) else (sm_W ex d 0 0 213 156 [some (.ref 123), some (.int a1), some (.int a2), some (.int a3), some (.int a4), some (.int a5), some (.int (a6 + 1))] [] (n, y, I, L, R) Q)) : sm_W ex d 0 0 213 156 [some (.ref 123), some (.int a1), some (.int a2), some (.int a3), some (.int a4), some (.int a5), some (.int a6)] [] (n, y, I, L, R) Q := sm_in (sm_in (sm_in (And.intro (Nat.le_of_ble_eq_true rfl) (sm_calln (d1 := 0) (Nat.lt_of_lt_of_le (Nat.lt_succ_self 0) (Nat.le_trans (Nat.le_of_ble_eq_true rfl) hdep)) (Nat.le_of_ble_eq_true rfl) (Nat.le_of_ble_eq_true rfl) (c_X11_is  (sm_in (And.intro (fun c1 => have k1f := Eq.mp (if_neg (sm_b_0.mp c1)) k; sm_in (And.intro (Nat.le_of_ble_eq_true rfl) (sm_in (k1f)))) (fun c1 => have k1t := Eq.mp (if_pos (sm_b_n.mp c1)) k; sm_in (sm_in (And.intro (hG.1 123 (Nat.le_of_ble_eq_true rfl)) (sm_gfr rfl (hG.2 123 47 rfl) (sm_in (sm_in (sm_in (sm_in (sm_in ((have e2 := k1t.1; have k2 := k1t.2; sm_in (Exists.intro 49 (And.intro (hG.1 149 (Nat.le_of_ble_eq_true rfl)) (And.intro e2 (sm_in (sm_in (And.intro (hG.1 123 (Nat.le_of_ble_eq_true rfl)) (sm_gfr rfl (hG.2 123 48 rfl) (sm_in (sm_in (sm_in (sm_in (sm_in (sm_in (sm_in (sm_in (sm_in (sm_in (sm_in ((have e3 := k2.1; have k3 := k2.2; sm_in (Exists.intro 896 (And.intro (hG.1 150 (Nat.le_of_ble_eq_true rfl)) (And.intro e3 (sm_in (sm_in (sm_in (And.intro (hG.1 123 (Nat.le_of_ble_eq_true rfl)) (sm_gfr rfl (hG.2 123 48 rfl) (sm_in (sm_in (sm_in (sm_in (sm_in ((have e4 := k3.1; have k4 := k3.2; sm_in (Exists.intro 896 (And.intro (hG.1 150 (Nat.le_of_ble_eq_true rfl)) (And.intro e4 (sm_in (And.intro (fun c5 => have k5t := Eq.mp (if_pos c5) k4; sm_in (sm_in (sm_in (sm_in (sm_in (sm_in (sm_in (sm_in (And.intro (Nat.le_of_ble_eq_true rfl) (sm_in (sm_in (And.intro (Nat.le_of_ble_eq_true rfl) (sm_in (And.intro (Nat.le_of_ble_eq_true rfl) (sm_in (k5t)))))))))))))))) (fun c5 => have k5f := Eq.mp (if_neg c5) k4; sm_in (And.intro (Nat.le_of_ble_eq_true rfl) (sm_in (k5f))))))))))))))))))))))))))))))))))))))))))))))))))))))))))))))
-- ORDER (the model): the least, by what is left
/-- the least of those that are candidates, and the first that has it -/
def bf (c : Nat → Option Nat) : Nat → Option (Nat × Nat)
  | 0 => none
  | j + 1 => match c j with
    | none => bf c j
    | some v => match bf c j with
      | none => some (v, j)
      | some x => if v < x.1 then some (v, j) else some x
theorem bf_spec (c : Nat → Option Nat) : ∀ j v m, bf c j = some (v, m) → m < j ∧ c m = some v ∧ (∀ i w, i < m → c i = some w → v < w) ∧ ∀ i w, i < j → c i = some w → v ≤ w := by
  intro j
  induction j with
  | zero => intro v m h; cases h
  | succ j ih =>
    intro v m h
    unfold bf at h
    cases hc : c j with
    | none =>
      rw [hc] at h
      obtain ⟨h1, h2, h3, h4⟩ := ih v m h
      refine ⟨by omega, h2, h3, fun i w hi hw => ?_⟩
      by_cases e : i = j
      · rw [e, hc] at hw; cases hw
      · exact h4 i w (by omega) hw
    | some u =>
      rw [hc] at h
      dsimp only at h
      cases hb : bf c j with
      | none =>
        rw [hb] at h
        cases h
        have hno : ∀ j, bf c j = none → ∀ i, i < j → c i = none := by
          intro j
          induction j with
          | zero => intro _ i hi; omega
          | succ j ihj =>
            intro hn i hi
            unfold bf at hn
            cases hc2 : c j with
            | none =>
              rw [hc2] at hn
              by_cases e : i = j
              · rw [e]; exact hc2
              · exact ihj hn i (by omega)
            | some z =>
              rw [hc2] at hn
              dsimp only at hn
              cases hb2 : bf c j with
              | none => rw [hb2] at hn; cases hn
              | some x =>
                rw [hb2] at hn
                dsimp only at hn
                split at hn <;> cases hn
        refine ⟨by omega, hc, fun i w hi hw => ?_, fun i w hi hw => ?_⟩
        · rw [hno j hb i hi] at hw; cases hw
        · by_cases e : i = j
          · rw [e, hc] at hw; cases hw; exact Nat.le_refl _
          · rw [hno j hb i (by omega)] at hw; cases hw
      | some x =>
        rw [hb] at h
        dsimp only at h
        obtain ⟨xv, xm⟩ := x
        obtain ⟨h1, h2, h3, h4⟩ := ih xv xm hb
        split at h
        · rename_i hlt
          have hlt : u < xv := hlt
          cases h
          refine ⟨by omega, hc, fun i w hi hw => ?_, fun i w hi hw => ?_⟩
          · have := h4 i w hi hw; omega
          · by_cases e : i = j
            · rw [e, hc] at hw; cases hw; exact Nat.le_refl _
            · have := h4 i w (by omega) hw; omega
        · rename_i hlt
          have hlt : ¬ u < xv := hlt
          cases h
          refine ⟨by omega, h2, h3, fun i w hi hw => ?_⟩
          by_cases e : i = j
          · rw [e, hc] at hw; cases hw; omega
          · exact h4 i w (by omega) hw
theorem bf_some (c : Nat → Option Nat) : ∀ j i w, i < j → c i = some w → bf c j ≠ none := by
  intro j
  induction j with
  | zero => intro i w hi; omega
  | succ j ih =>
    intro i w hi hw hn
    unfold bf at hn
    cases hc : c j with
    | none =>
      rw [hc] at hn
      by_cases e : i = j
      · rw [e, hc] at hw; cases hw
      · exact ih i w (by omega) hw hn
    | some u =>
      rw [hc] at hn
      dsimp only at hn
      cases hb : bf c j with
      | none => rw [hb] at hn; cases hn
      | some x =>
        rw [hb] at hn
        dsimp only at hn
        split at hn <;> cases hn
def bfV (o : Option (Nat × Nat)) : Nat := match o with
  | none => 100000000
  | some x => x.1
/-- the cost to go on: who is left, behind whom -/
def lfF (ey : Nat → Nat → Nat) (men : Nat) : Nat → Nat → Nat → Nat
  | 0, _, _ => 0
  | f + 1, left, m => if left = 0 then 0 else bfV (bf (fun o => if left.testBit o then some (ey m o + lfF ey men f (left - 2 ^ o) o) else none) men)
def LF (ey : Nat → Nat → Nat) (men left m : Nat) : Nat := lfF ey men left left m
theorem bf_congr {c c' : Nat → Option Nat} : ∀ j, (∀ i, i < j → c i = c' i) → bf c j = bf c' j
  | 0, _ => rfl
  | j + 1, h => by
    unfold bf
    rw [h j (by omega), bf_congr j (fun i hi => h i (by omega))]
theorem lfF_eq (ey : Nat → Nat → Nat) (men : Nat) : ∀ f left m, left ≤ f → lfF ey men f left m = LF ey men left m := by
  intro f
  induction f using Nat.strongRecOn with
  | ind f ih =>
    intro left m hle
    unfold LF
    match f, left, hle with
    | 0, 0, _ => rfl
    | f + 1, 0, _ =>
      show (if _ then _ else _) = _
      rw [if_pos rfl]
      rfl
    | f + 1, l + 1, hle =>
      show (if l + 1 = 0 then 0 else bfV (bf (fun o => if (l + 1).testBit o then some (ey m o + lfF ey men f (l + 1 - 2 ^ o) o) else none) men)) = (if l + 1 = 0 then 0 else bfV (bf (fun o => if (l + 1).testBit o then some (ey m o + lfF ey men l (l + 1 - 2 ^ o) o) else none) men))
      rw [if_neg (by omega), if_neg (by omega)]
      congr 1
      refine bf_congr men (fun o _ => ?_)
      have h2 : 0 < 2 ^ o := Nat.two_pow_pos o
      rw [ih f (by omega) (l + 1 - 2 ^ o) o (by omega), ih l (by omega) (l + 1 - 2 ^ o) o (by omega)]
def lfC (ey : Nat → Nat → Nat) (men left m o : Nat) : Option Nat := if left.testBit o = true then some (ey m o + LF ey men (left - 2 ^ o) o) else none
theorem LF_eq (ey : Nat → Nat → Nat) (men left m : Nat) : LF ey men left m = if left = 0 then 0 else bfV (bf (lfC ey men left m) men) := by
  unfold LF
  cases left with
  | zero => rfl
  | succ l =>
    show (if l + 1 = 0 then 0 else bfV (bf (fun o => if (l + 1).testBit o then some (ey m o + lfF ey men l (l + 1 - 2 ^ o) o) else none) men)) = _
    rw [if_neg (by omega), if_neg (by omega)]
    congr 1
    refine bf_congr men (fun o _ => ?_)
    have h2 : 0 < 2 ^ o := Nat.two_pow_pos o
    unfold lfC
    rw [lfF_eq ey men l (l + 1 - 2 ^ o) o (by omega)]
/-- bits -/
theorem bits_m {gone : Nat → Bool} {men m : Nat} (hm : m < men) (hg : gone m = false) : sp_bits (fun i => !sm_up gone m true i) men = sp_bits (fun i => !gone i) men - 2 ^ m := by
  have key : sp_bits (fun i => !gone i) men = sp_bits (fun i => !sm_up gone m true i) men + 2 ^ m := by
    have gen : ∀ n, sp_bits (fun i => !gone i) n = sp_bits (fun i => !sm_up gone m true i) n + (if m < n then 2 ^ m else 0) := by
      intro n
      induction n with
      | zero => rfl
      | succ n ih =>
        simp only [sp_bits, ih]
        by_cases e : n = m
        · subst e
          rw [if_neg (Nat.lt_irrefl n), if_pos (Nat.lt_succ_self n)]
          simp [sm_up, hg]
        · have e2 : sm_up gone m true n = gone n := by unfold sm_up; rw [if_neg e]
          simp only [e2]
          generalize (if (!gone n) = true then 2 ^ n else 0) = X
          by_cases h1 : m < n
          · rw [if_pos h1, if_pos (show m < n + 1 by omega)]
            omega
          · rw [if_neg h1, if_neg (show ¬ m < n + 1 by omega)]
            omega
    rw [gen men, if_pos hm]
  omega
theorem pop_m {gone : Nat → Bool} {men m : Nat} (hm : m < men) (hg : gone m = false) : sp_pop (fun i => !gone i) men = sp_pop (fun i => !sm_up gone m true i) men + 1 := by
  have gen : ∀ n, sp_pop (fun i => !gone i) n = sp_pop (fun i => !sm_up gone m true i) n + (if m < n then 1 else 0) := by
    intro n
    induction n with
    | zero => rfl
    | succ n ih =>
      simp only [sp_pop, ih]
      by_cases e : n = m
      · subst e
        rw [if_neg (Nat.lt_irrefl n), if_pos (Nat.lt_succ_self n)]
        simp [sm_up, hg]
      · have e2 : sm_up gone m true n = gone n := by unfold sm_up; rw [if_neg e]
        simp only [e2]
        generalize (if (!gone n) = true then 1 else 0) = X
        by_cases h1 : m < n
        · rw [if_pos h1, if_pos (show m < n + 1 by omega)]
          omega
        · rw [if_neg h1, if_neg (show ¬ m < n + 1 by omega)]
          omega
  rw [gen men, if_pos hm]
theorem pop_0 {p : Nat → Bool} : ∀ n, sp_pop p n = 0 → sp_bits p n = 0
  | 0, _ => rfl
  | n + 1, h => by
    simp only [sp_pop] at h
    simp only [sp_bits]
    cases hp : p n with
    | true => rw [hp] at h; simp at h
    | false => rw [hp] at h; rw [pop_0 n (by simpa using h)]; simp
theorem pop_ex {p : Nat → Bool} : ∀ n, 0 < sp_pop p n → ∃ i, i < n ∧ p i = true
  | 0, h => absurd h (by simp [sp_pop])
  | n + 1, h => by
    simp only [sp_pop] at h
    cases hp : p n with
    | true => exact ⟨n, by omega, hp⟩
    | false =>
      rw [hp] at h
      obtain ⟨i, h1, h2⟩ := pop_ex n (by simpa using h)
      exact ⟨i, by omega, h2⟩
theorem bits_pos {p : Nat → Bool} {n i : Nat} (hi : i < n) (hp : p i = true) : sp_bits p n ≠ 0 := by
  intro z
  have := sp_bits_tb p n i
  rw [z, decide_eq_true hi, hp] at this
  simp at this
/-- the row that is least, the first such -/
def GR (ey : Nat → Nat → Nat) (men : Nat) : Nat → Nat → Nat → List Nat
  | 0, _, _ => []
  | k + 1, left, p => match bf (lfC ey men left p) men with
    | none => []
    | some x => x.2 :: GR ey men k (left - 2 ^ x.2) x.2
theorem LF_le {ey : Nat → Nat → Nat} {men : Nat} (hey : ∀ a b, ey a b ≤ 99) : ∀ (k : Nat) (gone : Nat → Bool) (p : Nat), k = sp_pop (fun i => !gone i) men → LF ey men (sp_bits (fun i => !gone i) men) p ≤ 99 * k := by
  intro k
  induction k with
  | zero =>
    intro gone p hk
    rw [LF_eq, if_pos (pop_0 men hk.symm)]
    exact Nat.le_refl 0
  | succ k ih =>
    intro gone p hk
    obtain ⟨i, hi, hpi⟩ := pop_ex (p := fun i => !gone i) men (by omega)
    have hgi : gone i = false := by simpa using hpi
    rw [LF_eq, if_neg (bits_pos (p := fun i => !gone i) hi hpi)]
    have htb : (sp_bits (fun i => !gone i) men).testBit i = true := by rw [sp_bits_tb, decide_eq_true hi]; simpa using hgi
    have hc : lfC ey men (sp_bits (fun i => !gone i) men) p i = some (ey p i + LF ey men (sp_bits (fun i => !gone i) men - 2 ^ i) i) := by unfold lfC; rw [if_pos htb]
    cases hb : bf (lfC ey men (sp_bits (fun i => !gone i) men) p) men with
    | none => exact absurd hb (bf_some _ men i _ hi hc)
    | some x =>
      obtain ⟨v, m⟩ := x
      have := (bf_spec _ men v m hb).2.2.2 i _ hi hc
      have h1 := ih (sm_up gone i true) i (by have := pop_m hi hgi; omega)
      rw [bits_m hi hgi] at h1
      have h2 := hey p i
      show v ≤ 99 * (k + 1)
      omega
/-- how the search ends: the least of all, or what was better -/
def plEnd (e : Nat) (row : List Nat) (b : Bst) (o : Option (Nat × Nat)) (r : Nat → List Nat) : Bst := match o with
  | none => b
  | some x => if e + x.1 < sp_bst b then some (e + x.1, row ++ r x.2) else b
theorem plEnd_s {e v j : Nat} {row : List Nat} {b : Bst} {c : Nat → Option Nat} {r : Nat → List Nat} (hc : c j = some v) : plEnd e row b (bf c (j + 1)) r = if e + v < sp_bst (plEnd e row b (bf c j) r) then some (e + v, row ++ r j) else plEnd e row b (bf c j) r := by
  have hu : bf c (j + 1) = match bf c j with
      | none => some (v, j)
      | some x => if v < x.1 then some (v, j) else some x := by
    show (match c j with | none => bf c j | some v => _) = _
    rw [hc]
  rw [hu]
  cases hb : bf c j with
  | none => rfl
  | some x =>
    dsimp only
    by_cases hv : v < x.1
    · rw [if_pos hv]
      by_cases h1 : e + x.1 < sp_bst b
      · have e1 : plEnd e row b (some x) r = some (e + x.1, row ++ r x.2) := by unfold plEnd; dsimp only; rw [if_pos h1]
        rw [e1, if_pos (show e + v < sp_bst (some (e + x.1, row ++ r x.2)) by show e + v < e + x.1; omega)]
        unfold plEnd
        dsimp only
        rw [if_pos (by omega)]
      · have e1 : plEnd e row b (some x) r = b := by unfold plEnd; dsimp only; rw [if_neg h1]
        rw [e1]
        rfl
    · rw [if_neg hv]
      by_cases h1 : e + x.1 < sp_bst b
      · have e1 : plEnd e row b (some x) r = some (e + x.1, row ++ r x.2) := by unfold plEnd; dsimp only; rw [if_pos h1]
        rw [e1, if_neg (show ¬ e + v < sp_bst (some (e + x.1, row ++ r x.2)) by show ¬ e + v < e + x.1; omega)]
      · have e1 : plEnd e row b (some x) r = b := by unfold plEnd; dsimp only; rw [if_neg h1]
        rw [e1, if_neg (by omega)]
theorem plEnd_n {e j : Nat} {row : List Nat} {b : Bst} {c : Nat → Option Nat} {r : Nat → List Nat} (hc : c j = none) : plEnd e row b (bf c (j + 1)) r = plEnd e row b (bf c j) r := by
  have hu : bf c (j + 1) = bf c j := by
    show (match c j with | none => bf c j | some v => _) = _
    rw [hc]
  rw [hu]
theorem sp_place_eq {ey : Nat → Nat → Nat} {men : Nat} {up : Option Nat} : ∀ (k : Nat) (p : Nat) (gone : Nat → Bool) (e : Nat) (row : List Nat) (b : Bst), k = sp_pop (fun i => !gone i) men → (k = 0 → e < sp_bst b) → sp_place ey men up k (some p) gone e row b = if e + LF ey men (sp_bits (fun i => !gone i) men) p < sp_bst b then some (e + LF ey men (sp_bits (fun i => !gone i) men) p, row ++ GR ey men k (sp_bits (fun i => !gone i) men) p) else b := by
  intro k
  induction k with
  | zero =>
    intro p gone e row b hk h0
    have hz := pop_0 men hk.symm
    rw [hz, LF_eq, if_pos rfl, Nat.add_zero, if_pos (h0 rfl)]
    show some (e, row) = some (e, row ++ [])
    rw [List.append_nil]
  | succ k ih =>
    intro p gone e row b hk _
    obtain ⟨i0, hi0, hpi0⟩ := pop_ex (p := fun i => !gone i) men (by omega)
    have hne := bits_pos (p := fun i => !gone i) hi0 hpi0
    rw [sp_place_j]
    have step : ∀ j, j ≤ men → plJ ey men up k (some p) gone e row b j = plEnd e row b (bf (lfC ey men (sp_bits (fun i => !gone i) men) p) j) (fun m => m :: GR ey men k (sp_bits (fun i => !gone i) men - 2 ^ m) m) := by
      intro j
      induction j with
      | zero => intro _; rfl
      | succ j ihj =>
        intro hj
        have ihj := ihj (by omega)
        rw [plJ_s, ihj]
        unfold plStep
        have htb : (sp_bits (fun i => !gone i) men).testBit j = !gone j := by rw [sp_bits_tb, decide_eq_true (show j < men by omega)]; rfl
        cases hg : gone j with
        | true =>
          rw [if_neg (fun z => absurd z.2.1 (by decide)), plEnd_n (by unfold lfC; rw [htb, hg]; rfl)]
        | false =>
          have hc : lfC ey men (sp_bits (fun i => !gone i) men) p j = some (ey p j + LF ey men (sp_bits (fun i => !gone i) men - 2 ^ j) j) := by unfold lfC; rw [htb, hg]; rfl
          rw [plEnd_s hc]
          generalize plEnd e row b (bf (lfC ey men (sp_bits (fun i => !gone i) men) p) j) (fun m => m :: GR ey men k (sp_bits (fun i => !gone i) men - 2 ^ m) m) = bb
          have hpop := pop_m (gone := gone) (men := men) (m := j) (by omega) hg
          by_cases hlt : e + plCost ey (some p) j < sp_bst bb
          · rw [if_pos ⟨(fun z => by cases z), rfl, hlt⟩, ih j (sm_up gone j true) (e + plCost ey (some p) j) (row ++ [j]) bb (by omega) (fun _ => hlt), bits_m (by omega) hg]
            have e1 : e + plCost ey (some p) j + LF ey men (sp_bits (fun i => !gone i) men - 2 ^ j) j = e + (ey p j + LF ey men (sp_bits (fun i => !gone i) men - 2 ^ j) j) := Nat.add_assoc _ _ _
            rw [e1, List.append_assoc]
            rfl
          · rw [if_neg (fun z => hlt z.2.2), if_neg (by
              intro z
              have : plCost ey (some p) j = ey p j := rfl
              omega)]
    rw [step men (Nat.le_refl _), LF_eq, if_neg hne]
    cases hb : bf (lfC ey men (sp_bits (fun i => !gone i) men) p) men with
    | none =>
      have htb : (sp_bits (fun i => !gone i) men).testBit i0 = true := by rw [sp_bits_tb, decide_eq_true hi0]; exact hpi0
      exact absurd hb (bf_some _ men i0 _ hi0 (by unfold lfC; rw [if_pos htb]))
    | some x =>
      show (if _ then _ else _) = _
      have hgr : GR ey men (k + 1) (sp_bits (fun i => !gone i) men) p = x.2 :: GR ey men k (sp_bits (fun i => !gone i) men - 2 ^ x.2) x.2 := by
        show (match bf (lfC ey men (sp_bits (fun i => !gone i) men) p) men with | none => [] | some x => _) = _
        rw [hb]
      rw [hgr]
      rfl
/-- the beginning -/
def orC (F : Option (Nat × Law)) (s : St) (m : Nat) : Option Nat := if sCash s m = false ∧ (sUp s = none ∨ sUp s = some m) then some (LF (sp_ey F s) (sMen s) (sp_bits (fun i => !sCash s i) (sMen s) - 2 ^ m) m) else none
theorem sp_arr_eq {F : Option (Nat × Law)} {s : St} (hok : sp_ok s) (k : Nat) (hk : sp_fit s = k + 1) : sp_arr F s = plEnd 0 [] none (bf (orC F s) (sMen s)) (fun m => m :: GR (sp_ey F s) (sMen s) k (sp_bits (fun i => !sCash s i) (sMen s) - 2 ^ m) m) := by
  unfold sp_arr
  rw [hk, sp_place_j]
  have h7 := hok.1
  have step : ∀ j, j ≤ sMen s → plJ (sp_ey F s) (sMen s) (sUp s) k none (sCash s) 0 [] none j = plEnd 0 [] none (bf (orC F s) j) (fun m => m :: GR (sp_ey F s) (sMen s) k (sp_bits (fun i => !sCash s i) (sMen s) - 2 ^ m) m) ∧ ∀ x, plJ (sp_ey F s) (sMen s) (sUp s) k none (sCash s) 0 [] none j = some x → True := by
    intro j
    induction j with
    | zero => intro _; exact ⟨rfl, fun _ _ => trivial⟩
    | succ j ihj =>
      intro hj
      have ihj := (ihj (by omega)).1
      refine ⟨?_, fun _ _ => trivial⟩
      rw [plJ_s, ihj]
      unfold plStep
      by_cases hcan : sCash s j = false ∧ (sUp s = none ∨ sUp s = some j)
      · have hc : orC F s j = some (LF (sp_ey F s) (sMen s) (sp_bits (fun i => !sCash s i) (sMen s) - 2 ^ j) j) := by unfold orC; rw [if_pos hcan]
        rw [plEnd_s hc]
        generalize plEnd 0 [] none (bf (orC F s) j) (fun m => m :: GR (sp_ey F s) (sMen s) k (sp_bits (fun i => !sCash s i) (sMen s) - 2 ^ m) m) = bb
        have hpop := pop_m (gone := sCash s) (men := sMen s) (m := j) (by omega) hcan.1
        have hk2 : sp_pop (fun i => !sCash s i) (sMen s) = k + 1 := hk
        by_cases hlt : 0 + plCost (sp_ey F s) none j < sp_bst bb
        · rw [if_pos ⟨fun _ => hcan.2, hcan.1, hlt⟩, sp_place_eq k j (sm_up (sCash s) j true) (0 + plCost (sp_ey F s) none j) ([] ++ [j]) bb (by omega) (fun _ => hlt), bits_m (by omega) hcan.1]
          rfl
        · rw [if_neg (fun z => hlt z.2.2), if_neg (by
            intro z
            have : plCost (sp_ey F s) none j = 0 := rfl
            omega)]
      · rw [if_neg (fun z => hcan ⟨z.2.1, z.1 rfl⟩), plEnd_n (by unfold orC; rw [if_neg hcan])]
  exact (step (sMen s) (Nat.le_refl _)).1
/-- there is an order -/
theorem sp_arr_some {F : Option (Nat × Law)} {s : St} (hw : wS s) : sp_arr F s ≠ none := by
  have hok := hw.1
  have h7 := hok.1
  cases hk : sp_fit s with
  | zero =>
    unfold sp_arr
    rw [hk]
    intro z
    cases z
  | succ k =>
    rw [sp_arr_eq hok k hk]
    have hfit : sp_pop (fun i => !sCash s i) (sMen s) = k + 1 := hk
    have hex : ∃ i, i < sMen s ∧ sCash s i = false ∧ (sUp s = none ∨ sUp s = some i) := by
      cases hu : sUp s with
      | none =>
        obtain ⟨i, h1, h2⟩ := pop_ex (p := fun i => !sCash s i) (sMen s) (by omega)
        exact ⟨i, h1, by simpa using h2, Or.inl rfl⟩
      | some u => exact ⟨u, hok.2.2.1 u hu, hw.2.2 u hu, Or.inr rfl⟩
    obtain ⟨i, hi, hci⟩ := hex
    have hc : orC F s i = some (LF (sp_ey F s) (sMen s) (sp_bits (fun i => !sCash s i) (sMen s) - 2 ^ i) i) := by unfold orC; rw [if_pos hci]
    cases hb : bf (orC F s) (sMen s) with
    | none => exact absurd hb (bf_some _ _ i _ hi hc)
    | some x =>
      obtain ⟨v, m⟩ := x
      have hv := (bf_spec _ _ v m hb).2.2.2 i _ hi hc
      have hle := LF_le (men := sMen s) (sp_ey_le F s) k (sm_up (sCash s) i true) i (by have := pop_m (gone := sCash s) hi hci.1; omega)
      rw [bits_m hi hci.1] at hle
      have hk7 := sp_fit_le s
      show (if 0 + v < 1000000 then _ else _) ≠ none
      rw [if_pos (by omega)]
      intro z
      cases z

