set_option maxRecDepth 100000 in
theorem w_X10_few_0 {ex : sm_O} {d n : Nat} {y : sm_Y} {I : Nat → Nat → Int32} {L : Nat → Nat → Int64} {R : Nat → Nat → Option Nat} {Q : sm_Q} {w3 : Option Value} {w4 : Option Value} {w5 : Option Value} {w6 : Option Value} {w7 : Option Value} {w8 : Option Value} {w9 : Option Value} {w10 : Option Value} {a1 : Int32} {a2 : Int32} (hG : sm_G y R) (k : if a1 < 1 then (Q (some (.long (-1))) (n, y, I, L, R)) else (if 20 < a1 then (Q (some (.long (-1))) (n, y, I, L, R)) else (if a2 < 0 then (Q (some (.long (-1))) (n, y, I, L, R)) else (if a2 ≤ 99 then (sm_W ex d 0 0 105 46 [some (.ref 0), some (.int a1), some (.int a2), some (.long ((I 5 1).toInt64)), none, some (.long (10 - ((I 5 1).toInt64))), none, some (.int 0), w8, w9, w10] [] (n, y, I, L, R) Q) else (Q (some (.long (-1))) (n, y, I, L, R)))))) : sm_W ex d 0 0 105 0 [some (.ref 0), some (.int a1), some (.int a2), w3, w4, w5, w6, w7, w8, w9, w10] [] (n, y, I, L, R) Q := sm_in (sm_in (sm_in (And.intro (fun c1 => have k1t := Eq.mp (if_pos c1) k; sm_in (sm_in (And.intro rfl k1t))) (fun c1 => have k1f := Eq.mp (if_neg c1) k; sm_in (sm_in (sm_in (And.intro (fun c2 => have k2t := Eq.mp (if_pos c2) k1f; sm_in (sm_in (And.intro rfl k2t))) (fun c2 => have k2f := Eq.mp (if_neg c2) k1f; sm_in (sm_in (And.intro (fun c3 => have k3t := Eq.mp (if_pos c3) k2f; sm_in (sm_in (And.intro rfl k3t))) (fun c3 => have k3f := Eq.mp (if_neg c3) k2f; sm_in (sm_in (sm_in (And.intro (fun c4 => have k4t := Eq.mp (if_pos c4) k3f; sm_in (sm_in (And.intro (hG.1 0 (Nat.le_of_ble_eq_true rfl)) (sm_gfr rfl (hG.2 0 0 rfl) (sm_in (And.intro (hG.1 1 (Nat.le_of_ble_eq_true rfl)) (sm_gfr rfl (hG.2 1 3 rfl) (sm_in (sm_in (Exists.intro 4 (And.intro (hG.1 5 (Nat.le_of_ble_eq_true rfl)) (And.intro (sm_lin (by decide)) (sm_in (sm_in (And.intro (Nat.le_of_ble_eq_true rfl) (sm_in (sm_in (sm_in (sm_in (And.intro (Nat.le_of_ble_eq_true rfl) (sm_in (sm_in (And.intro (Nat.le_of_ble_eq_true rfl) (k4t)))))))))))))))))))))))) (fun c4 => have k4f := Eq.mp (if_neg c4) k3f; sm_in (sm_in (And.intro rfl k4f)))))))))))))))))
set_option maxRecDepth 100000 in
theorem w_X10_few_46 {ex : sm_O} {d n : Nat} {y : sm_Y} {I : Nat → Nat → Int32} {L : Nat → Nat → Int64} {R : Nat → Nat → Option Nat} {Q : sm_Q} {w2 : Option Value} {w3 : Option Value} {w4 : Option Value} {w5 : Option Value} {w6 : Option Value} {w8 : Option Value} {w9 : Option Value} {w10 : Option Value} {a1 : Int32} {a7 : Int32} (hG : sm_G y R) (k : if a1 ≤ a7 then (sm_W ex d 0 0 105 80 [some (.ref 0), some (.int a1), w2, w3, w4, w5, sm_iv w6, some (.int 0), w8, w9, w10] [] (n, y, I, L, R) Q) else (if a7 = 0 then (vp_in a7 20 ∧ sm_W ex d 0 0 105 46 [some (.ref 0), some (.int a1), w2, w3, w4, w5, sm_iv w6, some (.int (a7 + 1)), w8, w9, w10] [] (n, y, I, sm_st L 121 a7.toNatClampNeg 1000000000000, R) Q) else (vp_in a7 20 ∧ sm_W ex d 0 0 105 46 [some (.ref 0), some (.int a1), w2, w3, w4, w5, sm_iv w6, some (.int (a7 + 1)), w8, w9, w10] [] (n, y, I, sm_st L 121 a7.toNatClampNeg 0, R) Q))) : sm_W ex d 0 0 105 46 [some (.ref 0), some (.int a1), w2, w3, w4, w5, w6, some (.int a7), w8, w9, w10] [] (n, y, I, L, R) Q := sm_in (sm_in (sm_in (And.intro (fun c1 => have k1t := Eq.mp (if_pos c1) k; sm_in (sm_in (And.intro (Nat.le_of_ble_eq_true rfl) (k1t)))) (fun c1 => have k1f := Eq.mp (if_neg c1) k; sm_in (sm_in (And.intro (hG.1 0 (Nat.le_of_ble_eq_true rfl)) (sm_gfr rfl (hG.2 0 14 rfl) (sm_in (sm_in (sm_in (And.intro (fun c2 => have k2f := Eq.mp (if_neg c2) k1f; sm_in ((have e4 := k2f.1; have k4 := k2f.2; sm_in (Exists.intro 20 (And.intro (hG.1 121 (Nat.le_of_ble_eq_true rfl)) (And.intro e4 (sm_in (And.intro (Nat.le_of_ble_eq_true rfl) (sm_in (k4)))))))))) (fun c2 => have k2t := Eq.mp (if_pos c2) k1f; sm_in (sm_in ((have e3 := k2t.1; have k3 := k2t.2; sm_in (Exists.intro 20 (And.intro (hG.1 121 (Nat.le_of_ble_eq_true rfl)) (And.intro e3 (sm_in (And.intro (Nat.le_of_ble_eq_true rfl) (sm_in (k3))))))))))))))))))))))
set_option maxRecDepth 100000 in
theorem w_X10_few_80 {ex : sm_O} {d n : Nat} {y : sm_Y} {I : Nat → Nat → Int32} {L : Nat → Nat → Int64} {R : Nat → Nat → Option Nat} {Q : sm_Q} {w0 : Option Value} {w3 : Option Value} {w4 : Option Value} {w5 : Option Value} {w6 : Option Value} {w8 : Option Value} {w9 : Option Value} {w10 : Option Value} {a1 : Int32} {a2 : Int32} {a7 : Int32} (k : if a2 ≤ a7 then (sm_W ex d 0 0 105 164 [w0, some (.int a1), some (.int a2), w3, w4, w5, sm_iv w6, some (.long 0), none, some (.int 0), w10] [] (n, y, I, L, R) Q) else (sm_W ex d 0 0 105 91 [w0, some (.int a1), some (.int a2), w3, w4, w5, w6, some (.int a7), some (.int (a1 - 1)), w9, w10] [] (n, y, I, L, R) Q)) : sm_W ex d 0 0 105 80 [w0, some (.int a1), some (.int a2), w3, w4, w5, w6, some (.int a7), w8, w9, w10] [] (n, y, I, L, R) Q := sm_in (sm_in (sm_in (And.intro (fun c1 => have k1t := Eq.mp (if_pos c1) k; sm_in (sm_in (And.intro (Nat.le_of_ble_eq_true rfl) (sm_in (sm_in (And.intro (Nat.le_of_ble_eq_true rfl) (k1t))))))) (fun c1 => have k1f := Eq.mp (if_neg c1) k; sm_in (sm_in (sm_in (sm_in (And.intro (Nat.le_of_ble_eq_true rfl) (k1f)))))))))
set_option maxRecDepth 100000 in
theorem w_X10_few_91 {ex : sm_O} {d n : Nat} {y : sm_Y} {I : Nat → Nat → Int32} {L : Nat → Nat → Int64} {R : Nat → Nat → Option Nat} {Q : sm_Q} {w1 : Option Value} {w2 : Option Value} {w4 : Option Value} {w6 : Option Value} {w9 : Option Value} {w10 : Option Value} {a3 : Int64} {a5 : Int64} {a7 : Int32} {a8 : Int32} (hG : sm_G y R) (k : if a8 < 0 then (sm_W ex d 0 0 105 80 [some (.ref 0), w1, w2, some (.long a3), w4, some (.long a5), sm_iv w6, some (.int (a7 + 1)), some (.int a8), w9, w10] [] (n, y, I, L, R) Q) else (if a8 ≤ 0 then (vp_in a8 20 ∧ sm_W ex d 0 0 105 91 [some (.ref 0), w1, w2, some (.long a3), w4, some (.long a5), w6, some (.int a7), some (.int (a8 + (-1))), some (.long 0), none] [] (n, y, I, sm_st L 121 a8.toNatClampNeg ((((L 121 a8.toNatClampNeg) * a5) / 10) + 0), R) Q) else (vp_in (a8 - 1) 20 ∧ vp_in a8 20 ∧ sm_W ex d 0 0 105 91 [some (.ref 0), w1, w2, some (.long a3), w4, some (.long a5), w6, some (.int a7), some (.int (a8 + (-1))), some (.long (((L 121 (a8 - 1).toNatClampNeg) * a3) / 10)), none] [] (n, y, I, sm_st L 121 a8.toNatClampNeg ((((L 121 a8.toNatClampNeg) * a5) / 10) + (((L 121 (a8 - 1).toNatClampNeg) * a3) / 10)), R) Q))) : sm_W ex d 0 0 105 91 [some (.ref 0), w1, w2, some (.long a3), w4, some (.long a5), w6, some (.int a7), some (.int a8), w9, w10] [] (n, y, I, L, R) Q := sm_in (sm_in (And.intro (fun c1 => have k1t := Eq.mp (if_pos c1) k; sm_in (And.intro (Nat.le_of_ble_eq_true rfl) (sm_in (k1t)))) (fun c1 => have k1f := Eq.mp (if_neg c1) k; sm_in (sm_in (And.intro (fun c2 => have k2t := Eq.mp (if_pos c2) k1f; sm_in (sm_in (And.intro (Nat.le_of_ble_eq_true rfl) (sm_in (sm_in (And.intro (hG.1 0 (Nat.le_of_ble_eq_true rfl)) (sm_gfr rfl (hG.2 0 14 rfl) (sm_in (sm_in (sm_in (And.intro (hG.1 0 (Nat.le_of_ble_eq_true rfl)) (sm_gfr rfl (hG.2 0 14 rfl) (sm_in ((have e3 := k2t.1; have k3 := k2t.2; sm_in (Exists.intro 20 (And.intro (hG.1 121 (Nat.le_of_ble_eq_true rfl)) (And.intro e3 (sm_in (sm_in (sm_in (sm_in (And.intro (by decide) (sm_in (sm_in (sm_in (Exists.intro 20 (And.intro (hG.1 121 (Nat.le_of_ble_eq_true rfl)) (And.intro e3 (sm_in (And.intro (Nat.le_of_ble_eq_true rfl) (sm_in (k3))))))))))))))))))))))))))))))))) (fun c2 => have k2f := Eq.mp (if_neg c2) k1f; sm_in (sm_in (And.intro (hG.1 0 (Nat.le_of_ble_eq_true rfl)) (sm_gfr rfl (hG.2 0 14 rfl) (sm_in (sm_in (sm_in ((have e4 := k2f.1; have k4 := k2f.2; sm_in (Exists.intro 20 (And.intro (hG.1 121 (Nat.le_of_ble_eq_true rfl)) (And.intro e4 (sm_in (sm_in (sm_in (sm_in (And.intro (by decide) (sm_in (sm_in (And.intro (Nat.le_of_ble_eq_true rfl) (sm_in (sm_in (And.intro (hG.1 0 (Nat.le_of_ble_eq_true rfl)) (sm_gfr rfl (hG.2 0 14 rfl) (sm_in (sm_in (sm_in (And.intro (hG.1 0 (Nat.le_of_ble_eq_true rfl)) (sm_gfr rfl (hG.2 0 14 rfl) (sm_in ((have e5 := k4.1; have k5 := k4.2; sm_in (Exists.intro 20 (And.intro (hG.1 121 (Nat.le_of_ble_eq_true rfl)) (And.intro e5 (sm_in (sm_in (sm_in (sm_in (And.intro (by decide) (sm_in (sm_in (sm_in (Exists.intro 20 (And.intro (hG.1 121 (Nat.le_of_ble_eq_true rfl)) (And.intro e5 (sm_in (And.intro (Nat.le_of_ble_eq_true rfl) (sm_in (k5)))))))))))))))))))))))))))))))))))))))))))))))))))))))
set_option maxRecDepth 100000 in
theorem w_X10_few_164 {ex : sm_O} {d n : Nat} {y : sm_Y} {I : Nat → Nat → Int32} {L : Nat → Nat → Int64} {R : Nat → Nat → Option Nat} {Q : sm_Q} {w2 : Option Value} {w3 : Option Value} {w4 : Option Value} {w5 : Option Value} {w6 : Option Value} {w8 : Option Value} {w10 : Option Value} {a1 : Int32} {a7 : Int64} {a9 : Int32} (hG : sm_G y R) (k : if a1 ≤ a9 then (Q (some (.long a7)) (n, y, I, L, R)) else (vp_in a9 20 ∧ sm_W ex d 0 0 105 164 [some (.ref 0), some (.int a1), w2, w3, w4, w5, sm_iv w6, some (.long (a7 + (L 121 a9.toNatClampNeg))), none, some (.int (a9 + 1)), w10] [] (n, y, I, L, R) Q)) : sm_W ex d 0 0 105 164 [some (.ref 0), some (.int a1), w2, w3, w4, w5, w6, some (.long a7), w8, some (.int a9), w10] [] (n, y, I, L, R) Q := sm_in (sm_in (sm_in (And.intro (fun c1 => have k1t := Eq.mp (if_pos c1) k; sm_in (sm_in (And.intro rfl k1t))) (fun c1 => have k1f := Eq.mp (if_neg c1) k; sm_in (sm_in (sm_in (And.intro (hG.1 0 (Nat.le_of_ble_eq_true rfl)) (sm_gfr rfl (hG.2 0 14 rfl) (sm_in ((have e2 := k1f.1; have k2 := k1f.2; sm_in (Exists.intro 20 (And.intro (hG.1 121 (Nat.le_of_ble_eq_true rfl)) (And.intro e2 (sm_in (sm_in (And.intro (Nat.le_of_ble_eq_true rfl) (sm_in (And.intro (Nat.le_of_ble_eq_true rfl) (sm_in (k2)))))))))))))))))))))
set_option maxRecDepth 100000 in
theorem w_X11_few_0 {ex : sm_O} {d n : Nat} {y : sm_Y} {I : Nat → Nat → Int32} {L : Nat → Nat → Int64} {R : Nat → Nat → Option Nat} {Q : sm_Q} {w3 : Option Value} {w4 : Option Value} {w5 : Option Value} {w6 : Option Value} {w7 : Option Value} {a1 : Int32} {a2 : Int32} (hG : sm_G y R) (hdep : 1 ≤ d) (k : if (1 : Int64) ≤ a1.toInt64 ∧ a1.toInt64 ≤ (20 : Int64) then (if (0 : Int64) ≤ a2.toInt64 ∧ a2.toInt64 ≤ (99 : Int64) then (sm_W ex d 0 0 226 35 [some (.ref 123), some (.int a1), some (.int a2), some (.int 0), w4, w5, w6, w7] [] (n, y, sm_st I 123 0 0, L, R) Q) else (Q (some (.long (-1))) (n, y, sm_st I 123 0 0, L, R))) else (Q (some (.long (-1))) (n, y, sm_st I 123 0 0, L, R))) : sm_W ex d 0 0 226 0 [some (.ref 123), some (.int a1), some (.int a2), w3, w4, w5, w6, w7] [] (n, y, I, L, R) Q := sm_in (sm_in (sm_in (And.intro (hG.1 123 (Nat.le_of_ble_eq_true rfl)) (sm_in (sm_in (sm_in (sm_in (sm_in (And.intro (Nat.le_of_ble_eq_true rfl) (sm_calln (d1 := 0) (Nat.lt_of_lt_of_le (Nat.lt_succ_self 0) (Nat.le_trans (Nat.le_of_ble_eq_true rfl) hdep)) (Nat.le_of_ble_eq_true rfl) (Nat.le_of_ble_eq_true rfl) (c_X11_in  (sm_in (And.intro (fun c1 => have k1f := Eq.mp (if_neg (sm_b_0.mp c1)) k; sm_in (sm_in (And.intro rfl k1f))) (fun c1 => have k1t := Eq.mp (if_pos (sm_b_n.mp c1)) k; sm_in (sm_in (sm_in (sm_in (sm_in (And.intro (Nat.le_of_ble_eq_true rfl) (sm_calln (d1 := 0) (Nat.lt_of_lt_of_le (Nat.lt_succ_self 0) (Nat.le_trans (Nat.le_of_ble_eq_true rfl) hdep)) (Nat.le_of_ble_eq_true rfl) (Nat.le_of_ble_eq_true rfl) (c_X11_in  (sm_in (And.intro (fun c2 => have k2t := Eq.mp (if_pos (sm_b_n.mp c2)) k1t; sm_in (sm_in (And.intro (Nat.le_of_ble_eq_true rfl) (k2t)))) (fun c2 => have k2f := Eq.mp (if_neg (sm_b_0.mp c2)) k1t; sm_in (sm_in (And.intro rfl k2f))))))))))))))))))))))))))
set_option maxRecDepth 100000 in
theorem w_X11_few_35 {ex : sm_O} {d n : Nat} {y : sm_Y} {I : Nat → Nat → Int32} {L : Nat → Nat → Int64} {R : Nat → Nat → Option Nat} {Q : sm_Q} {w1 : Option Value} {w4 : Option Value} {w5 : Option Value} {w6 : Option Value} {w7 : Option Value} {a2 : Int32} {a3 : Int32} (hG : sm_G y R) (k : if 21 ≤ a3 then (sm_W ex d 0 0 226 74 [some (.ref 123), w1, some (.int a2), some (.int (I 125 5)), some (.int 0), w5, w6, w7] [] (n, y, I, L, R) Q) else (if a3 = 0 then (vp_in a3 21 ∧ sm_W ex d 0 0 226 35 [some (.ref 123), w1, some (.int a2), some (.int (a3 + 1)), w4, w5, w6, w7] [] (n, y, I, sm_st L 152 a3.toNatClampNeg 1000000000000, R) Q) else (vp_in a3 21 ∧ sm_W ex d 0 0 226 35 [some (.ref 123), w1, some (.int a2), some (.int (a3 + 1)), w4, w5, w6, w7] [] (n, y, I, sm_st L 152 a3.toNatClampNeg 0, R) Q))) : sm_W ex d 0 0 226 35 [some (.ref 123), w1, some (.int a2), some (.int a3), w4, w5, w6, w7] [] (n, y, I, L, R) Q := sm_in (sm_in (sm_in (And.intro (fun c1 => have k1t := Eq.mp (if_pos c1) k; sm_in (sm_in (And.intro (hG.1 123 (Nat.le_of_ble_eq_true rfl)) (sm_gfr rfl (hG.2 123 3 rfl) (sm_in (sm_in (Exists.intro 5450 (And.intro (hG.1 125 (Nat.le_of_ble_eq_true rfl)) (And.intro (sm_lin (by decide)) (sm_in (And.intro (Nat.le_of_ble_eq_true rfl) (sm_in (sm_in (And.intro (Nat.le_of_ble_eq_true rfl) (k1t))))))))))))))) (fun c1 => have k1f := Eq.mp (if_neg c1) k; sm_in (sm_in (And.intro (hG.1 123 (Nat.le_of_ble_eq_true rfl)) (sm_gfr rfl (hG.2 123 50 rfl) (sm_in (sm_in (sm_in (And.intro (fun c2 => have k2f := Eq.mp (if_neg c2) k1f; sm_in ((have e4 := k2f.1; have k4 := k2f.2; sm_in (Exists.intro 21 (And.intro (hG.1 152 (Nat.le_of_ble_eq_true rfl)) (And.intro e4 (sm_in (And.intro (Nat.le_of_ble_eq_true rfl) (sm_in (k4)))))))))) (fun c2 => have k2t := Eq.mp (if_pos c2) k1f; sm_in (sm_in ((have e3 := k2t.1; have k3 := k2t.2; sm_in (Exists.intro 21 (And.intro (hG.1 152 (Nat.le_of_ble_eq_true rfl)) (And.intro e3 (sm_in (And.intro (Nat.le_of_ble_eq_true rfl) (sm_in (k3))))))))))))))))))))))
set_option maxRecDepth 100000 in
theorem w_X11_few_74 {ex : sm_O} {d n : Nat} {y : sm_Y} {I : Nat → Nat → Int32} {L : Nat → Nat → Int64} {R : Nat → Nat → Option Nat} {Q : sm_Q} {w0 : Option Value} {w5 : Option Value} {w6 : Option Value} {w7 : Option Value} {a1 : Int32} {a2 : Int32} {a3 : Int32} {a4 : Int32} (k : if a2 ≤ a4 then (sm_W ex d 0 0 226 157 [w0, some (.int a1), some (.int a2), some (.int a3), some (.long 0), none, some (.int 0), w7] [] (n, y, I, L, R) Q) else (sm_W ex d 0 0 226 85 [w0, some (.int a1), some (.int a2), some (.int a3), some (.int a4), some (.int (a1 - 1)), w6, w7] [] (n, y, I, L, R) Q)) : sm_W ex d 0 0 226 74 [w0, some (.int a1), some (.int a2), some (.int a3), some (.int a4), w5, w6, w7] [] (n, y, I, L, R) Q := sm_in (sm_in (sm_in (And.intro (fun c1 => have k1t := Eq.mp (if_pos c1) k; sm_in (sm_in (And.intro (Nat.le_of_ble_eq_true rfl) (sm_in (sm_in (And.intro (Nat.le_of_ble_eq_true rfl) (k1t))))))) (fun c1 => have k1f := Eq.mp (if_neg c1) k; sm_in (sm_in (sm_in (sm_in (And.intro (Nat.le_of_ble_eq_true rfl) (k1f)))))))))
set_option maxRecDepth 100000 in
theorem w_X11_few_85 {ex : sm_O} {d n : Nat} {y : sm_Y} {I : Nat → Nat → Int32} {L : Nat → Nat → Int64} {R : Nat → Nat → Option Nat} {Q : sm_Q} {w1 : Option Value} {w2 : Option Value} {w6 : Option Value} {w7 : Option Value} {a3 : Int32} {a4 : Int32} {a5 : Int32} (hG : sm_G y R) (k : if a5 < 0 then (sm_W ex d 0 0 226 74 [some (.ref 123), w1, w2, some (.int a3), some (.int (a4 + 1)), some (.int a5), w6, w7] [] (n, y, I, L, R) Q) else (vp_in a5 21 ∧ vp_in (a5 + 1) 21 ∧ sm_W ex d 0 0 226 85 [some (.ref 123), w1, w2, some (.int a3), some (.int a4), some (.int (a5 + (-1))), some (.long (L 152 a5.toNatClampNeg)), none] [] (n, y, I, sm_st (sm_st L 152 a5.toNatClampNeg (((L 152 a5.toNatClampNeg) * ((10 - a3).toInt64)) / 10)) 152 ((a5 + 1).toNatClampNeg) (((sm_st L 152 a5.toNatClampNeg (((L 152 a5.toNatClampNeg) * ((10 - a3).toInt64)) / 10)) 152 (a5 + 1).toNatClampNeg) + (((L 152 a5.toNatClampNeg) * a3.toInt64) / 10)), R) Q)) : sm_W ex d 0 0 226 85 [some (.ref 123), w1, w2, some (.int a3), some (.int a4), some (.int a5), w6, w7] [] (n, y, I, L, R) Q := sm_in (sm_in (And.intro (fun c1 => have k1t := Eq.mp (if_pos c1) k; sm_in (And.intro (Nat.le_of_ble_eq_true rfl) (sm_in (k1t)))) (fun c1 => have k1f := Eq.mp (if_neg c1) k; sm_in (sm_in (And.intro (hG.1 123 (Nat.le_of_ble_eq_true rfl)) (sm_gfr rfl (hG.2 123 50 rfl) (sm_in ((have e2 := k1f.1; have k2 := k1f.2; sm_in (Exists.intro 21 (And.intro (hG.1 152 (Nat.le_of_ble_eq_true rfl)) (And.intro e2 (sm_in (And.intro (Nat.le_of_ble_eq_true rfl) (sm_in (sm_in (And.intro (hG.1 123 (Nat.le_of_ble_eq_true rfl)) (sm_gfr rfl (hG.2 123 50 rfl) (sm_in (sm_in (sm_in (sm_in (sm_in (sm_in (sm_in (sm_in (sm_in (And.intro (by decide) (sm_in (Exists.intro 21 (And.intro (hG.1 152 (Nat.le_of_ble_eq_true rfl)) (And.intro e2 (sm_in (sm_in (And.intro (hG.1 123 (Nat.le_of_ble_eq_true rfl)) (sm_gfr rfl (hG.2 123 50 rfl) (sm_in (sm_in (sm_in (sm_in (And.intro rfl (And.intro rfl ((have e3 := k2.1; have k3 := k2.2; sm_in (Exists.intro 21 (And.intro (hG.1 152 (Nat.le_of_ble_eq_true rfl)) (And.intro e3 (sm_in (sm_in (sm_in (sm_in (sm_in (sm_in (And.intro (by decide) (sm_in (sm_in (Exists.intro 21 (And.intro (hG.1 152 (Nat.le_of_ble_eq_true rfl)) (And.intro e3 (sm_in (And.intro (Nat.le_of_ble_eq_true rfl) (sm_in (k3)))))))))))))))))))))))))))))))))))))))))))))))))))))))))))))))
set_option maxRecDepth 100000 in
theorem w_X11_few_157 {ex : sm_O} {d n : Nat} {y : sm_Y} {I : Nat → Nat → Int32} {L : Nat → Nat → Int64} {R : Nat → Nat → Option Nat} {Q : sm_Q} {w2 : Option Value} {w5 : Option Value} {w7 : Option Value} {a1 : Int32} {a3 : Int32} {a4 : Int64} {a6 : Int32} (hG : sm_G y R) (k : if a1 ≤ a6 then (Q (some (.long a4)) (n, y, I, L, R)) else (vp_in a6 21 ∧ sm_W ex d 0 0 226 157 [some (.ref 123), some (.int a1), w2, some (.int a3), some (.long (a4 + (L 152 a6.toNatClampNeg))), none, some (.int (a6 + 1)), w7] [] (n, y, I, L, R) Q)) : sm_W ex d 0 0 226 157 [some (.ref 123), some (.int a1), w2, some (.int a3), some (.long a4), w5, some (.int a6), w7] [] (n, y, I, L, R) Q := sm_in (sm_in (sm_in (And.intro (fun c1 => have k1t := Eq.mp (if_pos c1) k; sm_in (sm_in (And.intro rfl k1t))) (fun c1 => have k1f := Eq.mp (if_neg c1) k; sm_in (sm_in (sm_in (And.intro (hG.1 123 (Nat.le_of_ble_eq_true rfl)) (sm_gfr rfl (hG.2 123 50 rfl) (sm_in ((have e2 := k1f.1; have k2 := k1f.2; sm_in (Exists.intro 21 (And.intro (hG.1 152 (Nat.le_of_ble_eq_true rfl)) (And.intro e2 (sm_in (sm_in (And.intro (Nat.le_of_ble_eq_true rfl) (sm_in (And.intro (Nat.le_of_ble_eq_true rfl) (sm_in (k2)))))))))))))))))))))
-- FEW
def CML (ex : sm_O) (d k : Nat) (as : List (Option Value)) (g : GG) (r : Int64) (g' : GG) : Prop := ∀ (n : Nat) (y : sm_Y) (I : Nat → Nat → Int32) (L : Nat → Nat → Int64) (R : Nat → Nat → Option Nat) (Q : sm_Q), CI g n y I R → (∀ (I' : Nat → Nat → Int32) (L' : Nat → Nat → Int64), CI g' n y I' R → cKeep I I' L L' → Q (some (.long r)) (n, y, I', L', R)) → sm_W ex d 0 0 k 0 as [] (n, y, I, L, R) Q
def MML (ex : sm_O) (d k : Nat) (as : List (Option Value)) (g : GG) (r : Int64) (g' : GG) : Prop := ∀ (n : Nat) (y : sm_Y) (I : Nat → Nat → Int32) (L : Nat → Nat → Int64) (R : Nat → Nat → Option Nat) (Q : sm_Q), sm_G y R → MI g I L → (∀ (I' : Nat → Nat → Int32) (L' : Nat → Nat → Int64), MI g' I' L' → mKeep I I' → Q (some (.long r)) (n, y, I', L', R)) → sm_W ex d 0 0 k 0 as [] (n, y, I, L, R) Q
def fwS (sn : Nat) (p : Nat → Nat) (i : Nat) : Nat := p i * (10 - sn) / 10 + (if i = 0 then 0 else p (i - 1) * sn / 10)
def fwP (sn : Nat) : Nat → Nat → Nat
  | 0, i => if i = 0 then 1000000000000 else 0
  | m + 1, i => fwS sn (fwP sn m) i
def fwT (p : Nat → Nat) : Nat → Nat
  | 0 => 0
  | j + 1 => fwT p j + p j
theorem fwS_le {sn : Nat} {p : Nat → Nat} (hs : sn ≤ 10) (hp : ∀ i, p i ≤ 1000000000000) (i : Nat) : fwS sn p i ≤ 1000000000000 := by
  unfold fwS
  have h1 : p i * (10 - sn) ≤ 1000000000000 * (10 - sn) := Nat.mul_le_mul_right _ (hp i)
  have h2 : p (i - 1) * sn ≤ 1000000000000 * sn := Nat.mul_le_mul_right _ (hp (i - 1))
  generalize p i * (10 - sn) = A at h1 ⊢
  generalize p (i - 1) * sn = B at h2 ⊢
  split <;> omega
theorem fwP_le {sn : Nat} (hs : sn ≤ 10) : ∀ m i, fwP sn m i ≤ 1000000000000
  | 0, i => by
    unfold fwP
    split <;> omega
  | m + 1, i => fwS_le hs (fwP_le hs m) i
theorem fwT_le {p : Nat → Nat} (hp : ∀ i, p i ≤ 1000000000000) : ∀ j, fwT p j ≤ 1000000000000 * j
  | 0 => Nat.le_refl _
  | j + 1 => by
    have := fwT_le hp j
    have := hp j
    unfold fwT
    omega
def f_few (g : GG) (a b : Int32) : Int64 := if (1 ≤ a ∧ a ≤ 20) ∧ 0 ≤ b ∧ b ≤ 99 then lN (fwT (fwP (sTerm (gS g) 1) b.toNatClampNeg) a.toNatClampNeg) else -1
theorem fw_mul {a b : Nat} (ha : a ≤ 1000000000000) (hb : b ≤ 10) : lN a * lN b / 10 = lN (a * b / 10) := by
  have : a * b ≤ 1000000000000 * 10 := Nat.mul_le_mul ha hb
  rw [lN_mul, show (10 : Int64) = lN 10 from rfl, pk_lDiv (by omega) (by decide) (by decide)]
theorem nat_kn {a b : Int32} (h : (1 ≤ a ∧ a ≤ 20) ∧ 0 ≤ b ∧ b ≤ 99) : ∃ f x : Nat, a = nI f ∧ (1 ≤ f ∧ f ≤ 20) ∧ b = nI x ∧ x ≤ 99 := by
  obtain ⟨j, rfl, hj0, hj⟩ := sm_nat (lo := 1) (hi := 20) (by decide) h.1 (by decide)
  obtain ⟨u, rfl, -, hu⟩ := sm_nat (lo := 0) (hi := 99) (by decide) h.2 (by decide)
  exact ⟨j, u, rfl, ⟨hj0, hj⟩, rfl, hu⟩
set_option maxHeartbeats 1000000 in
theorem C_few {ex : sm_O} {d : Nat} {w3 w4 w5 w6 w7 w8 w9 w10 : Option Value} {g : GG} {a b : Int32} (hw : Wf g) : CML ex d 105 [some (.ref 0), some (.int a), some (.int b), w3, w4, w5, w6, w7, w8, w9, w10] g (f_few g a b) g := by
  intro n y I L R Q hc k
  have hs := hc.2.2.1
  have hG := hc.2.1
  have hsn : sTerm (gS g) 1 ≤ 10 := hw.1.1.1.2.2.2.2.2.1
  unfold f_few at k
  have k0 := k I L hc (cKeep.rfl' I L)
  have e1 : I 5 1 = nI (sTerm (gS g) 1) := hs.2.2.2.2.2 1 (by decide)
  refine w_X10_few_0 hG ?_
  by_cases q1 : a < 1
  · rw [if_pos q1]
    rw [if_neg (fun z => absurd q1 (Int32.not_lt.mpr z.1.1))] at k0
    exact k0
  rw [if_neg q1]
  by_cases q2 : 20 < a
  · rw [if_pos q2]
    rw [if_neg (fun z => absurd q2 (Int32.not_lt.mpr z.1.2))] at k0
    exact k0
  rw [if_neg q2]
  by_cases q3 : b < 0
  · rw [if_pos q3]
    rw [if_neg (fun z => absurd q3 (Int32.not_lt.mpr z.2.1))] at k0
    exact k0
  rw [if_neg q3]
  by_cases q4 : b ≤ 99
  · rw [if_pos q4]
    have hall : (1 ≤ a ∧ a ≤ 20) ∧ 0 ≤ b ∧ b ≤ 99 := ⟨⟨Int32.not_lt.mp q1, Int32.not_lt.mp q2⟩, Int32.not_lt.mp q3, q4⟩
    rw [if_pos hall] at k
    obtain ⟨K, N, rfl, hK, rfl, hN⟩ := nat_kn hall
    rw [nI_clamp (by omega), nI_clamp (by omega)] at k
    rw [e1, nI_l (by omega), show (10 : Int64) - lN (sTerm (gS g) 1) = lN (10 - sTerm (gS g) 1) from lN_sub hsn]
    generalize sTerm (gS g) 1 = sn at k hsn ⊢
    -- the sum
    have sum : ∀ (L1 : Nat → Nat → Int64), (∀ a j, a ≠ 121 → L1 a j = L a j) → (∀ i, i < K → L1 121 i = lN (fwP sn N i)) → ∀ (q j : Nat) (u2 u3 u4 u5 u6 u8 u10 : Option Value), j + q = K → sm_W ex d 0 0 105 164 [some (.ref 0), some (.int (nI K)), u2, u3, u4, u5, u6, some (.long (lN (fwT (fwP sn N) j))), u8, some (.int (nI j)), u10] [] (n, y, I, L1, R) Q := by
      intro L1 f1 h1 q
      induction q with
      | zero =>
        intro j u2 u3 u4 u5 u6 u8 u10 hj
        obtain rfl : j = K := by omega
        refine w_X10_few_164 hG ?_
        rw [if_pos (Int32.le_refl _)]
        exact k I L1 hc ⟨fun _ _ _ _ => rfl, f1⟩
      | succ q ih =>
        intro j u2 u3 u4 u5 u6 u8 u10 hj
        refine w_X10_few_164 hG ?_
        rw [if_neg (by rw [nI_leI (by omega) (by omega)]; omega), nI_clamp (by omega), h1 j (by omega), lN_add, sm_n1]
        exact ⟨vp_in_nI (by omega) (by decide), ih (j + 1) _ _ _ _ _ _ _ (by omega)⟩
    -- man by man
    have men : ∀ (q m : Nat) (L1 : Nat → Nat → Int64) (u4 u6 u8 u9 u10 : Option Value), m + q = N → (∀ a j, a ≠ 121 → L1 a j = L a j) → (∀ i, i < K → L1 121 i = lN (fwP sn m i)) → sm_W ex d 0 0 105 80 [some (.ref 0), some (.int (nI K)), some (.int (nI N)), some (.long (lN sn)), u4, some (.long (lN (10 - sn))), u6, some (.int (nI m)), u8, u9, u10] [] (n, y, I, L1, R) Q := by
      intro q
      induction q with
      | zero =>
        intro m L1 u4 u6 u8 u9 u10 hm f1 h1
        obtain rfl : m = N := by omega
        refine w_X10_few_80 ?_
        rw [if_pos (Int32.le_refl _)]
        exact sum L1 f1 h1 K 0 _ _ _ _ _ _ _ (by omega)
      | succ q ih =>
        intro m L1 u4 u6 u8 u9 u10 hm f1 h1
        have hpl := fwP_le hsn m
        refine w_X10_few_80 ?_
        rw [if_neg (by rw [nI_leI (by omega) (by omega)]; omega)]
        obtain ⟨K1, rfl⟩ : ∃ K1, K = K1 + 1 := ⟨K - 1, by omega⟩
        rw [nI_pred]
        have fin : ∀ (L2 : Nat → Nat → Int64) (u6 u9 u10 : Option Value), (∀ a j, a ≠ 121 → L2 a j = L a j) → (∀ i, i < K1 + 1 → L2 121 i = lN (fwS sn (fwP sn m) i)) → sm_W ex d 0 0 105 91 [some (.ref 0), some (.int (nI (K1 + 1))), some (.int (nI N)), some (.long (lN sn)), u4, some (.long (lN (10 - sn))), u6, some (.int (nI m)), some (.int (-1)), u9, u10] [] (n, y, I, L2, R) Q := by
          intro L2 u6 u9 u10 f2 h2
          refine w_X10_few_91 hG ?_
          rw [if_pos (by decide), sm_n1]
          exact ih (m + 1) L2 _ _ _ _ _ (by omega) f2 h2
        have inner : ∀ (j : Nat) (L2 : Nat → Nat → Int64) (u6 u9 u10 : Option Value), j ≤ K1 → (∀ a j, a ≠ 121 → L2 a j = L a j) → (∀ i, i < K1 + 1 → L2 121 i = lN (if j < i then fwS sn (fwP sn m) i else fwP sn m i)) → sm_W ex d 0 0 105 91 [some (.ref 0), some (.int (nI (K1 + 1))), some (.int (nI N)), some (.long (lN sn)), u4, some (.long (lN (10 - sn))), u6, some (.int (nI m)), some (.int (nI j)), u9, u10] [] (n, y, I, L2, R) Q := by
          intro j
          induction j with
          | zero =>
            intro L2 u6 u9 u10 hj f2 h2
            refine w_X10_few_91 hG ?_
            have e0 : L2 121 0 = lN (fwP sn m 0) := by rw [h2 0 (by omega), if_neg (by omega)]
            rw [if_neg (nI_pos (by omega)), if_pos (by decide), nI_clamp (by omega), e0, fw_mul (hpl 0) (by omega), show (0 : Int64) = lN 0 from rfl, lN_add]
            refine ⟨vp_in_nI (by omega) (by decide), ?_⟩
            refine fin _ _ _ _ (fun a j h => by rw [sm_st_o _ _ h]; exact f2 a j h) (fun i hi => ?_)
            by_cases e : i = 0
            · subst e
              rw [sm_st_s]
              unfold fwS
              rw [if_pos rfl]
            · rw [sm_st_j _ _ e, h2 i hi, if_pos (by omega)]
          | succ j ihj =>
            intro L2 u6 u9 u10 hj f2 h2
            refine w_X10_few_91 hG ?_
            have e0 : L2 121 (j + 1) = lN (fwP sn m (j + 1)) := by rw [h2 (j + 1) (by omega), if_neg (by omega)]
            have e1 : L2 121 j = lN (fwP sn m j) := by rw [h2 j (by omega), if_neg (by omega)]
            rw [if_neg (nI_pos (by omega)), if_neg (nI_nle (by omega) (by omega)), nI_pred, nI_clamp (by omega), nI_clamp (by omega), e0, e1, fw_mul (hpl (j + 1)) (by omega), fw_mul (hpl j) hsn, lN_add, pk_m1]
            refine ⟨vp_in_nI (by omega) (by decide), vp_in_nI (by omega) (by decide), ?_⟩
            refine ihj _ _ _ _ (by omega) (fun a j h => by rw [sm_st_o _ _ h]; exact f2 a j h) (fun i hi => ?_)
            by_cases e : i = j + 1
            · subst e
              rw [sm_st_s, if_pos (by omega)]
              unfold fwS
              rw [if_neg (by omega), show j + 1 - 1 = j from rfl]
            · rw [sm_st_j _ _ e, h2 i hi]
              by_cases e2 : j < i
              · rw [if_pos (by omega), if_pos e2]
              · rw [if_neg (by omega), if_neg e2]
        refine inner K1 L1 _ _ _ (Nat.le_refl _) f1 (fun i hi => ?_)
        rw [if_neg (by omega)]
        exact h1 i hi
    -- the start
    have start : ∀ (q j : Nat) (L1 : Nat → Nat → Int64) (u4 u6 u8 u9 u10 : Option Value), j + q = K → (∀ a j, a ≠ 121 → L1 a j = L a j) → (∀ i, i < j → L1 121 i = lN (fwP sn 0 i)) → sm_W ex d 0 0 105 46 [some (.ref 0), some (.int (nI K)), some (.int (nI N)), some (.long (lN sn)), u4, some (.long (lN (10 - sn))), u6, some (.int (nI j)), u8, u9, u10] [] (n, y, I, L1, R) Q := by
      intro q
      induction q with
      | zero =>
        intro j L1 u4 u6 u8 u9 u10 hj f1 h1
        obtain rfl : j = K := by omega
        refine w_X10_few_46 hG ?_
        rw [if_pos (Int32.le_refl _)]
        exact men N 0 L1 _ _ _ _ _ (by omega) f1 h1
      | succ q ih =>
        intro j L1 u4 u6 u8 u9 u10 hj f1 h1
        have nx : ∀ v, v = lN (fwP sn 0 j) → sm_W ex d 0 0 105 46 [some (.ref 0), some (.int (nI K)), some (.int (nI N)), some (.long (lN sn)), u4, some (.long (lN (10 - sn))), sm_iv u6, some (.int (nI (j + 1))), u8, u9, u10] [] (n, y, I, sm_st L1 121 j v, R) Q := by
          intro v hv
          refine ih (j + 1) _ _ _ _ _ _ (by omega) (fun a j h => by rw [sm_st_o _ _ h]; exact f1 a j h) (fun i hi => ?_)
          by_cases e : i = j
          · subst e
            rw [sm_st_s, hv]
          · rw [sm_st_j _ _ e]
            exact h1 i (by omega)
        refine w_X10_few_46 hG ?_
        rw [if_neg (by rw [nI_leI (by omega) (by omega)]; omega), nI_clamp (by omega), sm_n1]
        by_cases h0 : j = 0
        · rw [if_pos (by rw [h0]; rfl)]
          exact ⟨vp_in_nI (by omega) (by decide), nx _ (by rw [h0]; rfl)⟩
        · rw [if_neg (nI_ne0 (by omega) (by omega))]
          exact ⟨vp_in_nI (by omega) (by decide), nx _ (by show _ = lN (if j = 0 then _ else 0); rw [if_neg h0]; rfl)⟩
    exact start K 0 L _ _ _ _ _ (by omega) (fun _ _ _ => rfl) (fun i hi => absurd hi (by omega))
  · rw [if_neg q4]
    rw [if_neg (fun z => q4 z.2.2)] at k0
    exact k0
set_option maxHeartbeats 1000000 in
theorem M_few {ex : sm_O} {d : Nat} {w3 w4 w5 w6 w7 : Option Value} {g : GG} {a b : Int32} (hd : 1 ≤ d) (hw : Wf g) : MML ex d 226 [some (.ref 123), some (.int a), some (.int b), w3, w4, w5, w6, w7] g (f_few g a b) g := by
  intro n y I0 L R Q hG hm k
  have hsn : sTerm (gS g) 1 ≤ 10 := hw.1.1.1.2.2.2.2.2.1
  have hm := MI_thr hm
  have k : ∀ L', (∀ a j, a ≠ 152 → L' a j = L a j) → Q (some (.long (f_few g a b))) (n, y, sm_st I0 123 0 0, L', R) := fun L' h => k _ L' (MI_scr hw (fun _ _ _ => rfl) (fun a j q => h a j (by omega)) hm) (mKeep_thr I0)
  unfold f_few at k
  refine w_X11_few_0 hG (by omega) ?_
  generalize sm_st I0 123 0 0 = I at hm k ⊢
  have k0 := k L (fun _ _ _ => rfl)
  have i1 : ((1 : Int64) ≤ a.toInt64 ∧ a.toInt64 ≤ (20 : Int64)) ↔ (1 ≤ a ∧ a ≤ 20) := sm_in64 (lo := 1) (hi := 20)
  have i2 : ((0 : Int64) ≤ b.toInt64 ∧ b.toInt64 ≤ (99 : Int64)) ↔ (0 ≤ b ∧ b ≤ 99) := sm_in64 (lo := 0) (hi := 99)
  simp only [i1, i2]
  by_cases q1 : 1 ≤ a ∧ a ≤ 20
  · rw [if_pos q1]
    by_cases q2 : 0 ≤ b ∧ b ≤ 99
    · rw [if_pos q2]
      rw [if_pos ⟨q1, q2⟩] at k
      obtain ⟨K, N, rfl, hK, rfl, hN⟩ := nat_kn ⟨q1, q2⟩
      rw [nI_clamp (by omega), nI_clamp (by omega)] at k
      have e5 : I 125 5 = nI (sTerm (gS g) 1) := hm.1.2.2.2.2 1 (by decide)
      generalize sTerm (gS g) 1 = sn at k hsn e5 ⊢
      have s1 : (10 : Int32) - nI sn = nI (10 - sn) := pk_sub (a := 10) hsn
      have sum : ∀ (L1 : Nat → Nat → Int64), (∀ a j, a ≠ 152 → L1 a j = L a j) → (∀ i, i < K → L1 152 i = lN (fwP sn N i)) → ∀ (q j : Nat) (u2 u5 u7 : Option Value), j + q = K → sm_W ex d 0 0 226 157 [some (.ref 123), some (.int (nI K)), u2, some (.int (nI sn)), some (.long (lN (fwT (fwP sn N) j))), u5, some (.int (nI j)), u7] [] (n, y, I, L1, R) Q := by
        intro L1 f1 h1 q
        induction q with
        | zero =>
          intro j u2 u5 u7 hj
          obtain rfl : j = K := by omega
          refine w_X11_few_157 hG ?_
          rw [if_pos (Int32.le_refl _)]
          exact k L1 f1
        | succ q ih =>
          intro j u2 u5 u7 hj
          refine w_X11_few_157 hG ?_
          rw [if_neg (by rw [nI_leI (by omega) (by omega)]; omega), nI_clamp (by omega), h1 j (by omega), lN_add, sm_n1]
          exact ⟨vp_in_nI (by omega) (by decide), ih (j + 1) _ _ _ (by omega)⟩
      have men : ∀ (q m : Nat) (L1 : Nat → Nat → Int64) (u5 u6 u7 : Option Value), m + q = N → (∀ a j, a ≠ 152 → L1 a j = L a j) → (∀ i, i < K → L1 152 i = lN (fwP sn m i)) → sm_W ex d 0 0 226 74 [some (.ref 123), some (.int (nI K)), some (.int (nI N)), some (.int (nI sn)), some (.int (nI m)), u5, u6, u7] [] (n, y, I, L1, R) Q := by
        intro q
        induction q with
        | zero =>
          intro m L1 u5 u6 u7 hm f1 h1
          obtain rfl : m = N := by omega
          refine w_X11_few_74 ?_
          rw [if_pos (Int32.le_refl _)]
          exact sum L1 f1 h1 K 0 _ _ _ (by omega)
        | succ q ih =>
          intro m L1 u5 u6 u7 hm f1 h1
          have hpl := fwP_le hsn m
          refine w_X11_few_74 ?_
          rw [if_neg (by rw [nI_leI (by omega) (by omega)]; omega)]
          obtain ⟨K1, rfl⟩ : ∃ K1, K = K1 + 1 := ⟨K - 1, by omega⟩
          rw [nI_pred]
          have fin : ∀ (L2 : Nat → Nat → Int64) (u6 u7 : Option Value), (∀ a j, a ≠ 152 → L2 a j = L a j) → (∀ i, i < K1 + 1 → L2 152 i = lN (fwS sn (fwP sn m) i)) → sm_W ex d 0 0 226 85 [some (.ref 123), some (.int (nI (K1 + 1))), some (.int (nI N)), some (.int (nI sn)), some (.int (nI m)), some (.int (-1)), u6, u7] [] (n, y, I, L2, R) Q := by
            intro L2 u6 u7 f2 h2
            refine w_X11_few_85 hG ?_
            rw [if_pos (by decide), sm_n1]
            exact ih (m + 1) L2 _ _ _ (by omega) f2 h2
          have inner : ∀ (j : Nat) (L2 : Nat → Nat → Int64) (u6 u7 : Option Value), j ≤ K1 → (∀ a j, a ≠ 152 → L2 a j = L a j) → (∀ i, i < K1 + 1 → L2 152 i = lN (if i ≤ j then fwP sn m i else if i = j + 1 then fwP sn m i * (10 - sn) / 10 else fwS sn (fwP sn m) i)) → sm_W ex d 0 0 226 85 [some (.ref 123), some (.int (nI (K1 + 1))), some (.int (nI N)), some (.int (nI sn)), some (.int (nI m)), some (.int (nI j)), u6, u7] [] (n, y, I, L2, R) Q := by
            intro j
            induction j with
            | zero =>
              intro L2 u6 u7 hj f2 h2
              refine w_X11_few_85 hG ?_
              have e0 : L2 152 0 = lN (fwP sn m 0) := by rw [h2 0 (by omega), if_pos (by omega)]
              rw [if_neg (nI_pos (by omega)), sm_n1, nI_clamp (by omega), nI_clamp (by omega), e0, s1, nI_l (by omega), nI_l (by omega), fw_mul (hpl 0) (by omega), fw_mul (hpl 0) hsn]
              refine ⟨vp_in_nI (by omega) (by decide), vp_in_nI (by omega) (by decide), ?_⟩
              refine fin _ _ _ (fun a j h => by rw [sm_st_o _ _ h, sm_st_o _ _ h]; exact f2 a j h) (fun i hi => ?_)
              by_cases e : i = 0
              · subst e
                rw [sm_st_j _ _ (by decide), sm_st_s]
                unfold fwS
                rw [if_pos rfl]
                rfl
              · by_cases e1 : i = 1
                · subst e1
                  rw [sm_st_s, sm_st_j _ _ (by decide), h2 1 hi, if_neg (by omega), if_pos rfl, lN_add]
                  rfl
                · rw [sm_st_j _ _ (by omega), sm_st_j _ _ (by omega), h2 i hi, if_neg (by omega), if_neg (by omega)]
            | succ j ihj =>
              intro L2 u6 u7 hj f2 h2
              refine w_X11_few_85 hG ?_
              have e0 : L2 152 (j + 1) = lN (fwP sn m (j + 1)) := by rw [h2 (j + 1) (by omega), if_pos (by omega)]
              rw [if_neg (nI_pos (by omega)), sm_n1, nI_clamp (by omega), nI_clamp (by omega), e0, s1, nI_l (by omega), nI_l (by omega), fw_mul (hpl (j + 1)) (by omega), fw_mul (hpl (j + 1)) hsn, pk_m1]
              refine ⟨vp_in_nI (by omega) (by decide), vp_in_nI (by omega) (by decide), ?_⟩
              refine ihj _ _ _ (by omega) (fun a j h => by rw [sm_st_o _ _ h, sm_st_o _ _ h]; exact f2 a j h) (fun i hi => ?_)
              by_cases e : i = j + 2
              · subst e
                rw [sm_st_s, sm_st_j _ _ (by omega), h2 (j + 2) hi, if_neg (by omega), if_pos rfl, if_neg (by omega), if_neg (by omega), lN_add]
                unfold fwS
                rw [if_neg (by omega), show j + 2 - 1 = j + 1 from rfl]
              · by_cases e1 : i = j + 1
                · subst e1
                  rw [sm_st_j _ _ (by omega), sm_st_s, if_neg (by omega), if_pos rfl]
                · rw [sm_st_j _ _ (by omega), sm_st_j _ _ (by omega), h2 i hi]
                  by_cases e2 : i ≤ j
                  · rw [if_pos (by omega), if_pos e2]
                  · rw [if_neg (by omega), if_neg (by omega), if_neg (by omega), if_neg (by omega)]
          refine inner K1 L1 _ _ (Nat.le_refl _) f1 (fun i hi => ?_)
          rw [if_pos (by omega)]
          exact h1 i hi
      have start : ∀ (q j : Nat) (L1 : Nat → Nat → Int64) (u4 u5 u6 u7 : Option Value), j + q = 21 → (∀ a j, a ≠ 152 → L1 a j = L a j) → (∀ i, i < j → L1 152 i = lN (fwP sn 0 i)) → sm_W ex d 0 0 226 35 [some (.ref 123), some (.int (nI K)), some (.int (nI N)), some (.int (nI j)), u4, u5, u6, u7] [] (n, y, I, L1, R) Q := by
        intro q
        induction q with
        | zero =>
          intro j L1 u4 u5 u6 u7 hj f1 h1
          obtain rfl : j = 21 := by omega
          refine w_X11_few_35 hG ?_
          rw [if_pos (by decide), e5]
          exact men N 0 L1 _ _ _ (by omega) f1 (fun i hi => h1 i (by omega))
        | succ q ih =>
          intro j L1 u4 u5 u6 u7 hj f1 h1
          have nx : ∀ v, v = lN (fwP sn 0 j) → sm_W ex d 0 0 226 35 [some (.ref 123), some (.int (nI K)), some (.int (nI N)), some (.int (nI (j + 1))), u4, u5, u6, u7] [] (n, y, I, sm_st L1 152 j v, R) Q := by
            intro v hv
            refine ih (j + 1) _ _ _ _ _ (by omega) (fun a j h => by rw [sm_st_o _ _ h]; exact f1 a j h) (fun i hi => ?_)
            by_cases e : i = j
            · subst e
              rw [sm_st_s, hv]
            · rw [sm_st_j _ _ e]
              exact h1 i (by omega)
          refine w_X11_few_35 hG ?_
          rw [if_neg (by rw [sm_of 21, nI_leI (by decide) (by omega)]; omega), nI_clamp (by omega), sm_n1]
          by_cases h0 : j = 0
          · rw [if_pos (by rw [h0]; rfl)]
            exact ⟨vp_in_nI (by omega) (by decide), nx _ (by rw [h0]; rfl)⟩
          · rw [if_neg (nI_ne0 (by omega) (by omega))]
            exact ⟨vp_in_nI (by omega) (by decide), nx _ (by show _ = lN (if j = 0 then _ else 0); rw [if_neg h0]; rfl)⟩
      exact start 21 0 L _ _ _ _ (by omega) (fun _ _ _ => rfl) (fun i hi => absurd hi (by omega))
    · rw [if_neg q2]
      rw [if_neg (fun z => q2 z.2)] at k0
      exact k0
  · rw [if_neg q1]
    rw [if_neg (fun z => q1 z.1)] at k0
    exact k0

