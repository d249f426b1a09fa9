set_option maxRecDepth 100000 in
theorem w_X11_keepDeep_0 {ex : sm_O} {d n : Nat} {y : sm_Y} {I : Nat → Nat → Int32} {L : Nat → Nat → Int64} {R : Nat → Nat → Option Nat} {Q : sm_Q} {w0 : Option Value} {w1 : Option Value} {w3 : Option Value} {a2 : Int32} (k : sm_W ex d 0 0 205 2 [w0, w1, some (.int a2), some (.int 0)] [] (n, y, I, L, R) Q) : sm_W ex d 0 0 205 0 [w0, w1, some (.int a2), w3] [] (n, y, I, L, R) Q := sm_in (sm_in (And.intro (Nat.le_of_ble_eq_true rfl) (k)))
set_option maxRecDepth 100000 in
theorem w_X11_keepDeep_2 {ex : sm_O} {d n : Nat} {y : sm_Y} {I : Nat → Nat → Int32} {L : Nat → Nat → Int64} {R : Nat → Nat → Option Nat} {Q : sm_Q} {a1 : Int32} {a2 : Int32} {a3 : Int32} (hG : sm_G y R) (k : if 20 ≤ a3 then (vp_in a1 6 ∧ Q none (n, y, sm_st (sm_st I 146 a1.toNatClampNeg (-1)) 147 a1.toNatClampNeg a2, L, R)) else (vp_in (4 + a3) 5450 ∧ vp_in ((20 * a1) + a3) 120 ∧ sm_W ex d 0 0 205 2 [some (.ref 123), some (.int a1), some (.int a2), some (.int (a3 + 1))] [] (n, y, sm_st I 145 (((20 * a1) + a3).toNatClampNeg) (I 125 (4 + a3).toNatClampNeg), L, R) Q)) : sm_W ex d 0 0 205 2 [some (.ref 123), some (.int a1), some (.int a2), some (.int a3)] [] (n, y, I, L, R) Q := sm_in (sm_in (sm_in (And.intro (fun c1 => have k1t := Eq.mp (if_pos c1) k; sm_in (sm_in (And.intro (hG.1 123 (Nat.le_of_ble_eq_true rfl)) (sm_gfr rfl (hG.2 123 43 rfl) (sm_in (sm_in ((have e2 := k1t.1; have k2 := k1t.2; sm_in (Exists.intro 6 (And.intro (hG.1 146 (Nat.le_of_ble_eq_true rfl)) (And.intro e2 (sm_in (sm_in (And.intro (hG.1 123 (Nat.le_of_ble_eq_true rfl)) (sm_gfr rfl (hG.2 123 44 rfl) (sm_in (sm_in (sm_in (Exists.intro 6 (And.intro (hG.1 147 (Nat.le_of_ble_eq_true rfl)) (And.intro e2 (sm_in (And.intro rfl (And.intro rfl k2)))))))))))))))))))))))) (fun c1 => have k1f := Eq.mp (if_neg c1) k; sm_in (sm_in (And.intro (hG.1 123 (Nat.le_of_ble_eq_true rfl)) (sm_gfr rfl (hG.2 123 42 rfl) (sm_in (sm_in (sm_in (sm_in (sm_in (sm_in (sm_in (And.intro (hG.1 123 (Nat.le_of_ble_eq_true rfl)) (sm_gfr rfl (hG.2 123 3 rfl) (sm_in (sm_in (sm_in ((have e3 := k1f.1; have k3 := k1f.2; sm_in (Exists.intro 5450 (And.intro (hG.1 125 (Nat.le_of_ble_eq_true rfl)) (And.intro e3 ((have e4 := k3.1; have k4 := k3.2; sm_in (Exists.intro 120 (And.intro (hG.1 145 (Nat.le_of_ble_eq_true rfl)) (And.intro e4 (sm_in (And.intro (Nat.le_of_ble_eq_true rfl) (sm_in (k4)))))))))))))))))))))))))))))))))
set_option maxRecDepth 100000 in
theorem w_X11_putDeep_0 {ex : sm_O} {d n : Nat} {y : sm_Y} {I : Nat → Nat → Int32} {L : Nat → Nat → Int64} {R : Nat → Nat → Option Nat} {Q : sm_Q} {w0 : Option Value} {w2 : Option Value} {a1 : Int32} (k : sm_W ex d 0 0 206 2 [w0, some (.int a1), some (.int 0)] [] (n, y, I, L, R) Q) : sm_W ex d 0 0 206 0 [w0, some (.int a1), w2] [] (n, y, I, L, R) Q := sm_in (sm_in (And.intro (Nat.le_of_ble_eq_true rfl) (k)))
set_option maxRecDepth 100000 in
theorem w_X11_putDeep_2 {ex : sm_O} {d n : Nat} {y : sm_Y} {I : Nat → Nat → Int32} {L : Nat → Nat → Int64} {R : Nat → Nat → Option Nat} {Q : sm_Q} {a1 : Int32} {a2 : Int32} (hG : sm_G y R) (k : if 20 ≤ a2 then (Q none (n, y, I, L, R)) else (vp_in ((20 * a1) + a2) 120 ∧ vp_in (4 + a2) 5450 ∧ sm_W ex d 0 0 206 2 [some (.ref 123), some (.int a1), some (.int (a2 + 1))] [] (n, y, sm_st I 125 ((4 + a2).toNatClampNeg) (I 145 ((20 * a1) + a2).toNatClampNeg), L, R) Q)) : sm_W ex d 0 0 206 2 [some (.ref 123), some (.int a1), some (.int a2)] [] (n, y, I, L, R) Q := sm_in (sm_in (sm_in (And.intro (fun c1 => have k1t := Eq.mp (if_pos c1) k; sm_in (And.intro rfl (And.intro rfl k1t))) (fun c1 => have k1f := Eq.mp (if_neg c1) k; sm_in (sm_in (And.intro (hG.1 123 (Nat.le_of_ble_eq_true rfl)) (sm_gfr rfl (hG.2 123 3 rfl) (sm_in (sm_in (sm_in (sm_in (sm_in (And.intro (hG.1 123 (Nat.le_of_ble_eq_true rfl)) (sm_gfr rfl (hG.2 123 42 rfl) (sm_in (sm_in (sm_in (sm_in (sm_in ((have e2 := k1f.1; have k2 := k1f.2; sm_in (Exists.intro 120 (And.intro (hG.1 145 (Nat.le_of_ble_eq_true rfl)) (And.intro e2 ((have e3 := k2.1; have k3 := k2.2; sm_in (Exists.intro 5450 (And.intro (hG.1 125 (Nat.le_of_ble_eq_true rfl)) (And.intro e3 (sm_in (And.intro (Nat.le_of_ble_eq_true rfl) (sm_in (k3)))))))))))))))))))))))))))))))))
set_option maxRecDepth 100000 in
theorem w_X11_tryMan_0 {ex : sm_O} {d n : Nat} {y : sm_Y} {I : Nat → Nat → Int32} {L : Nat → Nat → Int64} {R : Nat → Nat → Option Nat} {Q : sm_Q} {a1 : Int32} {a2 : Int32} {d1 : Nat} (hG : sm_G y R) (h1 : d1 < d) (k : vp_in a1 6 ∧ (if (I 125 8) = a2 then (sm_W ex d 0 0 207 40 [some (.ref 123), some (.int a1), some (.int a2)] [.int 0, .int (I 147 a1.toNatClampNeg), .int (a1 + 1), .ref 147] (n, y, sm_st I 146 a1.toNatClampNeg a2, L, R) Q) else (sm_W ex d1 0 0 190 0 [some (.ref 123), some (.int a2), none] [] (n, y, sm_st I 146 a1.toNatClampNeg a2, L, R) (fun r μ1 => sm_W ex d 0 0 207 40 [some (.ref 123), some (.int a1), some (.int a2)] (r.toList ++ [.int (I 147 a1.toNatClampNeg), .int (a1 + 1), .ref 147]) μ1 Q)))) : sm_W ex d 0 0 207 0 [some (.ref 123), some (.int a1), some (.int a2)] [] (n, y, I, L, R) Q := sm_in (sm_in (And.intro (hG.1 123 (Nat.le_of_ble_eq_true rfl)) (sm_gfr rfl (hG.2 123 43 rfl) (sm_in (sm_in ((have e1 := k.1; have k1 := k.2; sm_in (Exists.intro 6 (And.intro (hG.1 146 (Nat.le_of_ble_eq_true rfl)) (And.intro e1 (sm_in (sm_in (And.intro (hG.1 123 (Nat.le_of_ble_eq_true rfl)) (sm_gfr rfl (hG.2 123 44 rfl) (sm_in (sm_in (sm_in (sm_in (sm_in (And.intro (hG.1 123 (Nat.le_of_ble_eq_true rfl)) (sm_gfr rfl (hG.2 123 44 rfl) (sm_in (sm_in (Exists.intro 6 (And.intro (hG.1 147 (Nat.le_of_ble_eq_true rfl)) (And.intro e1 (sm_in (sm_in (And.intro (hG.1 123 (Nat.le_of_ble_eq_true rfl)) (sm_gfr rfl (hG.2 123 3 rfl) (sm_in (sm_in (Exists.intro 5450 (And.intro (hG.1 125 (Nat.le_of_ble_eq_true rfl)) (And.intro (sm_lin (by decide)) (sm_in (sm_in (And.intro (fun c2 => have k2f := Eq.mp (if_neg c2) k1; sm_in (sm_in (sm_in (Exists.intro 11 (And.intro (hG.1 123 (Nat.le_of_ble_eq_true rfl)) (And.intro rfl (sm_calln h1 (Nat.le_of_ble_eq_true rfl) (Nat.le_of_ble_eq_true rfl) k2f))))))) (fun c2 => have k2t := Eq.mp (if_pos c2) k1; sm_in (sm_in (k2t)))))))))))))))))))))))))))))))))))))))))
set_option maxRecDepth 100000 in
theorem w_X11_tryMan_40 {ex : sm_O} {d n : Nat} {y : sm_Y} {I : Nat → Nat → Int32} {L : Nat → Nat → Int64} {R : Nat → Nat → Option Nat} {Q : sm_Q} {w1 : Option Value} {w2 : Option Value} {s0 : Int32} {s1 : Int32} {s2 : Int32} {d1 : Nat} (hG : sm_G y R) (h1 : d1 < d) (k : vp_in s2 6 ∧ sm_W ex d1 0 0 199 0 [some (.ref 123), none, none] [] (n, y, sm_st I 147 s2.toNatClampNeg (s1 + s0), L, R) (fun r μ1 => sm_W ex d 0 0 207 46 [some (.ref 123), w1, w2] (r.toList ++ []) μ1 Q)) : sm_W ex d 0 0 207 40 [some (.ref 123), w1, w2] [.int s0, .int s1, .int s2, .ref 147] (n, y, I, L, R) Q := sm_in ((have e1 := k.1; have k1 := k.2; sm_in (Exists.intro 6 (And.intro (hG.1 147 (Nat.le_of_ble_eq_true rfl)) (And.intro e1 (sm_in (sm_in (Exists.intro 11 (And.intro (hG.1 123 (Nat.le_of_ble_eq_true rfl)) (And.intro rfl (sm_calln h1 (Nat.le_of_ble_eq_true rfl) (Nat.le_of_ble_eq_true rfl) k1)))))))))))
set_option maxRecDepth 100000 in
theorem w_X11_tryMan_46 {ex : sm_O} {d n : Nat} {y : sm_Y} {I : Nat → Nat → Int32} {L : Nat → Nat → Int64} {R : Nat → Nat → Option Nat} {Q : sm_Q} {w2 : Option Value} {a1 : Int32} {s0 : Int32} (hG : sm_G y R) (k : if s0 = 0 then (vp_in (a1 + 1) 6 ∧ (if (I 123 46) ≤ (I 147 (a1 + 1).toNatClampNeg) then (Q (some (.int 0)) (n, y, I, L, R)) else (Q (some (.int 1)) (n, y, I, L, R)))) else (Q (some (.int 0)) (n, y, I, L, R))) : sm_W ex d 0 0 207 46 [some (.ref 123), some (.int a1), w2] [.int s0] (n, y, I, L, R) Q := sm_in (And.intro (fun c1 => have k1f := Eq.mp (if_neg c1) k; sm_in (sm_in (And.intro rfl (And.intro (Or.inl rfl) k1f)))) (fun c1 => have k1t := Eq.mp (if_pos c1) k; sm_in (sm_in (And.intro (hG.1 123 (Nat.le_of_ble_eq_true rfl)) (sm_gfr rfl (hG.2 123 44 rfl) (sm_in (sm_in (sm_in ((have e2 := k1t.1; have k2 := k1t.2; sm_in (Exists.intro 6 (And.intro (hG.1 147 (Nat.le_of_ble_eq_true rfl)) (And.intro e2 (sm_in (sm_in (And.intro (hG.1 123 (Nat.le_of_ble_eq_true rfl)) (sm_in (And.intro (fun c3 => have k3t := Eq.mp (if_pos c3) k2; sm_in (sm_in (And.intro rfl (And.intro (Or.inl rfl) k3t)))) (fun c3 => have k3f := Eq.mp (if_neg c3) k2; sm_in (sm_in (sm_in (And.intro rfl (And.intro (Or.inr rfl) k3f)))))))))))))))))))))))
set_option maxRecDepth 100000 in
theorem w_X11_layRota_0 {ex : sm_O} {d n : Nat} {y : sm_Y} {I : Nat → Nat → Int32} {L : Nat → Nat → Int64} {R : Nat → Nat → Option Nat} {Q : sm_Q} {w2 : Option Value} {w3 : Option Value} {w4 : Option Value} {a1 : Int32} {d1 : Nat} (hG : sm_G y R) (h1 : d1 < d) (k : sm_W ex d1 0 0 205 0 [some (.ref 123), some (.int 0), some (.int 0), none] [] (n, y, sm_st I 123 46 100000000, L, R) (fun r μ1 => sm_W ex d 0 0 208 15 [some (.ref 123), some (.int a1), some (.int 0), w3, w4] (r.toList ++ []) μ1 Q)) : sm_W ex d 0 0 208 0 [some (.ref 123), some (.int a1), w2, w3, w4] [] (n, y, I, L, R) Q := sm_in (sm_in (sm_in (And.intro (hG.1 123 (Nat.le_of_ble_eq_true rfl)) (sm_in (sm_in (And.intro (Nat.le_of_ble_eq_true rfl) (sm_in (sm_in (sm_in (sm_in (Exists.intro 11 (And.intro (hG.1 123 (Nat.le_of_ble_eq_true rfl)) (And.intro rfl (sm_calln h1 (Nat.le_of_ble_eq_true rfl) (Nat.le_of_ble_eq_true rfl) k))))))))))))))
set_option maxRecDepth 100000 in
theorem w_X11_layRota_15 {ex : sm_O} {d n : Nat} {y : sm_Y} {I : Nat → Nat → Int32} {L : Nat → Nat → Int64} {R : Nat → Nat → Option Nat} {Q : sm_Q} {w1 : Option Value} {w3 : Option Value} {w4 : Option Value} {a2 : Int32} {d1 : Nat} (hG : sm_G y R) (h1 : d1 < d) (k : if a2 < 0 then (sm_W ex d1 0 0 206 0 [some (.ref 123), some (.int 0), none] [] (n, y, I, L, R) (fun r μ1 => sm_W ex d 0 0 208 164 [some (.ref 123), w1, some (.int a2), w3, w4] (r.toList ++ []) μ1 Q)) else (sm_W ex d1 0 0 206 0 [some (.ref 123), some (.int a2), none] [] (n, y, I, L, R) (fun r μ1 => sm_W ex d 0 0 208 24 [some (.ref 123), w1, some (.int a2), w3, w4] (r.toList ++ []) μ1 Q))) : sm_W ex d 0 0 208 15 [some (.ref 123), w1, some (.int a2), w3, w4] [] (n, y, I, L, R) Q := sm_in (sm_in (And.intro (fun c1 => have k1t := Eq.mp (if_pos c1) k; sm_in (sm_in (sm_in (Exists.intro 11 (And.intro (hG.1 123 (Nat.le_of_ble_eq_true rfl)) (And.intro rfl (sm_calln h1 (Nat.le_of_ble_eq_true rfl) (Nat.le_of_ble_eq_true rfl) k1t))))))) (fun c1 => have k1f := Eq.mp (if_neg c1) k; sm_in (sm_in (sm_in (Exists.intro 11 (And.intro (hG.1 123 (Nat.le_of_ble_eq_true rfl)) (And.intro rfl (sm_calln h1 (Nat.le_of_ble_eq_true rfl) (Nat.le_of_ble_eq_true rfl) k1f)))))))))
set_option maxRecDepth 100000 in
theorem w_X11_layRota_24 {ex : sm_O} {d n : Nat} {y : sm_Y} {I : Nat → Nat → Int32} {L : Nat → Nat → Int64} {R : Nat → Nat → Option Nat} {Q : sm_Q} {w1 : Option Value} {w3 : Option Value} {w4 : Option Value} {a2 : Int32} (hG : sm_G y R) (k : vp_in a2 6 ∧ sm_W ex d 0 0 208 33 [some (.ref 123), w1, some (.int a2), some (.int ((I 146 a2.toNatClampNeg) + 1)), w4] [] (n, y, I, L, R) Q) : sm_W ex d 0 0 208 24 [some (.ref 123), w1, some (.int a2), w3, w4] [] (n, y, I, L, R) Q := sm_in (sm_in (And.intro (hG.1 123 (Nat.le_of_ble_eq_true rfl)) (sm_gfr rfl (hG.2 123 43 rfl) (sm_in ((have e1 := k.1; have k1 := k.2; sm_in (Exists.intro 6 (And.intro (hG.1 146 (Nat.le_of_ble_eq_true rfl)) (And.intro e1 (sm_in (sm_in (sm_in (And.intro (Nat.le_of_ble_eq_true rfl) (k1))))))))))))))
set_option maxRecDepth 100000 in
theorem w_X11_layRota_33 {ex : sm_O} {d n : Nat} {y : sm_Y} {I : Nat → Nat → Int32} {L : Nat → Nat → Int64} {R : Nat → Nat → Option Nat} {Q : sm_Q} {w4 : Option Value} {a1 : Int32} {a2 : Int32} {a3 : Int32} {d1 : Nat} (hG : sm_G y R) (h1 : d1 < d) (k : if (I 125 0) ≤ a3 then (if a3 < (I 125 0) then (sm_W ex d1 0 0 207 0 [some (.ref 123), some (.int a2), some (.int a3)] [] (n, y, I, L, R) (fun r μ1 => sm_W ex d 0 0 208 90 [some (.ref 123), some (.int a1), some (.int a2), some (.int a3), w4] (r.toList ++ []) μ1 Q)) else (sm_W ex d 0 0 208 156 [some (.ref 123), some (.int a1), some (.int (a2 + (-1))), some (.int a3), w4] [] (n, y, I, L, R) Q)) else (if (I 125 8) = a3 then (if a3 < (I 125 0) then (sm_W ex d1 0 0 207 0 [some (.ref 123), some (.int a2), some (.int a3)] [] (n, y, I, L, R) (fun r μ1 => sm_W ex d 0 0 208 90 [some (.ref 123), some (.int a1), some (.int a2), some (.int a3), w4] (r.toList ++ []) μ1 Q)) else (sm_W ex d 0 0 208 156 [some (.ref 123), some (.int a1), some (.int (a2 + (-1))), some (.int a3), w4] [] (n, y, I, L, R) Q)) else (sm_W ex d1 0 0 189 0 [some (.ref 123), some (.int a3)] [] (n, y, I, L, R) (fun r μ1 => sm_W ex d 0 0 208 59 [some (.ref 123), some (.int a1), some (.int a2), some (.int a3), w4] (r.toList ++ []) μ1 Q)))) : sm_W ex d 0 0 208 33 [some (.ref 123), some (.int a1), some (.int a2), some (.int a3), w4] [] (n, y, I, L, R) Q := sm_in (sm_in (sm_in (And.intro (hG.1 123 (Nat.le_of_ble_eq_true rfl)) (sm_gfr rfl (hG.2 123 3 rfl) (sm_in (sm_in (Exists.intro 5450 (And.intro (hG.1 125 (Nat.le_of_ble_eq_true rfl)) (And.intro (sm_lin (by decide)) (sm_in (And.intro (fun c1 => have k1t := Eq.mp (if_pos c1) k; sm_in (sm_in (sm_in (And.intro (hG.1 123 (Nat.le_of_ble_eq_true rfl)) (sm_gfr rfl (hG.2 123 3 rfl) (sm_in (sm_in (Exists.intro 5450 (And.intro (hG.1 125 (Nat.le_of_ble_eq_true rfl)) (And.intro (sm_lin (by decide)) (sm_in (And.intro (fun c2 => have k2t := Eq.mp (if_pos c2) k1t; sm_in (sm_in (sm_in (sm_in (Exists.intro 11 (And.intro (hG.1 123 (Nat.le_of_ble_eq_true rfl)) (And.intro rfl (sm_calln h1 (Nat.le_of_ble_eq_true rfl) (Nat.le_of_ble_eq_true rfl) k2t)))))))) (fun c2 => have k2f := Eq.mp (if_neg c2) k1t; sm_in (And.intro (Nat.le_of_ble_eq_true rfl) (sm_in (k2f)))))))))))))))) (fun c1 => have k1f := Eq.mp (if_neg c1) k; sm_in (sm_in (And.intro (hG.1 123 (Nat.le_of_ble_eq_true rfl)) (sm_gfr rfl (hG.2 123 3 rfl) (sm_in (sm_in (Exists.intro 5450 (And.intro (hG.1 125 (Nat.le_of_ble_eq_true rfl)) (And.intro (sm_lin (by decide)) (sm_in (sm_in (And.intro (fun c3 => have k3t := Eq.mp (if_pos c3) k1f; sm_in (sm_in (sm_in (And.intro (hG.1 123 (Nat.le_of_ble_eq_true rfl)) (sm_gfr rfl (hG.2 123 3 rfl) (sm_in (sm_in (Exists.intro 5450 (And.intro (hG.1 125 (Nat.le_of_ble_eq_true rfl)) (And.intro (sm_lin (by decide)) (sm_in (And.intro (fun c4 => have k4t := Eq.mp (if_pos c4) k3t; sm_in (sm_in (sm_in (sm_in (Exists.intro 11 (And.intro (hG.1 123 (Nat.le_of_ble_eq_true rfl)) (And.intro rfl (sm_calln h1 (Nat.le_of_ble_eq_true rfl) (Nat.le_of_ble_eq_true rfl) k4t)))))))) (fun c4 => have k4f := Eq.mp (if_neg c4) k3t; sm_in (And.intro (Nat.le_of_ble_eq_true rfl) (sm_in (k4f)))))))))))))))) (fun c3 => have k3f := Eq.mp (if_neg c3) k1f; sm_in (sm_in (sm_in (Exists.intro 11 (And.intro (hG.1 123 (Nat.le_of_ble_eq_true rfl)) (And.intro rfl (sm_calln h1 (Nat.le_of_ble_eq_true rfl) (Nat.le_of_ble_eq_true rfl) k3f))))))))))))))))))))))))))))))
set_option maxRecDepth 100000 in
theorem w_X11_layRota_59 {ex : sm_O} {d n : Nat} {y : sm_Y} {I : Nat → Nat → Int32} {L : Nat → Nat → Int64} {R : Nat → Nat → Option Nat} {Q : sm_Q} {w4 : Option Value} {a1 : Int32} {a2 : Int32} {a3 : Int32} {s0 : Int32} {d1 : Nat} (hG : sm_G y R) (h1 : d1 < d) (k : if s0 = 0 then (sm_W ex d 0 0 208 33 [some (.ref 123), some (.int a1), some (.int a2), some (.int (a3 + 1)), w4] [] (n, y, I, L, R) Q) else (if a3 < (I 125 0) then (sm_W ex d1 0 0 207 0 [some (.ref 123), some (.int a2), some (.int a3)] [] (n, y, I, L, R) (fun r μ1 => sm_W ex d 0 0 208 90 [some (.ref 123), some (.int a1), some (.int a2), some (.int a3), w4] (r.toList ++ []) μ1 Q)) else (sm_W ex d 0 0 208 156 [some (.ref 123), some (.int a1), some (.int (a2 + (-1))), some (.int a3), w4] [] (n, y, I, L, R) Q))) : sm_W ex d 0 0 208 59 [some (.ref 123), some (.int a1), some (.int a2), some (.int a3), w4] [.int s0] (n, y, I, L, R) Q := sm_in (And.intro (fun c1 => have k1f := Eq.mp (if_neg c1) k; sm_in (sm_in (sm_in (And.intro (hG.1 123 (Nat.le_of_ble_eq_true rfl)) (sm_gfr rfl (hG.2 123 3 rfl) (sm_in (sm_in (Exists.intro 5450 (And.intro (hG.1 125 (Nat.le_of_ble_eq_true rfl)) (And.intro (sm_lin (by decide)) (sm_in (And.intro (fun c2 => have k2t := Eq.mp (if_pos c2) k1f; sm_in (sm_in (sm_in (sm_in (Exists.intro 11 (And.intro (hG.1 123 (Nat.le_of_ble_eq_true rfl)) (And.intro rfl (sm_calln h1 (Nat.le_of_ble_eq_true rfl) (Nat.le_of_ble_eq_true rfl) k2t)))))))) (fun c2 => have k2f := Eq.mp (if_neg c2) k1f; sm_in (And.intro (Nat.le_of_ble_eq_true rfl) (sm_in (k2f)))))))))))))))) (fun c1 => have k1t := Eq.mp (if_pos c1) k; sm_in (And.intro (Nat.le_of_ble_eq_true rfl) (sm_in (k1t)))))
set_option maxRecDepth 100000 in
theorem w_X11_layRota_90 {ex : sm_O} {d n : Nat} {y : sm_Y} {I : Nat → Nat → Int32} {L : Nat → Nat → Int64} {R : Nat → Nat → Option Nat} {Q : sm_Q} {w4 : Option Value} {a1 : Int32} {a2 : Int32} {a3 : Int32} {s0 : Int32} {d1 : Nat} (hG : sm_G y R) (h1 : d1 < d) (k : if s0 = 0 then (sm_W ex d 0 0 208 156 [some (.ref 123), some (.int a1), some (.int a2), some (.int a3), w4] [] (n, y, I, L, R) Q) else (if a2 = (a1 - 1) then (vp_in a1 6 ∧ sm_W ex d 0 0 208 113 [some (.ref 123), some (.int a1), some (.int a2), some (.int a3), some (.int 0)] [] (n, y, sm_st I 123 46 (I 147 a1.toNatClampNeg), L, R) Q) else (vp_in (a2 + 1) 6 ∧ sm_W ex d1 0 0 205 0 [some (.ref 123), some (.int (a2 + 1)), some (.int (I 147 (a2 + 1).toNatClampNeg)), none] [] (n, y, I, L, R) (fun r μ1 => sm_W ex d 0 0 208 156 [some (.ref 123), some (.int a1), some (.int (a2 + 1)), some (.int a3), w4] (r.toList ++ []) μ1 Q)))) : sm_W ex d 0 0 208 90 [some (.ref 123), some (.int a1), some (.int a2), some (.int a3), w4] [.int s0] (n, y, I, L, R) Q := sm_in (And.intro (fun c1 => have k1t := Eq.mp (if_pos c1) k; k1t) (fun c1 => have k1f := Eq.mp (if_neg c1) k; sm_in (sm_in (sm_in (sm_in (sm_in (And.intro (fun c2 => have k2f := Eq.mp (if_neg c2) k1f; sm_in (And.intro (Nat.le_of_ble_eq_true rfl) (sm_in (sm_in (sm_in (sm_in (And.intro (hG.1 123 (Nat.le_of_ble_eq_true rfl)) (sm_gfr rfl (hG.2 123 44 rfl) (sm_in ((have e4 := k2f.1; have k4 := k2f.2; sm_in (Exists.intro 6 (And.intro (hG.1 147 (Nat.le_of_ble_eq_true rfl)) (And.intro e4 (sm_in (Exists.intro 11 (And.intro (hG.1 123 (Nat.le_of_ble_eq_true rfl)) (And.intro rfl (sm_calln h1 (Nat.le_of_ble_eq_true rfl) (Nat.le_of_ble_eq_true rfl) k4))))))))))))))))))) (fun c2 => have k2t := Eq.mp (if_pos c2) k1f; sm_in (sm_in (sm_in (And.intro (hG.1 123 (Nat.le_of_ble_eq_true rfl)) (sm_gfr rfl (hG.2 123 44 rfl) (sm_in ((have e3 := k2t.1; have k3 := k2t.2; sm_in (Exists.intro 6 (And.intro (hG.1 147 (Nat.le_of_ble_eq_true rfl)) (And.intro e3 (sm_in (And.intro (hG.1 123 (Nat.le_of_ble_eq_true rfl)) (sm_in (sm_in (And.intro (Nat.le_of_ble_eq_true rfl) (k3))))))))))))))))))))))))
set_option maxRecDepth 100000 in
theorem w_X11_layRota_113 {ex : sm_O} {d n : Nat} {y : sm_Y} {I : Nat → Nat → Int32} {L : Nat → Nat → Int64} {R : Nat → Nat → Option Nat} {Q : sm_Q} {w2 : Option Value} {a1 : Int32} {a3 : Int32} {a4 : Int32} (hG : sm_G y R) (k : if a1 ≤ a4 then (sm_W ex d 0 0 208 156 [some (.ref 123), some (.int a1), w2, some (.int a3), some (.int a4)] [] (n, y, I, L, R) Q) else (vp_in a4 6 ∧ sm_W ex d 0 0 208 113 [some (.ref 123), some (.int a1), w2, some (.int a3), some (.int (a4 + 1))] [] (n, y, sm_st I 148 a4.toNatClampNeg (I 146 a4.toNatClampNeg), L, R) Q)) : sm_W ex d 0 0 208 113 [some (.ref 123), some (.int a1), w2, some (.int a3), some (.int a4)] [] (n, y, I, L, R) Q := sm_in (sm_in (sm_in (And.intro (fun c1 => have k1t := Eq.mp (if_pos c1) k; sm_in (k1t)) (fun c1 => have k1f := Eq.mp (if_neg c1) k; sm_in (sm_in (And.intro (hG.1 123 (Nat.le_of_ble_eq_true rfl)) (sm_gfr rfl (hG.2 123 45 rfl) (sm_in (sm_in (sm_in (And.intro (hG.1 123 (Nat.le_of_ble_eq_true rfl)) (sm_gfr rfl (hG.2 123 43 rfl) (sm_in ((have e2 := k1f.1; have k2 := k1f.2; sm_in (Exists.intro 6 (And.intro (hG.1 146 (Nat.le_of_ble_eq_true rfl)) (And.intro e2 (sm_in (Exists.intro 6 (And.intro (hG.1 148 (Nat.le_of_ble_eq_true rfl)) (And.intro e2 (sm_in (And.intro (Nat.le_of_ble_eq_true rfl) (sm_in (k2))))))))))))))))))))))))))
set_option maxRecDepth 100000 in
theorem w_X11_layRota_156 {ex : sm_O} {d n : Nat} {y : sm_Y} {I : Nat → Nat → Int32} {L : Nat → Nat → Int64} {R : Nat → Nat → Option Nat} {Q : sm_Q} {w0 : Option Value} {w1 : Option Value} {w2 : Option Value} {w3 : Option Value} {w4 : Option Value} (k : sm_W ex d 0 0 208 15 [w0, w1, w2, w3, w4] [] (n, y, I, L, R) Q) : sm_W ex d 0 0 208 156 [w0, w1, w2, w3, w4] [] (n, y, I, L, R) Q := sm_in (k)
set_option maxRecDepth 100000 in
theorem w_X11_layRota_164 {ex : sm_O} {d n : Nat} {y : sm_Y} {I : Nat → Nat → Int32} {L : Nat → Nat → Int64} {R : Nat → Nat → Option Nat} {Q : sm_Q} {w0 : Option Value} {w1 : Option Value} {w2 : Option Value} {w3 : Option Value} {w4 : Option Value} (k : Q none (n, y, I, L, R)) : sm_W ex d 0 0 208 164 [w0, w1, w2, w3, w4] [] (n, y, I, L, R) Q := sm_in (And.intro rfl (And.intro rfl k))
set_option maxRecDepth 100000 in
theorem w_X11_rota_0 {ex : sm_O} {d n : Nat} {y : sm_Y} {I : Nat → Nat → Int32} {L : Nat → Nat → Int64} {R : Nat → Nat → Option Nat} {Q : sm_Q} {a1 : Int32} {a2 : Int32} {d1 : Nat} (hG : sm_G y R) (hdep : 1 ≤ d) (h1 : d1 < d) (k : if (1 : Int64) ≤ a1.toInt64 ∧ a1.toInt64 ≤ (5 : Int64) then (if (-1 : Int64) ≤ a2.toInt64 ∧ a2.toInt64 ≤ (a1.toInt64 - 1) then (sm_W ex d1 0 0 208 0 [some (.ref 123), some (.int a1), none, none, none] [] (n, y, sm_st I 123 0 0, L, R) (fun r μ1 => sm_W ex d 0 0 209 39 [some (.ref 123), some (.int a1), some (.int a2)] (r.toList ++ []) μ1 Q)) else (Q (some (.int (-1))) (n, y, sm_st I 123 0 0, L, R))) else (Q (some (.int (-1))) (n, y, sm_st I 123 0 0, L, R))) : sm_W ex d 0 0 209 0 [some (.ref 123), some (.int a1), some (.int a2)] [] (n, y, I, L, R) Q := sm_in (sm_in (sm_in (And.intro (hG.1 123 (Nat.le_of_ble_eq_true rfl)) (sm_in (sm_in (sm_in (sm_in (sm_in (And.intro (Nat.le_of_ble_eq_true rfl) (sm_calln (d1 := 0) (Nat.lt_of_lt_of_le (Nat.lt_succ_self 0) (Nat.le_trans (Nat.le_of_ble_eq_true rfl) hdep)) (Nat.le_of_ble_eq_true rfl) (Nat.le_of_ble_eq_true rfl) (c_X11_in  (sm_in (And.intro (fun c1 => have k1f := Eq.mp (if_neg (sm_b_0.mp c1)) k; sm_in (sm_in (And.intro rfl k1f))) (fun c1 => have k1t := Eq.mp (if_pos (sm_b_n.mp c1)) k; sm_in (sm_in (sm_in (sm_in (sm_in (sm_in (sm_in (sm_in (And.intro (Nat.le_of_ble_eq_true rfl) (sm_calln (d1 := 0) (Nat.lt_of_lt_of_le (Nat.lt_succ_self 0) (Nat.le_trans (Nat.le_of_ble_eq_true rfl) hdep)) (Nat.le_of_ble_eq_true rfl) (Nat.le_of_ble_eq_true rfl) (c_X11_in  (sm_in (And.intro (fun c2 => have k2t := Eq.mp (if_pos (sm_b_n.mp c2)) k1t; sm_in (sm_in (sm_in (Exists.intro 11 (And.intro (hG.1 123 (Nat.le_of_ble_eq_true rfl)) (And.intro rfl (sm_calln h1 (Nat.le_of_ble_eq_true rfl) (Nat.le_of_ble_eq_true rfl) k2t))))))) (fun c2 => have k2f := Eq.mp (if_neg (sm_b_0.mp c2)) k1t; sm_in (sm_in (And.intro rfl k2f)))))))))))))))))))))))))))))
set_option maxRecDepth 100000 in
theorem w_X11_rota_39 {ex : sm_O} {d n : Nat} {y : sm_Y} {I : Nat → Nat → Int32} {L : Nat → Nat → Int64} {R : Nat → Nat → Option Nat} {Q : sm_Q} {w1 : Option Value} {a2 : Int32} (hG : sm_G y R) (k : if (I 123 46) = 100000000 then (Q (some (.int (-1))) (n, y, I, L, R)) else (if a2 = (-1) then (Q (some (.int (I 123 46))) (n, y, I, L, R)) else (vp_in a2 6 ∧ Q (some (.int (I 148 a2.toNatClampNeg))) (n, y, I, L, R)))) : sm_W ex d 0 0 209 39 [some (.ref 123), w1, some (.int a2)] [] (n, y, I, L, R) Q := sm_in (sm_in (And.intro (hG.1 123 (Nat.le_of_ble_eq_true rfl)) (sm_in (sm_in (And.intro (fun c1 => have k1f := Eq.mp (if_neg c1) k; sm_in (sm_in (sm_in (And.intro (fun c2 => have k2f := Eq.mp (if_neg c2) k1f; sm_in (sm_in (And.intro (hG.1 123 (Nat.le_of_ble_eq_true rfl)) (sm_gfr rfl (hG.2 123 45 rfl) (sm_in ((have e3 := k2f.1; have k3 := k2f.2; sm_in (Exists.intro 6 (And.intro (hG.1 148 (Nat.le_of_ble_eq_true rfl)) (And.intro e3 (sm_in (And.intro rfl k3)))))))))))) (fun c2 => have k2t := Eq.mp (if_pos c2) k1f; sm_in (sm_in (And.intro (hG.1 123 (Nat.le_of_ble_eq_true rfl)) (sm_in (sm_in (And.intro rfl k2t)))))))))) (fun c1 => have k1t := Eq.mp (if_pos c1) k; sm_in (sm_in (sm_in (And.intro rfl k1t)))))))))
-- ROTA
def roOk (b : Bst) (I : Nat → Nat → Int32) : Prop := match b with
  | none => I 73 5 = 0
  | some x => I 73 5 = 1 ∧ I 73 4 = nI x.1 ∧ rowI 76 I x.2
def plFr (I I' : Nat → Nat → Int32) : Prop := ∀ a j, ¬ (51 ≤ a ∧ a ≤ 53) → ¬ (a = 73 ∧ 4 ≤ j ∧ j ≤ 6) → a ≠ 75 → a ≠ 76 → ¬ (77 ≤ a ∧ a ≤ 101) → I' a j = I a j
set_option maxHeartbeats 1000000 in
theorem c_X8_plan {ex : sm_O} {n : Nat} {y : sm_Y} {I : Nat → Nat → Int32} {L : Nat → Nat → Int64} {R : Nat → Nat → Option Nat} {Q : sm_Q} {d N : Nat} {w3 : Option Value} {s : St} {F : Option (Nat × Law)} (hd : 12 ≤ d) (hG : sm_G y R) (hN : 1 ≤ N ∧ N ≤ 5) (hs : cS s 1 I) (hok : sp_ok s) (ht : sTerm s 0 ≤ 999) (hF : cForce I F) (hca : cCa F s I)
    (k : ∀ (I' : Nat → Nat → Int32), plFr I I' → cCa F s I' → roOk (sp_rota F s N) I' → Q none (n, y, I', L, R)) : sm_W ex d 0 0 56 0 [some (.ref 73), some (.ref 1), some (.int (nI N)), w3] [] (n, y, I, L, R) Q := by
  have h7 := hok.1
  refine w_X8_plan_0 hG ?_
  obtain ⟨⟨h, e6, hh, hro⟩, c2⟩ := id hca
  by_cases q0 : h = N
  · subst q0
    rw [e6, if_pos rfl]
    exact k I (fun _ _ _ _ _ _ _ => rfl) hca (hro (by omega))
  · rw [e6, if_neg (by rw [nI_eq (by omega) (by omega)]; exact q0), if_neg (by rw [sm_of 1, nI_ltI (by omega) (by decide)]; omega), if_pos (by rw [sm_of 5, nI_leI (by omega) (by decide)]; omega)]
    have key : ∀ (q j : Nat) (I1 : Nat → Nat → Int32), j + q = N → (∀ a i, ¬ (77 ≤ a ∧ a ≤ 101) → I1 a i = I a i) → (∀ l, l < j → cS s (77 + 5 * l) I1) → sm_W ex d 0 0 56 21 [some (.ref 73), some (.ref 1), some (.int (nI N)), some (.int (nI j))] [] (n, y, I1, L, R) Q := by
      intro q
      induction q with
      | zero =>
        intro j I1 hj f1 s1
        obtain rfl : j = N := by omega
        refine w_X8_plan_21 (d1 := d - 1) hG (by omega) ?_
        rw [if_pos (Int32.le_refl _)]
        refine c_X8_search (N := j) (F := F) hG hN.2 j 0 s 0 (d - 1) [] none _ _ _ _ _ (by omega) rfl (by omega) ?_ (fun _ => ?_) (fun l' h1 h2 => ?_) hok (by omega) (fun i x hx => by cases hx) ⟨?_, sm_st_s _ _ _ _⟩ (fun x hx => by cases hx) (Nat.le_refl 0) ?_ ?_
        · rw [sm_st_j _ _ (by decide), sm_st_j _ _ (by decide), sm_st_s]
        · exact cS_kept2 (fun a i q => by rw [sm_st_o _ _ (by omega), sm_st_o _ _ (by omega), sm_st_o _ _ (by omega)]) (s1 0 (by omega))
        · exact ⟨s, cS_kept2 (fun a i q => by rw [sm_st_o _ _ (by omega), sm_st_o _ _ (by omega), sm_st_o _ _ (by omega)]) (s1 l' h2), sp_same_rfl s⟩
        · rw [sm_st_j _ _ (by decide), sm_st_s]
        · exact cForce_kept (fun a i _ _ => by rw [sm_st_o _ _ (by omega), sm_st_o _ _ (by omega), sm_st_o _ _ (by omega)]; exact f1 a i (by omega)) hF
        · intro I2 f2 b2 _
          refine w_X8_plan_64 ?_
          have fr : plFr I I2 := fun a i q1 q2 q3 q4 q5 => by
            rw [f2 a i q1 (by omega) (by omega) q4 (by omega), sm_st_or _ _ (by omega), sm_st_or _ _ (by omega), sm_st_or _ _ (by omega)]
            exact f1 a i q5
          have e6' : I2 73 6 = nI j := by rw [f2 73 6 (by omega) (by omega) (by omega) (by omega) (by omega), sm_st_j _ _ (by decide), sm_st_j _ _ (by decide), sm_st_s]
          have hro2 : roOk (sp_rota F s j) I2 := by
            have b2 : rBest (sp_rota F s j) I2 := b2
            cases hx : sp_rota F s j with
            | none => rw [hx] at b2; exact b2.1
            | some x => rw [hx] at b2; exact b2
          have ca := cCa_kept (I' := I2) (F := F) (s := s) (I := fun a i => if a = 73 ∨ a = 76 then I2 a i else I a i) (fun a i q => by
            show I2 a i = if a = 73 ∨ a = 76 then I2 a i else I a i
            by_cases e : a = 73 ∨ a = 76
            · rw [if_pos e]
            · rw [if_neg e]; exact fr a i (by omega) (by omega) (by omega) (by omega) (by omega)) ⟨⟨j, e6', by omega, fun _ => hro2⟩, c2⟩
          exact k I2 fr ca hro2
      | succ q ih =>
        intro j I1 hj f1 s1
        refine w_X8_plan_21 (d1 := d - 1) hG (by omega) ?_
        rw [if_neg (by rw [nI_leI (by omega) (by omega)]; omega)]
        have hjc : (nI j).toNatClampNeg = j := nI_clamp (by omega)
        have ho := mk77 hG j (by omega)
        refine w_X8_plan_26 (d1 := d - 1) hG (by rw [hjc]; exact ho.1) (by omega) ?_
        rw [hjc]
        refine ⟨vp_in_nI (by omega) (by decide), ?_⟩
        refine c_X9_copyFrom (by omega) ho.1 (mk1 hG).1 (by unfold cApt; omega) h7 (cS_kept2 (fun a i q => f1 a i (by omega)) hs) ?_
        intro I2 f2 s2 _
        refine w_X8_plan_36 ?_
        rw [sm_n1]
        refine ih (j + 1) I2 (by omega) (fun a i q => (f2 a i (by omega)).trans (f1 a i q)) (fun l hl => ?_)
        by_cases e : l = j
        · subst e
          exact s2
        · exact cS_kept2 (fun a i q => f2 a i (by omega)) (s1 l (by omega))
    exact key N 0 I (by omega) (fun _ _ _ => rfl) (fun l hl => absurd hl (by omega))
def f_rota (g : GG) (a b : Int32) : Int32 := if (1 ≤ a ∧ a ≤ 5) ∧ -1 ≤ b ∧ b < a then (match sp_rota (bF (gB g)) (gS g) a.toNatClampNeg with
    | none => -1
    | some x => if b = -1 then nI x.1 else nI (x.2.getD b.toNatClampNeg 0)) else -1
theorem sp_rota_inv {F : Option (Nat × Law)} {s : St} {N : Nat} {x : Nat × List Nat} (h : sp_rota F s N = some x) : x.2.length = N ∧ x.1 ≤ 99 * N := sp_search_inv F N N s 0 [] none (by simp) (by simp) (fun x hx => by cases hx) x h
theorem CI_pl {g : GG} {n : Nat} {y : sm_Y} {I I' : Nat → Nat → Int32} {R : Nat → Nat → Option Nat} (hw : Wf g) (hc : CI g n y I R) (h : plFr I I') (hca : cCa (bF (gB g)) (gS g) I') : CI g n y I' R :=
  ⟨hc.1, hc.2.1, cS_kept2 (fun a j q => h a j (by omega) (by omega) (by omega) (by omega) (by omega)) hc.2.2.1, cP_kept (fun a j q => h a j (by omega) (by omega) (by omega) (by omega) (by omega)) hc.2.2.2.1, cB_kept hw.1.2.2.1 (fun a j q => h a j (by omega) (by omega) (by omega) (by omega) (by omega)) hc.2.2.2.2.1, cU_kept (fun a j q => h a j (by omega) (by omega) (by omega) (by omega) (by omega)) hc.2.2.2.2.2.1, cT_kept (fun a j q => h a j (by omega) (by omega) (by omega) (by omega) (by omega)) hc.2.2.2.2.2.2.1, cN_kept (fun a j q => h a j (by omega) (by omega) (by omega) (by omega) (by omega)) hc.2.2.2.2.2.2.2.1, cDr_kept (fun a j q => h a j (by omega) (by omega) (by omega) (by omega) (by omega)) hc.2.2.2.2.2.2.2.2.1, cIm_kept hw.2.2.2.1 (fun a j q => h a j (by omega) (by omega) (by omega) (by omega) (by omega)) hc.2.2.2.2.2.2.2.2.2.1, hca⟩
theorem m1_cases {b : Int32} (h : -1 ≤ b) : b = -1 ∨ 0 ≤ b := by
  rw [Int32.le_iff_toInt_le] at h ⊢
  have z1 : (-1 : Int32).toInt = -1 := rfl
  have z0 : (0 : Int32).toInt = 0 := rfl
  by_cases e : b = -1
  · exact Or.inl e
  · refine Or.inr ?_
    have : b.toInt ≠ -1 := fun z => e (Int32.toInt_inj.mp (z.trans z1.symm))
    omega
theorem rowI_get {o i : Nat} {I : Nat → Nat → Int32} {row : List Nat} (h : rowI o I row) (hi : i < row.length) : I o i = nI (row.getD i 0) := by
  have e : row[i]? = some row[i] := List.getElem?_eq_getElem hi
  rw [h i row[i] e, List.getD_eq_getElem?_getD, e]
  rfl
theorem C_rota {ex : sm_O} {d : Nat} {g : GG} {a b : Int32} (hd : 13 ≤ d) (hw : Wf g) : CM ex d 96 [some (.ref 0), some (.int a), some (.int b)] g (f_rota g a b) g := by
  intro n y I L R Q hc k
  have hs := hc.2.2.1
  have hG := hc.2.1
  unfold f_rota at k
  have k0 := k I L hc (cKeep.rfl' I L)
  refine w_X10_rota_0 (d1 := 12) hG (by omega) ?_
  by_cases q1 : a < 1
  · rw [if_pos q1]
    rw [if_neg (fun z => absurd q1 (Int32.not_lt.mpr z.1.1))] at k0
    exact k0
  rw [if_neg q1]
  by_cases q2 : 5 < a
  · rw [if_pos q2]
    rw [if_neg (fun z => absurd q2 (Int32.not_lt.mpr z.1.2))] at k0
    exact k0
  rw [if_neg q2]
  by_cases q3 : b < -1
  · rw [if_pos q3]
    rw [if_neg (fun z => absurd q3 (Int32.not_lt.mpr z.2.1))] at k0
    exact k0
  rw [if_neg q3]
  by_cases q4 : b < a
  · rw [if_pos q4]
    have ha : 1 ≤ a ∧ a ≤ 5 := ⟨Int32.not_lt.mp q1, Int32.not_lt.mp q2⟩
    rw [if_pos ⟨ha, Int32.not_lt.mp q3, q4⟩] at k
    obtain ⟨N, rfl, hN1, hN2⟩ := sm_nat (lo := 1) (hi := 5) (by decide) ha (by decide)
    rw [nI_clamp (by omega)] at k
    refine c_X8_plan (Nat.le_refl 12) hG ⟨hN1, hN2⟩ hs hw.1.1.1 hw.1.1.2.1 (hc.F hw) hc.2.2.2.2.2.2.2.2.2.2 ?_
    intro I1 f1 ca1 ro1
    have k1 := k I1 L (CI_pl hw hc f1 ca1) (cKeep_c (fun a j q => f1 a j (by omega) (by omega) (by omega) (by omega) (by omega)))
    refine w_X10_rota_34 hG ?_
    cases hx : sp_rota (bF (gB g)) (gS g) N with
    | none =>
      rw [hx] at ro1 k1
      rw [show I1 73 5 = 0 from ro1, if_pos rfl]
      exact k1
    | some x =>
      have hxi := sp_rota_inv hx
      rw [hx] at ro1 k1
      rw [ro1.1, if_neg (by decide)]
      dsimp only at k1
      rcases m1_cases (Int32.not_lt.mp q3) with e | e
      · rw [if_pos e] at k1 ⊢
        rw [ro1.2.1]
        exact k1
      · have hne : ¬ b = -1 := fun z => by rw [z] at e; exact absurd e (by decide)
        rw [if_neg hne] at k1 ⊢
        obtain ⟨i, hi, rfl⟩ := nI_of (Int32.not_lt.mpr e)
        have hiN := (nI_ltI hi (by omega)).mp q4
        rw [nI_clamp hi] at k1 ⊢
        rw [rowI_get ro1.2.2 (by omega)]
        exact ⟨vp_in_nI (by omega) (by decide), k1⟩
  · rw [if_neg q4]
    rw [if_neg (fun z => q4 z.2.2)] at k0
    exact k0
-- the model
theorem c_X11_keepDeep {ex : sm_O} {n : Nat} {y : sm_Y} {I : Nat → Nat → Int32} {L : Nat → Nat → Int64} {R : Nat → Nat → Option Nat} {Q : sm_Q} {d c : Nat} {e : Int32} {w3 : Option Value} (hG : sm_G y R) (hc : c < 6) (k : Q none (n, y, sm_st (sm_st (sm_cp I 125 4 145 (20 * c) 20) 146 c (-1)) 147 c e, L, R)) : sm_W ex d 0 0 205 0 [some (.ref 123), some (.int (nI c)), some (.int e), w3] [] (n, y, I, L, R) Q := by
  have key : ∀ (q j : Nat), j + q = 20 → sm_W ex d 0 0 205 2 [some (.ref 123), some (.int (nI c)), some (.int e), some (.int (nI j))] [] (n, y, sm_cp I 125 4 145 (20 * c) j, L, R) Q := by
    intro q
    induction q with
    | zero =>
      intro j hj
      obtain rfl : j = 20 := by omega
      refine w_X11_keepDeep_2 hG ?_
      rw [if_pos (by decide), nI_clamp (by omega)]
      exact ⟨vp_in_nI hc (by decide), k⟩
    | succ q ih =>
      intro j hj
      refine w_X11_keepDeep_2 hG ?_
      rw [if_neg (by rw [sm_of 20, nI_leI (by decide) (by omega)]; omega), sm_i20]
      refine ⟨sm_ci4 (by omega) (by decide), vp_in_nI (by omega) (by decide), ?_⟩
      rw [sm_cx4 (by omega), nI_clamp (by omega), sm_cp_s I (by decide), sm_n1]
      exact ih (j + 1) (by omega)
  refine w_X11_keepDeep_0 ?_
  have := key 20 0 rfl
  rw [sm_cp_0] at this
  exact this
theorem c_X11_putDeep {ex : sm_O} {n : Nat} {y : sm_Y} {I : Nat → Nat → Int32} {L : Nat → Nat → Int64} {R : Nat → Nat → Option Nat} {Q : sm_Q} {d c : Nat} {w2 : Option Value} (hG : sm_G y R) (hc : c < 6) (k : Q none (n, y, sm_cp I 145 (20 * c) 125 4 20, L, R)) : sm_W ex d 0 0 206 0 [some (.ref 123), some (.int (nI c)), w2] [] (n, y, I, L, R) Q := by
  have key : ∀ (q j : Nat), j + q = 20 → sm_W ex d 0 0 206 2 [some (.ref 123), some (.int (nI c)), some (.int (nI j))] [] (n, y, sm_cp I 145 (20 * c) 125 4 j, L, R) Q := by
    intro q
    induction q with
    | zero =>
      intro j hj
      obtain rfl : j = 20 := by omega
      refine w_X11_putDeep_2 hG ?_
      rw [if_pos (by decide)]
      exact k
    | succ q ih =>
      intro j hj
      refine w_X11_putDeep_2 hG ?_
      rw [if_neg (by rw [sm_of 20, nI_leI (by decide) (by omega)]; omega), sm_i20]
      refine ⟨vp_in_nI (by omega) (by decide), sm_ci4 (by omega) (by decide), ?_⟩
      rw [sm_cx4 (by omega), nI_clamp (by omega), sm_cp_s I (by decide), sm_n1]
      exact ih (j + 1) (by omega)
  refine w_X11_putDeep_0 ?_
  have := key 20 0 rfl
  rw [sm_cp_0] at this
  exact this
def mBst (b : Bst) : Nat := match b with
  | none => 100000000
  | some x => x.1
def mRo (b : Bst) (I : Nat → Nat → Int32) : Prop := I 123 46 = nI (mBst b) ∧ ∀ x, b = some x → rowI 148 I x.2
/-- what the rota of the model touches, from depth c on -/
def roF (c : Nat) (I I' : Nat → Nat → Int32) (L L' : Nat → Nat → Int64) : Prop := (∀ a j, ¬ (a = 123 ∧ (j = 38 ∨ j = 34 ∨ j = 46)) → a ≠ 144 → ¬ (a = 125 ∧ 4 ≤ j ∧ j < 24) → ¬ (a = 145 ∧ 20 * (c + 1) ≤ j) → ¬ (a = 146 ∧ c ≤ j) → ¬ (a = 147 ∧ c + 1 ≤ j) → a ≠ 148 → I' a j = I a j) ∧ ∀ a j, a ≠ 143 → a ≠ 141 → ¬ (a = 123 ∧ (j = 39 ∨ j = 40)) → L' a j = L a j
theorem roF.rfl' (c : Nat) (I : Nat → Nat → Int32) (L : Nat → Nat → Int64) : roF c I I L L := ⟨fun _ _ _ _ _ _ _ _ _ => rfl, fun _ _ _ _ _ => rfl⟩
theorem roF.trans {c : Nat} {I I' I2 : Nat → Nat → Int32} {L L' L2 : Nat → Nat → Int64} (h1 : roF c I I' L L') (h2 : roF c I' I2 L' L2) : roF c I I2 L L2 := ⟨fun a j q1 q2 q3 q4 q5 q6 q7 => (h2.1 a j q1 q2 q3 q4 q5 q6 q7).trans (h1.1 a j q1 q2 q3 q4 q5 q6 q7), fun a j q1 q2 q3 => (h2.2 a j q1 q2 q3).trans (h1.2 a j q1 q2 q3)⟩
theorem mFm.ro {I I' : Nat → Nat → Int32} {L L' : Nat → Nat → Int64} (c : Nat) (h : mFm I I' L L') : roF c I I' L L' := ⟨fun a j q1 q2 q3 _ _ _ _ => h.1 a j (by omega) q2 q3, h.2⟩
theorem roF.up {c : Nat} {I I' : Nat → Nat → Int32} {L L' : Nat → Nat → Int64} (h : roF (c + 1) I I' L L') : roF c I I' L L' := ⟨fun a j q1 q2 q3 q4 q5 q6 q7 => h.1 a j q1 q2 q3 (by omega) (by omega) (by omega) q7, h.2⟩
theorem roF.F {c : Nat} {I I' : Nat → Nat → Int32} {L L' : Nat → Nat → Int64} {F : Option (Nat × Law)} (h : roF c I I' L L') (hF : mForce I F) : mForce I' F := mForce_r (fun j hj => h.1 125 j (by omega) (by omega) (fun z => hj z.2) (by omega) (by omega) (by omega) (by omega)) hF
theorem mRo_kept {b : Bst} {I I' : Nat → Nat → Int32} (h : ∀ a j, (a = 123 ∧ j = 46) ∨ a = 148 → I' a j = I a j) (hb : mRo b I) : mRo b I' := ⟨(h 123 46 (by omega)).trans hb.1, fun x hx => rowI_kept (fun j => h 148 j (by omega)) (hb.2 x hx)⟩
/-- one man is tried -/
theorem c_X11_tryMan {ex : sm_O} {n : Nat} {y : sm_Y} {I : Nat → Nat → Int32} {L : Nat → Nat → Int64} {R : Nat → Nat → Option Nat} {Q : sm_Q} {d c e m B : Nat} {s : St} {F : Option (Nat × Law)} (hd : 8 ≤ d) (hG : sm_G y R) (hc : c < 5) (he : e ≤ 1000) (hB : B ≤ 100000000) (hs : mS s (I 125)) (hok : sp_ok s) (ht : sTerm s 0 < 100000) (hm : m < sMen s) (h20 : I 123 20 = 0) (hF : mForce I F) (h147 : I 147 c = nI e) (h46 : I 123 46 = nI B)
    (k : ∀ (I' : Nat → Nat → Int32) (L' : Nat → Nat → Int64) (x : Int32), (∀ a j, ¬ (a = 123 ∧ (j = 38 ∨ j = 34)) → a ≠ 144 → ¬ (a = 125 ∧ 4 ≤ j ∧ j < 24) → ¬ (a = 146 ∧ j = c) → ¬ (a = 147 ∧ j = c + 1) → I' a j = I a j) → (∀ a j, a ≠ 143 → a ≠ 141 → ¬ (a = 123 ∧ (j = 39 ∨ j = 40)) → L' a j = L a j) → I' 146 c = nI m → I' 147 (c + 1) = nI (e + sp_mo F s m) → mS (sp_hour F (sp_mv s m)).1 (I' 125) → (((sp_hour F (sp_mv s m)).2 = 0 ∧ e + sp_mo F s m < B) ∧ x = 1 ∨ ¬ ((sp_hour F (sp_mv s m)).2 = 0 ∧ e + sp_mo F s m < B) ∧ x = 0) → Q (some (.int x)) (n, y, I', L', R)) : sm_W ex d 0 0 207 0 [some (.ref 123), some (.int (nI c)), some (.int (nI m))] [] (n, y, I, L, R) Q := by
  have h7 := hok.1
  have hmv := sp_mv_ok hok hm
  have hmo := sp_mo_le F s m
  refine w_X11_tryMan_0 (d1 := 7) hG (by omega) ?_
  refine ⟨vp_in_nI (by omega) (by decide), ?_⟩
  rw [nI_clamp (by omega), hs.2.2.1, h147, sm_n1]
  simp only [sp_up_eq hok.2.2.1 (by omega : sMen s ≤ 1000) hm]
  -- the hour, whatever came
  have go : ∀ (I1 : Nat → Nat → Int32) (L1 : Nat → Nat → Int64) (v : Nat), v = sp_mo F s m → mFm (sm_st I 146 c (nI m)) I1 L L1 → mS (sp_mv s m) (I1 125) → sm_W ex d 0 0 207 40 [some (.ref 123), some (.int (nI c)), some (.int (nI m))] [.int (nI v), .int (nI e), .int (nI (c + 1)), .ref 147] (n, y, I1, L1, R) Q := by
    intro I1 L1 v hv f1 s1
    subst hv
    refine w_X11_tryMan_40 (d1 := 7) hG (by omega) ?_
    refine ⟨vp_in_nI (by omega) (by decide), ?_⟩
    rw [nI_clamp (by omega), nI_add]
    have f2 : mForce (sm_st I1 147 (c + 1) (nI (e + sp_mo F s m))) F := mForce_r (fun j hj => by rw [sm_st_o _ _ (by decide), f1.1 125 j (by omega) (by omega) (fun z => hj z.2), sm_st_o _ _ (by decide)]) hF
    refine c_X11_passIt (s := sp_mv s m) (F := F) (by omega) hG (mS_ext (fun j q => sm_st_o _ _ (by decide)) hmv.1 s1) hmv (by rw [sp_mv_term]; exact ht) (by rw [sm_st_o _ _ (by decide), f1.1 123 20 (by omega) (by omega) (by omega), sm_st_o _ _ (by decide)]; exact h20) f2 ?_
    intro I3 L3 f3 s3
    have fr : ∀ a j, ¬ (a = 123 ∧ (j = 38 ∨ j = 34)) → a ≠ 144 → ¬ (a = 125 ∧ 4 ≤ j ∧ j < 24) → ¬ (a = 146 ∧ j = c) → ¬ (a = 147 ∧ j = c + 1) → I3 a j = I a j := fun a j q1 q2 q3 q4 q5 => by
      rw [f3.1 a j q1 q2 q3, sm_st_or _ _ (by omega), f1.1 a j q1 q2 q3, sm_st_or _ _ (by omega)]
    have lr : ∀ a j, a ≠ 143 → a ≠ 141 → ¬ (a = 123 ∧ (j = 39 ∨ j = 40)) → L3 a j = L a j := fun a j q1 q2 q3 => (f3.2 a j q1 q2 q3).trans (f1.2 a j q1 q2 q3)
    have e146 : I3 146 c = nI m := by rw [f3.1 146 c (by omega) (by omega) (by omega), sm_st_o _ _ (by decide), f1.1 146 c (by omega) (by omega) (by omega), sm_st_s]
    have e147 : I3 147 (c + 1) = nI (e + sp_mo F s m) := by rw [f3.1 147 (c + 1) (by omega) (by omega) (by omega), sm_st_s]
    refine w_X11_tryMan_46 hG ?_
    rcases sp_hour_01 F (sp_mv s m) with hx | hx
    · rw [hx, if_pos (by decide), sm_n1, nI_clamp (by omega), e147, fr 123 46 (by omega) (by omega) (by omega) (by omega) (by omega), h46]
      refine ⟨vp_in_nI (by omega) (by decide), ?_⟩
      by_cases hlt : e + sp_mo F s m < B
      · rw [if_neg (by rw [nI_leI (by omega) (by omega)]; omega)]
        exact k I3 L3 1 fr lr e146 e147 s3 (Or.inl ⟨⟨hx, hlt⟩, rfl⟩)
      · rw [if_pos (by rw [nI_leI (by omega) (by omega)]; omega)]
        exact k I3 L3 0 fr lr e146 e147 s3 (Or.inr ⟨fun z => hlt z.2, rfl⟩)
    · rw [hx, if_neg (by decide)]
      exact k I3 L3 0 fr lr e146 e147 s3 (Or.inr ⟨fun z => by omega, rfl⟩)
  have s1 : mS s ((sm_st I 146 c (nI m)) 125) := mS_ext (fun j q => sm_st_o _ _ (by decide)) h7 hs
  by_cases hu : sUp s = some m
  · rw [if_pos hu]
    have e : sp_mv s m = s := by unfold sp_mv; rw [if_pos hu]
    exact go _ L 0 (by unfold sp_mo; rw [if_pos hu]) (mFm.rfl' _ L) (by rw [e]; exact s1)
  · rw [if_neg hu]
    have e : sp_mv s m = sp_relieve s m := by unfold sp_mv; rw [if_neg hu]
    refine c_X11_relieveIt (s := s) (F := F) (by omega) hG s1 hok hm (by rw [sm_st_o _ _ (by decide)]; exact h20) (mForce_r (fun j hj => sm_st_o _ _ (by decide)) hF) ?_
    intro I1 L1 f1 s2
    exact go I1 L1 _ (by unfold sp_mo; rw [if_neg hu]) f1 (by rw [e]; exact s2)
/-- a snapshot comes back -/
theorem mS_deep {s : St} {r g : Nat → Int32} (h7 : sMen s ≤ 7) (h0 : r 0 = nI (sMen s)) (hh : ∀ i, i < sMen s → r (24 + i) = nI (sHold s i) ∧ r (31 + i) = nI (sLook s i)) (hg : mSn s g) (hr : ∀ j, j < 20 → r (4 + j) = g j) : mS s r := by
  obtain ⟨g1, g2, g3, g4⟩ := hg
  refine ⟨h0, fun i hi => ⟨(hh i hi).1, (hh i hi).2, ?_, ?_⟩, ?_, ?_, fun j hj => (hr j (by omega)).trans (g1 j hj)⟩
  · rw [show 10 + i = 4 + (6 + i) by omega, hr (6 + i) (by omega)]
    exact (g4 i hi).1
  · rw [show 17 + i = 4 + (13 + i) by omega, hr (13 + i) (by omega)]
    exact (g4 i hi).2
  · rw [show 8 = 4 + 4 from rfl, hr 4 (by omega)]
    exact g2
  · rw [show 9 = 4 + 5 from rfl, hr 5 (by omega)]
    exact g3
theorem mSn_of {s : St} {r g : Nat → Int32} (h7 : sMen s ≤ 7) (hs : mS s r) (hr : ∀ j, j < 20 → g j = r (4 + j)) : mSn s g := by
  refine ⟨fun j hj => (hr j (by omega)).trans (hs.2.2.2.2 j hj), (hr 4 (by omega)).trans hs.2.2.1, (hr 5 (by omega)).trans hs.2.2.2.1, fun i hi => ⟨(hr (6 + i) (by omega)).trans ?_, (hr (13 + i) (by omega)).trans ?_⟩⟩
  · rw [show 4 + (6 + i) = 10 + i by omega]
    exact (hs.2.1 i hi).2.2.1
  · rw [show 4 + (13 + i) = 17 + i by omega]
    exact (hs.2.1 i hi).2.2.2

