set_option maxRecDepth 100000 in
theorem w_X11_begin_0 {ex : sm_O} {d n : Nat} {y : sm_Y} {I : Nat → Nat → Int32} {L : Nat → Nat → Int64} {R : Nat → Nat → Option Nat} {Q : sm_Q} {d1 : Nat} (hG : sm_G y R) (h1 : d1 < d) (k : sm_W ex d1 0 0 154 0 [some (.ref 123)] [] (n, y, sm_st (sm_st (sm_st I 123 15 0) 123 19 0) 123 18 (-1), L, R) (fun r μ1 => sm_W ex d 0 0 153 19 [some (.ref 123)] (r.toList ++ []) μ1 Q)) : sm_W ex d 0 0 153 0 [some (.ref 123)] [] (n, y, I, L, R) Q := sm_in (sm_in (sm_in (And.intro (hG.1 123 (Nat.le_of_ble_eq_true rfl)) (sm_in (sm_in (sm_in (And.intro (hG.1 123 (Nat.le_of_ble_eq_true rfl)) (And.intro (Or.inl rfl) (sm_in (sm_in (sm_in (And.intro (hG.1 123 (Nat.le_of_ble_eq_true rfl)) (sm_in (sm_in (Exists.intro 11 (And.intro (hG.1 123 (Nat.le_of_ble_eq_true rfl)) (And.intro rfl (sm_calln h1 (Nat.le_of_ble_eq_true rfl) (Nat.le_of_ble_eq_true rfl) k))))))))))))))))))
set_option maxRecDepth 100000 in
theorem w_X11_begin_19 {ex : sm_O} {d n : Nat} {y : sm_Y} {I : Nat → Nat → Int32} {L : Nat → Nat → Int64} {R : Nat → Nat → Option Nat} {Q : sm_Q} {w0 : Option Value} (k : Q none (n, y, I, L, R)) : sm_W ex d 0 0 153 19 [w0] [] (n, y, I, L, R) Q := sm_in (And.intro rfl (And.intro rfl k))
set_option maxRecDepth 100000 in
theorem w_X11_beginText_0 {ex : sm_O} {d n : Nat} {y : sm_Y} {I : Nat → Nat → Int32} {L : Nat → Nat → Int64} {R : Nat → Nat → Option Nat} {Q : sm_Q} {a1 : Int32} {d1 : Nat} (hG : sm_G y R) (h1 : d1 < d) (k : (a1 = 0 ∨ a1 = 1) ∧ sm_W ex d1 0 0 153 0 [some (.ref 123)] [] (n, y, sm_st I 123 20 a1, L, R) (fun r μ1 => sm_W ex d 0 0 175 9 [some (.ref 123), some (.int a1)] (r.toList ++ []) μ1 Q)) : sm_W ex d 0 0 175 0 [some (.ref 123), some (.int a1)] [] (n, y, I, L, R) Q := sm_in (sm_in ((have e1 := k.1; have k1 := k.2; sm_in (And.intro (hG.1 123 (Nat.le_of_ble_eq_true rfl)) (And.intro e1 (sm_in (sm_in (Exists.intro 11 (And.intro (hG.1 123 (Nat.le_of_ble_eq_true rfl)) (And.intro rfl (sm_calln h1 (Nat.le_of_ble_eq_true rfl) (Nat.le_of_ble_eq_true rfl) k1)))))))))))
set_option maxRecDepth 100000 in
theorem w_X11_beginText_9 {ex : sm_O} {d n : Nat} {y : sm_Y} {I : Nat → Nat → Int32} {L : Nat → Nat → Int64} {R : Nat → Nat → Option Nat} {Q : sm_Q} {w1 : Option Value} (hG : sm_G y R) (k : Q none (n, y, sm_st (sm_st (sm_st I 123 21 0) 123 23 0) 123 26 0, L, R)) : sm_W ex d 0 0 175 9 [some (.ref 123), w1] [] (n, y, I, L, R) Q := sm_in (sm_in (sm_in (And.intro (hG.1 123 (Nat.le_of_ble_eq_true rfl)) (sm_in (sm_in (sm_in (And.intro (hG.1 123 (Nat.le_of_ble_eq_true rfl)) (sm_in (sm_in (sm_in (And.intro (hG.1 123 (Nat.le_of_ble_eq_true rfl)) (sm_in (And.intro rfl (And.intro rfl k))))))))))))))
set_option maxRecDepth 100000 in
theorem w_X11_endText_0 {ex : sm_O} {d n : Nat} {y : sm_Y} {I : Nat → Nat → Int32} {L : Nat → Nat → Int64} {R : Nat → Nat → Option Nat} {Q : sm_Q} {d1 : Nat} (hG : sm_G y R) (h1 : d1 < d) (k : if (I 123 19) = 0 then (if (I 123 16) = 0 then (sm_W ex d 0 0 176 19 [some (.ref 123)] [] (n, y, I, L, R) Q) else (sm_W ex d1 0 0 157 0 [some (.ref 123), some (.int 0)] [] (n, y, I, L, R) (fun r μ1 => sm_W ex d 0 0 176 19 [some (.ref 123)] (r.toList ++ []) μ1 Q))) else (sm_W ex d 0 0 176 19 [some (.ref 123)] [] (n, y, I, L, R) Q)) : sm_W ex d 0 0 176 0 [some (.ref 123)] [] (n, y, I, L, R) Q := sm_in (sm_in (And.intro (hG.1 123 (Nat.le_of_ble_eq_true rfl)) (sm_in (And.intro (fun c1 => have k1f := Eq.mp (if_neg c1) k; k1f) (fun c1 => have k1t := Eq.mp (if_pos c1) k; sm_in (sm_in (And.intro (hG.1 123 (Nat.le_of_ble_eq_true rfl)) (sm_in (And.intro (fun c2 => have k2t := Eq.mp (if_pos c2) k1t; k2t) (fun c2 => have k2f := Eq.mp (if_neg c2) k1t; sm_in (sm_in (sm_in (Exists.intro 11 (And.intro (hG.1 123 (Nat.le_of_ble_eq_true rfl)) (And.intro rfl (sm_calln h1 (Nat.le_of_ble_eq_true rfl) (Nat.le_of_ble_eq_true rfl) k2f))))))))))))))))
set_option maxRecDepth 100000 in
theorem w_X11_endText_19 {ex : sm_O} {d n : Nat} {y : sm_Y} {I : Nat → Nat → Int32} {L : Nat → Nat → Int64} {R : Nat → Nat → Option Nat} {Q : sm_Q} (hG : sm_G y R) (k : Q none (n, y, sm_st (sm_st I 123 20 0) 123 13 0, L, R)) : sm_W ex d 0 0 176 19 [some (.ref 123)] [] (n, y, I, L, R) Q := sm_in (sm_in (sm_in (And.intro (hG.1 123 (Nat.le_of_ble_eq_true rfl)) (And.intro (Or.inl rfl) (sm_in (sm_in (sm_in (And.intro (hG.1 123 (Nat.le_of_ble_eq_true rfl)) (sm_in (And.intro rfl (And.intro rfl k)))))))))))
set_option maxRecDepth 100000 in
theorem w_X11_law_0 {ex : sm_O} {d n : Nat} {y : sm_Y} {I : Nat → Nat → Int32} {L : Nat → Nat → Int64} {R : Nat → Nat → Option Nat} {Q : sm_Q} {w1 : Option Value} {w2 : Option Value} {d1 : Nat} (hG : sm_G y R) (h1 : d1 < d) (k : if (I 125 2) = 6 then (sm_W ex d1 0 0 128 0 [some (.ref 123), some (.int (-5))] [] (n, y, sm_st (sm_st I 123 0 0) 123 13 0, L, R) (fun r μ1 => sm_W ex d 0 0 178 27 [some (.ref 123), w1, w2] (r.toList ++ []) μ1 Q)) else (sm_W ex d1 0 0 175 0 [some (.ref 123), some (.int 0)] [] (n, y, sm_st I 123 0 0, L, R) (fun r μ1 => sm_W ex d 0 0 178 33 [some (.ref 123), w1, w2] (r.toList ++ []) μ1 Q))) : sm_W ex d 0 0 178 0 [some (.ref 123), w1, w2] [] (n, y, I, L, R) Q := sm_in (sm_in (sm_in (And.intro (hG.1 123 (Nat.le_of_ble_eq_true rfl)) (sm_in (sm_in (And.intro (hG.1 123 (Nat.le_of_ble_eq_true rfl)) (sm_gfr rfl (hG.2 123 3 rfl) (sm_in (sm_in (Exists.intro 5450 (And.intro (hG.1 125 (Nat.le_of_ble_eq_true rfl)) (And.intro (sm_lin (by decide)) (sm_in (sm_in (And.intro (fun c1 => have k1f := Eq.mp (if_neg c1) k; sm_in (sm_in (sm_in (Exists.intro 11 (And.intro (hG.1 123 (Nat.le_of_ble_eq_true rfl)) (And.intro rfl (sm_calln h1 (Nat.le_of_ble_eq_true rfl) (Nat.le_of_ble_eq_true rfl) k1f))))))) (fun c1 => have k1t := Eq.mp (if_pos c1) k; sm_in (sm_in (sm_in (And.intro (hG.1 123 (Nat.le_of_ble_eq_true rfl)) (sm_in (sm_in (sm_in (Exists.intro 11 (And.intro (hG.1 123 (Nat.le_of_ble_eq_true rfl)) (And.intro rfl (sm_calln h1 (Nat.le_of_ble_eq_true rfl) (Nat.le_of_ble_eq_true rfl) k1t))))))))))))))))))))))))))
set_option maxRecDepth 100000 in
theorem w_X11_law_27 {ex : sm_O} {d n : Nat} {y : sm_Y} {I : Nat → Nat → Int32} {L : Nat → Nat → Int64} {R : Nat → Nat → Option Nat} {Q : sm_Q} {w0 : Option Value} {w1 : Option Value} {w2 : Option Value} {s0 : Int32} (k : Q (some (.int s0)) (n, y, I, L, R)) : sm_W ex d 0 0 178 27 [w0, w1, w2] [.int s0] (n, y, I, L, R) Q := sm_in (And.intro rfl k)
set_option maxRecDepth 100000 in
theorem w_X11_law_33 {ex : sm_O} {d n : Nat} {y : sm_Y} {I : Nat → Nat → Int32} {L : Nat → Nat → Int64} {R : Nat → Nat → Option Nat} {Q : sm_Q} {w1 : Option Value} {w2 : Option Value} {d1 : Nat} (hG : sm_G y R) (h1 : d1 < d) (k : sm_W ex d1 0 0 177 0 [some (.ref 123), none, none, none] [] (n, y, I, L, R) (fun r μ1 => sm_W ex d 0 0 178 37 [some (.ref 123), w1, w2] (r.toList ++ []) μ1 Q)) : sm_W ex d 0 0 178 33 [some (.ref 123), w1, w2] [] (n, y, I, L, R) Q := sm_in (sm_in (Exists.intro 11 (And.intro (hG.1 123 (Nat.le_of_ble_eq_true rfl)) (And.intro rfl (sm_calln h1 (Nat.le_of_ble_eq_true rfl) (Nat.le_of_ble_eq_true rfl) k)))))
set_option maxRecDepth 100000 in
theorem w_X11_law_37 {ex : sm_O} {d n : Nat} {y : sm_Y} {I : Nat → Nat → Int32} {L : Nat → Nat → Int64} {R : Nat → Nat → Option Nat} {Q : sm_Q} {w1 : Option Value} {w2 : Option Value} {d1 : Nat} (hG : sm_G y R) (h1 : d1 < d) (k : if (I 123 19) = 0 then (sm_W ex d1 0 0 156 0 [some (.ref 123), some (.int 59)] [] (n, y, I, L, R) (fun r μ1 => sm_W ex d 0 0 178 50 [some (.ref 123), w1, w2] (r.toList ++ []) μ1 Q)) else (sm_W ex d1 0 0 176 0 [some (.ref 123)] [] (n, y, I, L, R) (fun r μ1 => sm_W ex d 0 0 178 68 [some (.ref 123), w1, w2] (r.toList ++ []) μ1 Q))) : sm_W ex d 0 0 178 37 [some (.ref 123), w1, w2] [] (n, y, I, L, R) Q := sm_in (sm_in (And.intro (hG.1 123 (Nat.le_of_ble_eq_true rfl)) (sm_in (And.intro (fun c1 => have k1f := Eq.mp (if_neg c1) k; sm_in (sm_in (Exists.intro 11 (And.intro (hG.1 123 (Nat.le_of_ble_eq_true rfl)) (And.intro rfl (sm_calln h1 (Nat.le_of_ble_eq_true rfl) (Nat.le_of_ble_eq_true rfl) k1f)))))) (fun c1 => have k1t := Eq.mp (if_pos c1) k; sm_in (sm_in (sm_in (Exists.intro 11 (And.intro (hG.1 123 (Nat.le_of_ble_eq_true rfl)) (And.intro rfl (sm_calln h1 (Nat.le_of_ble_eq_true rfl) (Nat.le_of_ble_eq_true rfl) k1t)))))))))))
set_option maxRecDepth 100000 in
theorem w_X11_law_50 {ex : sm_O} {d n : Nat} {y : sm_Y} {I : Nat → Nat → Int32} {L : Nat → Nat → Int64} {R : Nat → Nat → Option Nat} {Q : sm_Q} {w1 : Option Value} {w2 : Option Value} {s0 : Int32} {d1 : Nat} (hG : sm_G y R) (h1 : d1 < d) (k : if s0 = 0 then (sm_W ex d1 0 0 176 0 [some (.ref 123)] [] (n, y, I, L, R) (fun r μ1 => sm_W ex d 0 0 178 68 [some (.ref 123), w1, w2] (r.toList ++ []) μ1 Q)) else (sm_W ex d1 0 0 154 0 [some (.ref 123)] [] (n, y, I, L, R) (fun r μ1 => sm_W ex d 0 0 178 57 [some (.ref 123), w1, w2] (r.toList ++ []) μ1 Q))) : sm_W ex d 0 0 178 50 [some (.ref 123), w1, w2] [.int s0] (n, y, I, L, R) Q := sm_in (And.intro (fun c1 => have k1t := Eq.mp (if_pos c1) k; sm_in (sm_in (Exists.intro 11 (And.intro (hG.1 123 (Nat.le_of_ble_eq_true rfl)) (And.intro rfl (sm_calln h1 (Nat.le_of_ble_eq_true rfl) (Nat.le_of_ble_eq_true rfl) k1t)))))) (fun c1 => have k1f := Eq.mp (if_neg c1) k; sm_in (sm_in (Exists.intro 11 (And.intro (hG.1 123 (Nat.le_of_ble_eq_true rfl)) (And.intro rfl (sm_calln h1 (Nat.le_of_ble_eq_true rfl) (Nat.le_of_ble_eq_true rfl) k1f)))))))
set_option maxRecDepth 100000 in
theorem w_X11_law_57 {ex : sm_O} {d n : Nat} {y : sm_Y} {I : Nat → Nat → Int32} {L : Nat → Nat → Int64} {R : Nat → Nat → Option Nat} {Q : sm_Q} {w1 : Option Value} {w2 : Option Value} {d1 : Nat} (hG : sm_G y R) (h1 : d1 < d) (k : sm_W ex d1 0 0 177 0 [some (.ref 123), none, none, none] [] (n, y, I, L, R) (fun r μ1 => sm_W ex d 0 0 178 61 [some (.ref 123), w1, w2] (r.toList ++ []) μ1 Q)) : sm_W ex d 0 0 178 57 [some (.ref 123), w1, w2] [] (n, y, I, L, R) Q := sm_in (sm_in (Exists.intro 11 (And.intro (hG.1 123 (Nat.le_of_ble_eq_true rfl)) (And.intro rfl (sm_calln h1 (Nat.le_of_ble_eq_true rfl) (Nat.le_of_ble_eq_true rfl) k)))))
set_option maxRecDepth 100000 in
theorem w_X11_law_61 {ex : sm_O} {d n : Nat} {y : sm_Y} {I : Nat → Nat → Int32} {L : Nat → Nat → Int64} {R : Nat → Nat → Option Nat} {Q : sm_Q} {w0 : Option Value} {w1 : Option Value} {w2 : Option Value} (k : sm_W ex d 0 0 178 37 [w0, w1, w2] [] (n, y, I, L, R) Q) : sm_W ex d 0 0 178 61 [w0, w1, w2] [] (n, y, I, L, R) Q := sm_in (k)
set_option maxRecDepth 100000 in
theorem w_X11_law_68 {ex : sm_O} {d n : Nat} {y : sm_Y} {I : Nat → Nat → Int32} {L : Nat → Nat → Int64} {R : Nat → Nat → Option Nat} {Q : sm_Q} {w1 : Option Value} {w2 : Option Value} {d1 : Nat} (hG : sm_G y R) (h1 : d1 < d) (k : if (I 123 19) = 0 then (vp_in ((50 + (900 * (I 125 2))) + 1) 5450 ∧ sm_W ex d 0 0 178 110 [some (.ref 123), some (.int (50 + (900 * (I 125 2)))), some (.int 0)] [] (n, y, sm_st I 125 (((50 + (900 * (I 125 2))) + 1).toNatClampNeg) (I 123 21), L, R) Q) else (sm_W ex d1 0 0 128 0 [some (.ref 123), some (.int (-6))] [] (n, y, I, L, R) (fun r μ1 => sm_W ex d 0 0 178 81 [some (.ref 123), w1, w2] (r.toList ++ []) μ1 Q))) : sm_W ex d 0 0 178 68 [some (.ref 123), w1, w2] [] (n, y, I, L, R) Q := sm_in (sm_in (And.intro (hG.1 123 (Nat.le_of_ble_eq_true rfl)) (sm_in (And.intro (fun c1 => have k1t := Eq.mp (if_pos c1) k; sm_in (sm_in (sm_in (sm_in (And.intro (hG.1 123 (Nat.le_of_ble_eq_true rfl)) (sm_gfr rfl (hG.2 123 3 rfl) (sm_in (sm_in (Exists.intro 5450 (And.intro (hG.1 125 (Nat.le_of_ble_eq_true rfl)) (And.intro (sm_lin (by decide)) (sm_in (sm_in (sm_in (And.intro (Nat.le_of_ble_eq_true rfl) (sm_in (sm_in (And.intro (hG.1 123 (Nat.le_of_ble_eq_true rfl)) (sm_gfr rfl (hG.2 123 3 rfl) (sm_in (sm_in (sm_in (sm_in (sm_in (And.intro (hG.1 123 (Nat.le_of_ble_eq_true rfl)) ((have e2 := k1t.1; have k2 := k1t.2; sm_in (Exists.intro 5450 (And.intro (hG.1 125 (Nat.le_of_ble_eq_true rfl)) (And.intro e2 (sm_in (sm_in (And.intro (Nat.le_of_ble_eq_true rfl) (k2)))))))))))))))))))))))))))))))))) (fun c1 => have k1f := Eq.mp (if_neg c1) k; sm_in (sm_in (sm_in (Exists.intro 11 (And.intro (hG.1 123 (Nat.le_of_ble_eq_true rfl)) (And.intro rfl (sm_calln h1 (Nat.le_of_ble_eq_true rfl) (Nat.le_of_ble_eq_true rfl) k1f)))))))))))
set_option maxRecDepth 100000 in
theorem w_X11_law_81 {ex : sm_O} {d n : Nat} {y : sm_Y} {I : Nat → Nat → Int32} {L : Nat → Nat → Int64} {R : Nat → Nat → Option Nat} {Q : sm_Q} {w0 : Option Value} {w1 : Option Value} {w2 : Option Value} {s0 : Int32} (k : Q (some (.int s0)) (n, y, I, L, R)) : sm_W ex d 0 0 178 81 [w0, w1, w2] [.int s0] (n, y, I, L, R) Q := sm_in (And.intro rfl k)
set_option maxRecDepth 100000 in
theorem w_X11_law_110 {ex : sm_O} {d n : Nat} {y : sm_Y} {I : Nat → Nat → Int32} {L : Nat → Nat → Int64} {R : Nat → Nat → Option Nat} {Q : sm_Q} {a1 : Int32} {a2 : Int32} (hG : sm_G y R) (k : if (8 * (I 123 21)) ≤ a2 then (sm_W ex d 0 0 178 145 [some (.ref 123), some (.int a1), some (.int 0)] [] (n, y, I, L, R) Q) else (vp_in a2 96 ∧ vp_in ((a1 + 2) + a2) 5450 ∧ sm_W ex d 0 0 178 110 [some (.ref 123), some (.int a1), some (.int (a2 + 1))] [] (n, y, sm_st I 125 (((a1 + 2) + a2).toNatClampNeg) (I 133 a2.toNatClampNeg), L, R) Q)) : sm_W ex d 0 0 178 110 [some (.ref 123), some (.int a1), some (.int a2)] [] (n, y, I, L, R) Q := sm_in (sm_in (sm_in (sm_in (And.intro (hG.1 123 (Nat.le_of_ble_eq_true rfl)) (sm_in (sm_in (And.intro (fun c1 => have k1t := Eq.mp (if_pos c1) k; sm_in (sm_in (And.intro (Nat.le_of_ble_eq_true rfl) (k1t)))) (fun c1 => have k1f := Eq.mp (if_neg c1) k; sm_in (sm_in (And.intro (hG.1 123 (Nat.le_of_ble_eq_true rfl)) (sm_gfr rfl (hG.2 123 3 rfl) (sm_in (sm_in (sm_in (sm_in (sm_in (sm_in (sm_in (And.intro (hG.1 123 (Nat.le_of_ble_eq_true rfl)) (sm_gfr rfl (hG.2 123 22 rfl) (sm_in ((have e2 := k1f.1; have k2 := k1f.2; sm_in (Exists.intro 96 (And.intro (hG.1 133 (Nat.le_of_ble_eq_true rfl)) (And.intro e2 ((have e3 := k2.1; have k3 := k2.2; sm_in (Exists.intro 5450 (And.intro (hG.1 125 (Nat.le_of_ble_eq_true rfl)) (And.intro e3 (sm_in (And.intro (Nat.le_of_ble_eq_true rfl) (sm_in (k3)))))))))))))))))))))))))))))))))))
set_option maxRecDepth 100000 in
theorem w_X11_law_145 {ex : sm_O} {d n : Nat} {y : sm_Y} {I : Nat → Nat → Int32} {L : Nat → Nat → Int64} {R : Nat → Nat → Option Nat} {Q : sm_Q} {a1 : Int32} {a2 : Int32} {d1 : Nat} (hG : sm_G y R) (h1 : d1 < d) (k : if (I 123 23) ≤ a2 then (sm_W ex d1 0 0 128 0 [some (.ref 123), some (.int (((I 125 2) + 1) - 1))] [] (n, y, sm_st I 125 2 ((I 125 2) + 1), L, R) (fun r μ1 => sm_W ex d 0 0 178 221 [some (.ref 123), some (.int a1), some (.int a2)] (r.toList ++ []) μ1 Q)) else (vp_in a2 400 ∧ vp_in ((a1 + 98) + (2 * a2)) 5450 ∧ vp_in (((a1 + 98) + (2 * a2)) + 1) 5450 ∧ sm_W ex d 0 0 178 145 [some (.ref 123), some (.int a1), some (.int (a2 + 1))] [] (n, y, sm_st (sm_st I 125 (((a1 + 98) + (2 * a2)).toNatClampNeg) (I 134 a2.toNatClampNeg)) 125 ((((a1 + 98) + (2 * a2)) + 1).toNatClampNeg) (I 135 a2.toNatClampNeg), L, R) Q)) : sm_W ex d 0 0 178 145 [some (.ref 123), some (.int a1), some (.int a2)] [] (n, y, I, L, R) Q := sm_in (sm_in (sm_in (And.intro (hG.1 123 (Nat.le_of_ble_eq_true rfl)) (sm_in (And.intro (fun c1 => have k1t := Eq.mp (if_pos c1) k; sm_in (sm_in (And.intro (hG.1 123 (Nat.le_of_ble_eq_true rfl)) (sm_gfr rfl (hG.2 123 3 rfl) (sm_in (sm_in (And.intro rfl (And.intro rfl (sm_in (Exists.intro 5450 (And.intro (hG.1 125 (Nat.le_of_ble_eq_true rfl)) (And.intro (sm_lin (by decide)) (sm_in (sm_in (sm_in (Exists.intro 5450 (And.intro (hG.1 125 (Nat.le_of_ble_eq_true rfl)) (And.intro (sm_lin (by decide)) (sm_in (sm_in (sm_in (And.intro (hG.1 123 (Nat.le_of_ble_eq_true rfl)) (sm_gfr rfl (hG.2 123 3 rfl) (sm_in (sm_in (Exists.intro 5450 (And.intro (hG.1 125 (Nat.le_of_ble_eq_true rfl)) (And.intro (sm_lin (by decide)) (sm_in (sm_in (sm_in (Exists.intro 11 (And.intro (hG.1 123 (Nat.le_of_ble_eq_true rfl)) (And.intro rfl (sm_calln h1 (Nat.le_of_ble_eq_true rfl) (Nat.le_of_ble_eq_true rfl) k1t))))))))))))))))))))))))))))))))))) (fun c1 => have k1f := Eq.mp (if_neg c1) k; sm_in (sm_in (And.intro (hG.1 123 (Nat.le_of_ble_eq_true rfl)) (sm_gfr rfl (hG.2 123 3 rfl) (sm_in (sm_in (sm_in (sm_in (sm_in (sm_in (sm_in (sm_in (sm_in (And.intro (hG.1 123 (Nat.le_of_ble_eq_true rfl)) (sm_gfr rfl (hG.2 123 24 rfl) (sm_in ((have e2 := k1f.1; have k2 := k1f.2; sm_in (Exists.intro 400 (And.intro (hG.1 134 (Nat.le_of_ble_eq_true rfl)) (And.intro e2 ((have e3 := k2.1; have k3 := k2.2; sm_in (Exists.intro 5450 (And.intro (hG.1 125 (Nat.le_of_ble_eq_true rfl)) (And.intro e3 (sm_in (sm_in (And.intro (hG.1 123 (Nat.le_of_ble_eq_true rfl)) (sm_gfr rfl (hG.2 123 3 rfl) (sm_in (sm_in (sm_in (sm_in (sm_in (sm_in (sm_in (sm_in (sm_in (sm_in (sm_in (And.intro (hG.1 123 (Nat.le_of_ble_eq_true rfl)) (sm_gfr rfl (hG.2 123 25 rfl) (sm_in (sm_in (Exists.intro 400 (And.intro (hG.1 135 (Nat.le_of_ble_eq_true rfl)) (And.intro e2 ((have e4 := k3.1; have k4 := k3.2; sm_in (Exists.intro 5450 (And.intro (hG.1 125 (Nat.le_of_ble_eq_true rfl)) (And.intro e4 (sm_in (And.intro (Nat.le_of_ble_eq_true rfl) (sm_in (k4))))))))))))))))))))))))))))))))))))))))))))))))))))))))))))))
set_option maxRecDepth 100000 in
theorem w_X11_law_221 {ex : sm_O} {d n : Nat} {y : sm_Y} {I : Nat → Nat → Int32} {L : Nat → Nat → Int64} {R : Nat → Nat → Option Nat} {Q : sm_Q} {w0 : Option Value} {w1 : Option Value} {w2 : Option Value} {s0 : Int32} (k : Q (some (.int s0)) (n, y, I, L, R)) : sm_W ex d 0 0 178 221 [w0, w1, w2] [.int s0] (n, y, I, L, R) Q := sm_in (And.intro rfl k)
set_option maxRecDepth 100000 in
theorem w_X11_orders_0 {ex : sm_O} {d n : Nat} {y : sm_Y} {I : Nat → Nat → Int32} {L : Nat → Nat → Int64} {R : Nat → Nat → Option Nat} {Q : sm_Q} {w1 : Option Value} {w2 : Option Value} {w3 : Option Value} {d1 : Nat} (hG : sm_G y R) (h1 : d1 < d) (k : sm_W ex d1 0 0 175 0 [some (.ref 123), some (.int 1)] [] (n, y, sm_st (sm_st I 123 0 0) 123 55 (-1), L, R) (fun r μ1 => sm_W ex d 0 0 231 15 [some (.ref 123), w1, w2, w3] (r.toList ++ []) μ1 Q)) : sm_W ex d 0 0 231 0 [some (.ref 123), w1, w2, w3] [] (n, y, I, L, R) Q := sm_in (sm_in (sm_in (And.intro (hG.1 123 (Nat.le_of_ble_eq_true rfl)) (sm_in (sm_in (sm_in (And.intro (hG.1 123 (Nat.le_of_ble_eq_true rfl)) (sm_in (sm_in (sm_in (Exists.intro 11 (And.intro (hG.1 123 (Nat.le_of_ble_eq_true rfl)) (And.intro rfl (sm_calln h1 (Nat.le_of_ble_eq_true rfl) (Nat.le_of_ble_eq_true rfl) k))))))))))))))
set_option maxRecDepth 100000 in
theorem w_X11_orders_15 {ex : sm_O} {d n : Nat} {y : sm_Y} {I : Nat → Nat → Int32} {L : Nat → Nat → Int64} {R : Nat → Nat → Option Nat} {Q : sm_Q} {w1 : Option Value} {w2 : Option Value} {w3 : Option Value} {d1 : Nat} (hG : sm_G y R) (h1 : d1 < d) (k : sm_W ex d1 0 0 227 0 [some (.ref 123), none, none, none] [] (n, y, I, L, R) (fun r μ1 => sm_W ex d 0 0 231 19 [some (.ref 123), w1, w2, w3] (r.toList ++ []) μ1 Q)) : sm_W ex d 0 0 231 15 [some (.ref 123), w1, w2, w3] [] (n, y, I, L, R) Q := sm_in (sm_in (Exists.intro 11 (And.intro (hG.1 123 (Nat.le_of_ble_eq_true rfl)) (And.intro rfl (sm_calln h1 (Nat.le_of_ble_eq_true rfl) (Nat.le_of_ble_eq_true rfl) k)))))
set_option maxRecDepth 100000 in
theorem w_X11_orders_19 {ex : sm_O} {d n : Nat} {y : sm_Y} {I : Nat → Nat → Int32} {L : Nat → Nat → Int64} {R : Nat → Nat → Option Nat} {Q : sm_Q} {w1 : Option Value} {w2 : Option Value} {w3 : Option Value} {d1 : Nat} (hG : sm_G y R) (h1 : d1 < d) (k : if (I 123 19) = 0 then (sm_W ex d1 0 0 156 0 [some (.ref 123), some (.int 59)] [] (n, y, I, L, R) (fun r μ1 => sm_W ex d 0 0 231 32 [some (.ref 123), w1, w2, w3] (r.toList ++ []) μ1 Q)) else (sm_W ex d1 0 0 176 0 [some (.ref 123)] [] (n, y, I, L, R) (fun r μ1 => sm_W ex d 0 0 231 50 [some (.ref 123), w1, w2, w3] (r.toList ++ []) μ1 Q))) : sm_W ex d 0 0 231 19 [some (.ref 123), w1, w2, w3] [] (n, y, I, L, R) Q := sm_in (sm_in (And.intro (hG.1 123 (Nat.le_of_ble_eq_true rfl)) (sm_in (And.intro (fun c1 => have k1f := Eq.mp (if_neg c1) k; sm_in (sm_in (Exists.intro 11 (And.intro (hG.1 123 (Nat.le_of_ble_eq_true rfl)) (And.intro rfl (sm_calln h1 (Nat.le_of_ble_eq_true rfl) (Nat.le_of_ble_eq_true rfl) k1f)))))) (fun c1 => have k1t := Eq.mp (if_pos c1) k; sm_in (sm_in (sm_in (Exists.intro 11 (And.intro (hG.1 123 (Nat.le_of_ble_eq_true rfl)) (And.intro rfl (sm_calln h1 (Nat.le_of_ble_eq_true rfl) (Nat.le_of_ble_eq_true rfl) k1t)))))))))))
set_option maxRecDepth 100000 in
theorem w_X11_orders_32 {ex : sm_O} {d n : Nat} {y : sm_Y} {I : Nat → Nat → Int32} {L : Nat → Nat → Int64} {R : Nat → Nat → Option Nat} {Q : sm_Q} {w1 : Option Value} {w2 : Option Value} {w3 : Option Value} {s0 : Int32} {d1 : Nat} (hG : sm_G y R) (h1 : d1 < d) (k : if s0 = 0 then (sm_W ex d1 0 0 176 0 [some (.ref 123)] [] (n, y, I, L, R) (fun r μ1 => sm_W ex d 0 0 231 50 [some (.ref 123), w1, w2, w3] (r.toList ++ []) μ1 Q)) else (sm_W ex d1 0 0 154 0 [some (.ref 123)] [] (n, y, I, L, R) (fun r μ1 => sm_W ex d 0 0 231 39 [some (.ref 123), w1, w2, w3] (r.toList ++ []) μ1 Q))) : sm_W ex d 0 0 231 32 [some (.ref 123), w1, w2, w3] [.int s0] (n, y, I, L, R) Q := sm_in (And.intro (fun c1 => have k1t := Eq.mp (if_pos c1) k; sm_in (sm_in (Exists.intro 11 (And.intro (hG.1 123 (Nat.le_of_ble_eq_true rfl)) (And.intro rfl (sm_calln h1 (Nat.le_of_ble_eq_true rfl) (Nat.le_of_ble_eq_true rfl) k1t)))))) (fun c1 => have k1f := Eq.mp (if_neg c1) k; sm_in (sm_in (Exists.intro 11 (And.intro (hG.1 123 (Nat.le_of_ble_eq_true rfl)) (And.intro rfl (sm_calln h1 (Nat.le_of_ble_eq_true rfl) (Nat.le_of_ble_eq_true rfl) k1f)))))))
set_option maxRecDepth 100000 in
theorem w_X11_orders_39 {ex : sm_O} {d n : Nat} {y : sm_Y} {I : Nat → Nat → Int32} {L : Nat → Nat → Int64} {R : Nat → Nat → Option Nat} {Q : sm_Q} {w1 : Option Value} {w2 : Option Value} {w3 : Option Value} {d1 : Nat} (hG : sm_G y R) (h1 : d1 < d) (k : sm_W ex d1 0 0 227 0 [some (.ref 123), none, none, none] [] (n, y, I, L, R) (fun r μ1 => sm_W ex d 0 0 231 43 [some (.ref 123), w1, w2, w3] (r.toList ++ []) μ1 Q)) : sm_W ex d 0 0 231 39 [some (.ref 123), w1, w2, w3] [] (n, y, I, L, R) Q := sm_in (sm_in (Exists.intro 11 (And.intro (hG.1 123 (Nat.le_of_ble_eq_true rfl)) (And.intro rfl (sm_calln h1 (Nat.le_of_ble_eq_true rfl) (Nat.le_of_ble_eq_true rfl) k)))))
set_option maxRecDepth 100000 in
theorem w_X11_orders_43 {ex : sm_O} {d n : Nat} {y : sm_Y} {I : Nat → Nat → Int32} {L : Nat → Nat → Int64} {R : Nat → Nat → Option Nat} {Q : sm_Q} {w0 : Option Value} {w1 : Option Value} {w2 : Option Value} {w3 : Option Value} (k : sm_W ex d 0 0 231 19 [w0, w1, w2, w3] [] (n, y, I, L, R) Q) : sm_W ex d 0 0 231 43 [w0, w1, w2, w3] [] (n, y, I, L, R) Q := sm_in (k)
-- TEXTS OF THE MODEL
theorem m_beginText {ex : sm_O} {n : Nat} {y : sm_Y} {I : Nat → Nat → Int32} {L : Nat → Nat → Int64} {R : Nat → Nat → Option Nat} {Q : sm_Q} {d : Nat} {o : Bool} {t : Tp} (hd : 3 ≤ d) (hG : sm_G y R) (ht : mTk t I) (hw : mWs L)
    (k : ∀ (I' : Nat → Nat → Int32) (L' : Nat → Nat → Int64), (∀ a j, ¬ (a = 123 ∧ 14 ≤ j ∧ j ≤ 26) → I' a j = I a j) → mL1 L L' → mE t o I' L' (tkAt t 0) 0 0 → I' 123 21 = nI 0 → Q none (n, y, I', L', R)) : sm_W ex d 0 0 175 0 [some (.ref 123), some (.int (if o = true then 1 else 0))] [] (n, y, I, L, R) Q := by
  refine w_X11_beginText_0 (d1 := 2) hG (by omega) ?_
  refine ⟨by cases o <;> decide, ?_⟩
  refine w_X11_begin_0 (d1 := 1) hG (by omega) ?_
  generalize hJ : sm_st (sm_st (sm_st (sm_st I 123 20 (if o = true then 1 else 0)) 123 15 0) 123 19 0) 123 18 (-1) = J
  have jo : ∀ a j, ¬ (a = 123 ∧ (j = 20 ∨ j = 15 ∨ j = 19 ∨ j = 18)) → J a j = I a j := fun a j h => by rw [← hJ, sm_st_or _ _ (by omega), sm_st_or _ _ (by omega), sm_st_or _ _ (by omega), sm_st_or _ _ (by omega)]
  have j15 : J 123 15 = nI 0 := by rw [← hJ, sm_st_j _ _ (by decide), sm_st_j _ _ (by decide), sm_st_s]; rfl
  have j20 : J 123 20 = (if o = true then 1 else 0) := by rw [← hJ, sm_st_j _ _ (by decide), sm_st_j _ _ (by decide), sm_st_j _ _ (by decide), sm_st_s]
  have j19 : J 123 19 = 0 := by rw [← hJ, sm_st_j _ _ (by decide), sm_st_s]
  have j18 : J 123 18 = -1 := by rw [← hJ, sm_st_s]
  have ht' : mTk t J := ⟨(jo 123 13 (by omega)).trans ht.1, ht.2.1, fun j hj => ⟨(jo 132 j (by omega)).trans (ht.2.2 j hj).1, (ht.2.2 j hj).2⟩⟩
  refine c_X11_next (by omega) hG ht' j18 j15 (by omega) ?_
  intro I1 L1 f1 g1 r1
  refine w_X11_begin_19 (w_X11_beginText_9 hG ?_)
  have e : ∀ a j, ¬ (a = 123 ∧ (j = 21 ∨ j = 23 ∨ j = 26)) → sm_st (sm_st (sm_st I1 123 21 0) 123 23 0) 123 26 0 a j = I1 a j := fun a j h => by rw [sm_st_or _ _ (by omega), sm_st_or _ _ (by omega), sm_st_or _ _ (by omega)]
  refine k _ L1 (fun a j h => by rw [e a j (by omega), f1 a j (by omega), jo a j (by omega)]) g1 ⟨mR_kept (fun j q1 q2 => e 123 j (by omega)) (fun j => e 132 j (by omega)) rfl r1, g1.W hw, by rw [e 123 20 (by omega), f1 123 20 (by omega)]; exact j20, by rw [e 123 19 (by omega), f1 123 19 (by omega)]; exact j19, sm_st_s _ _ _ _, by rw [sm_st_j _ _ (by decide), sm_st_s]; rfl, by omega, by omega⟩ (by rw [sm_st_j _ _ (by decide), sm_st_j _ _ (by decide), sm_st_s]; rfl)
def mEnd (I : Nat → Nat → Int32) : Nat → Nat → Int32 := sm_st (sm_st I 123 20 0) 123 13 0
theorem m_endBad {ex : sm_O} {n : Nat} {y : sm_Y} {I : Nat → Nat → Int32} {L : Nat → Nat → Int64} {R : Nat → Nat → Option Nat} {Q : sm_Q} {d : Nat} (hG : sm_G y R) (hd : 1 ≤ d) (h19 : I 123 19 = 1) (k : Q none (n, y, mEnd I, L, R)) : sm_W ex d 0 0 176 0 [some (.ref 123)] [] (n, y, I, L, R) Q := by
  refine w_X11_endText_0 (d1 := 0) hG (by omega) ?_
  rw [h19, if_neg (by decide)]
  exact w_X11_endText_19 hG k
theorem m_endText {ex : sm_O} {n : Nat} {y : sm_Y} {I : Nat → Nat → Int32} {L : Nat → Nat → Int64} {R : Nat → Nat → Option Nat} {Q : sm_Q} {d p pt len : Nat} {o : Bool} {t : Tp} (hG : sm_G y R) (hd : 3 ≤ d) (hx : mE t o I L p pt len) (k0 : tkK t p = 0 → Q none (n, y, mEnd I, L, R)) (k1 : ¬ tkK t p = 0 → Q none (n, y, mEnd (mBad p I), L, R)) : sm_W ex d 0 0 176 0 [some (.ref 123)] [] (n, y, I, L, R) Q := by
  have hkl := tkK_le t p
  refine w_X11_endText_0 (d1 := 2) hG (by omega) ?_
  rw [hx.2.2.2.1, if_pos rfl, hx.1.2.2.2.1]
  have e0 : nI (tkK t p) = 0 ↔ tkK t p = 0 := nI_eq (b := 0) (by omega) (by decide)
  simp only [e0]
  by_cases h : tkK t p = 0
  · rw [if_pos h]
    exact w_X11_endText_19 hG (k0 h)
  · rw [if_neg h]
    refine m_must (by omega) hG hx.1 hx.2.2.2.1 (fun _ => ?_) (fun z => absurd rfl z)
    exact w_X11_endText_19 hG (k1 h)
set_option maxHeartbeats 1000000 in
theorem lp_lawT {ex : sm_O} {d n : Nat} {y : sm_Y} {R : Nat → Nat → Option Nat} {Q : sm_Q} {t : Tp} {I0 : Nat → Nat → Int32} {L0 : Nat → Nat → Int64} {w1 w2 : Option Value} (hd : 9 ≤ d) (hG : sm_G y R)
    (kF : ∀ (I' : Nat → Nat → Int32) (L' : Nat → Nat → Int64) (q : Nat), rAll t false = .inl q → mG I0 I' → mL1 L0 L' → I' 123 19 = 1 → I' 123 18 = nI q → sm_W ex d 0 0 178 68 [some (.ref 123), w1, w2] [] (n, y, mEnd I', L', R) Q)
    (kS : ∀ (I' : Nat → Nat → Int32) (L' : Nat → Nat → Int64) (l' : List OC) (len' : Nat), rAll t false = .inr l' → mG I0 I' → mL1 L0 L' → I' 123 19 = 0 → I' 123 18 = -1 → I' 123 23 = nI len' → len' ≤ 400 → mCs false 133 3 I' len' l' → sm_W ex d 0 0 178 68 [some (.ref 123), w1, w2] [] (n, y, mEnd I', L', R) Q) :
    ∀ (f p pt len : Nat) (l : List OC) (I : Nat → Nat → Int32) (L : Nat → Nat → Int64) (Q' : sm_Q), f + l.length = 12 → rAll t false = rText t false f p pt l → mE t false I L p pt len → mCs false 133 3 I len l → mG I0 I → mL1 L0 L → (∀ (I' : Nat → Nat → Int32) (L' : Nat → Nat → Int64), sm_W ex d 0 0 178 37 [some (.ref 123), w1, w2] [] (n, y, I', L', R) Q → Q' none (n, y, I', L', R)) → sm_W ex 8 0 0 177 0 [some (.ref 123), none, none, none] [] (n, y, I, L, R) Q' := by
  intro f
  have badK : ∀ (I' : Nat → Nat → Int32) (L' : Nat → Nat → Int64) (q : Nat), rAll t false = .inl q → mG I0 I' → mL1 L0 L' → I' 123 19 = 1 → I' 123 18 = nI q → sm_W ex d 0 0 178 37 [some (.ref 123), w1, w2] [] (n, y, I', L', R) Q := fun I' L' q e g gl h19 h18 => by
    refine w_X11_law_37 (d1 := 8) hG (by omega) ?_
    rw [h19, if_neg (by decide)]
    exact m_endBad hG (by omega) h19 (kF I' L' q e g gl h19 h18)
  induction f with
  | zero =>
    intro p pt len l I L Q' hf hr hx hcs g gl hQ
    refine m_readLaw (by omega) hG hx hcs (fun I' L' q h1 h2 g' gl' h19 h18' => ?_) (fun I' L' q pt' x len' h12 e g' gl' x' cs' => absurd h12 (by omega))
    refine hQ I' L' (badK I' L' q ?_ (g.trans g') (gl.trans gl') h19 h18')
    rw [hr, h2 (by omega)]
    rfl
  | succ f ih =>
    intro p pt len l I L Q' hf hr hx hcs g gl hQ
    have hrt : rText t false (f + 1) p pt l = match rClause t false p pt with
      | .inl q => .inl q
      | .inr (q, pt', x) => if tkK t q = 0 then .inr (l ++ [x]) else if isG t q 59 then rText t false f (nx t q) pt' (l ++ [x]) else .inl q := rfl
    refine m_readLaw (by omega) hG hx hcs (fun I' L' q h1 h2 g' gl' h19 h18' => ?_) (fun I' L' q pt' x len' h12 e g' gl' x' cs' => ?_)
    · refine hQ I' L' (badK I' L' q ?_ (g.trans g') (gl.trans gl') h19 h18')
      rw [hr, hrt, h1 (by omega)]
    · rw [e] at hrt
      have hrt : rText t false (f + 1) p pt l = if tkK t q = 0 then .inr (l ++ [x]) else if isG t q 59 then rText t false f (nx t q) pt' (l ++ [x]) else .inl q := hrt
      have hle := x'.le
      have h18' : I' 123 18 = -1 := x'.1.2.2.2.2.2.2
      refine hQ I' L' ?_
      refine w_X11_law_37 (d1 := 8) hG (by omega) ?_
      rw [x'.2.2.2.1, if_pos rfl]
      refine m_sign (c := 59) hG x'.1 (by decide) (fun hn => ?_) (fun hy => ?_)
      · refine w_X11_law_50 (d1 := 8) hG (by omega) ?_
        rw [if_pos rfl]
        refine m_endText hG (by omega) x' (fun h0 => ?_) (fun h0 => ?_)
        · rw [if_pos h0] at hrt
          exact kS I' L' _ len' (hr.trans hrt) (g.trans g') (gl.trans gl') x'.2.2.2.1 h18' x'.2.2.2.2.2.1 (by omega) cs'
        · rw [if_neg h0, if_neg hn] at hrt
          exact kF _ L' q (hr.trans hrt) ((g.trans g').trans (mBad_X q I').G) (gl.trans gl') (by unfold mBad; rw [sm_st_j _ _ (by decide), sm_st_s]) (by unfold mBad; rw [sm_st_s])
      · have hlt := isG_lt hy
        rw [if_neg (by rw [hy.1]; decide), if_pos hy] at hrt
        refine w_X11_law_50 (d1 := 8) hG (by omega) ?_
        rw [if_neg (by decide)]
        refine m_next (by omega) hG x'.1 ?_
        intro I2 L2 f2 g2 r2
        refine w_X11_law_57 (d1 := 8) hG (by omega) ?_
        refine ih (nx t q) pt' len' (l ++ [x]) I2 L2 _ (by simp; omega) (hr.trans hrt) (x'.nx f2 g2 (by omega) r2) ?_ ((g.trans g').trans f2.X.G) ((gl.trans gl').trans g2) (fun I3 L3 h => w_X11_law_61 h)
        exact ⟨(f2 123 21 (by omega)).trans cs'.1, cs'.2.1, fun c z hz => (cs'.2.2 c z hz).mono (by decide) (fun j _ _ => f2 133 j (by omega)) (Nat.le_refl _) (fun k _ => by rw [f2.cd])⟩
set_option maxHeartbeats 1000000 in
theorem lp_ordersT {ex : sm_O} {d n : Nat} {y : sm_Y} {R : Nat → Nat → Option Nat} {Q : sm_Q} {t : Tp} {I0 : Nat → Nat → Int32} {L0 : Nat → Nat → Int64} {w1 w2 w3 : Option Value} (hd : 9 ≤ d) (hG : sm_G y R)
    (kF : ∀ (I' : Nat → Nat → Int32) (L' : Nat → Nat → Int64) (q : Nat), rAll t true = .inl q → mG I0 I' → mL1 L0 L' → I' 123 19 = 1 → I' 123 18 = nI q → sm_W ex d 0 0 231 50 [some (.ref 123), w1, w2, w3] [] (n, y, mEnd I', L', R) Q)
    (kS : ∀ (I' : Nat → Nat → Int32) (L' : Nat → Nat → Int64) (l' : List OC) (len' : Nat), rAll t true = .inr l' → mG I0 I' → mL1 L0 L' → I' 123 19 = 0 → I' 123 18 = -1 → I' 123 23 = nI len' → len' ≤ 400 → mCs true 154 1 I' len' l' → sm_W ex d 0 0 231 50 [some (.ref 123), w1, w2, w3] [] (n, y, mEnd I', L', R) Q) :
    ∀ (f p pt len : Nat) (l : List OC) (I : Nat → Nat → Int32) (L : Nat → Nat → Int64) (Q' : sm_Q), f + l.length = 12 → rAll t true = rText t true f p pt l → mE t true I L p pt len → mCs true 154 1 I len l → mG I0 I → mL1 L0 L → (∀ (I' : Nat → Nat → Int32) (L' : Nat → Nat → Int64), sm_W ex d 0 0 231 19 [some (.ref 123), w1, w2, w3] [] (n, y, I', L', R) Q → Q' none (n, y, I', L', R)) → sm_W ex 8 0 0 227 0 [some (.ref 123), none, none, none] [] (n, y, I, L, R) Q' := by
  intro f
  have badK : ∀ (I' : Nat → Nat → Int32) (L' : Nat → Nat → Int64) (q : Nat), rAll t true = .inl q → mG I0 I' → mL1 L0 L' → I' 123 19 = 1 → I' 123 18 = nI q → sm_W ex d 0 0 231 19 [some (.ref 123), w1, w2, w3] [] (n, y, I', L', R) Q := fun I' L' q e g gl h19 h18 => by
    refine w_X11_orders_19 (d1 := 8) hG (by omega) ?_
    rw [h19, if_neg (by decide)]
    exact m_endBad hG (by omega) h19 (kF I' L' q e g gl h19 h18)
  induction f with
  | zero =>
    intro p pt len l I L Q' hf hr hx hcs g gl hQ
    refine m_readOrder (by omega) hG hx hcs (fun I' L' q h1 h2 g' gl' h19 h18' => ?_) (fun I' L' q pt' x len' h12 e g' gl' x' cs' => absurd h12 (by omega))
    refine hQ I' L' (badK I' L' q ?_ (g.trans g') (gl.trans gl') h19 h18')
    rw [hr, h2 (by omega)]
    rfl
  | succ f ih =>
    intro p pt len l I L Q' hf hr hx hcs g gl hQ
    have hrt : rText t true (f + 1) p pt l = match rClause t true p pt with
      | .inl q => .inl q
      | .inr (q, pt', x) => if tkK t q = 0 then .inr (l ++ [x]) else if isG t q 59 then rText t true f (nx t q) pt' (l ++ [x]) else .inl q := rfl
    refine m_readOrder (by omega) hG hx hcs (fun I' L' q h1 h2 g' gl' h19 h18' => ?_) (fun I' L' q pt' x len' h12 e g' gl' x' cs' => ?_)
    · refine hQ I' L' (badK I' L' q ?_ (g.trans g') (gl.trans gl') h19 h18')
      rw [hr, hrt, h1 (by omega)]
    · rw [e] at hrt
      have hrt : rText t true (f + 1) p pt l = if tkK t q = 0 then .inr (l ++ [x]) else if isG t q 59 then rText t true f (nx t q) pt' (l ++ [x]) else .inl q := hrt
      have hle := x'.le
      have h18' : I' 123 18 = -1 := x'.1.2.2.2.2.2.2
      refine hQ I' L' ?_
      refine w_X11_orders_19 (d1 := 8) hG (by omega) ?_
      rw [x'.2.2.2.1, if_pos rfl]
      refine m_sign (c := 59) hG x'.1 (by decide) (fun hn => ?_) (fun hy => ?_)
      · refine w_X11_orders_32 (d1 := 8) hG (by omega) ?_
        rw [if_pos rfl]
        refine m_endText hG (by omega) x' (fun h0 => ?_) (fun h0 => ?_)
        · rw [if_pos h0] at hrt
          exact kS I' L' _ len' (hr.trans hrt) (g.trans g') (gl.trans gl') x'.2.2.2.1 h18' x'.2.2.2.2.2.1 (by omega) cs'
        · rw [if_neg h0, if_neg hn] at hrt
          exact kF _ L' q (hr.trans hrt) ((g.trans g').trans (mBad_X q I').G) (gl.trans gl') (by unfold mBad; rw [sm_st_j _ _ (by decide), sm_st_s]) (by unfold mBad; rw [sm_st_s])
      · have hlt := isG_lt hy
        rw [if_neg (by rw [hy.1]; decide), if_pos hy] at hrt
        refine w_X11_orders_32 (d1 := 8) hG (by omega) ?_
        rw [if_neg (by decide)]
        refine m_next (by omega) hG x'.1 ?_
        intro I2 L2 f2 g2 r2
        refine w_X11_orders_39 (d1 := 8) hG (by omega) ?_
        refine ih (nx t q) pt' len' (l ++ [x]) I2 L2 _ (by simp; omega) (hr.trans hrt) (x'.nx f2 g2 (by omega) r2) ?_ ((g.trans g').trans f2.X.G) ((gl.trans gl').trans g2) (fun I3 L3 h => w_X11_orders_43 h)
        exact ⟨(f2 123 21 (by omega)).trans cs'.1, cs'.2.1, fun c z hz => (cs'.2.2 c z hz).mono (by decide) (fun j _ _ => f2 154 j (by omega)) (Nat.le_refl _) (fun k _ => by rw [f2.cd])⟩

