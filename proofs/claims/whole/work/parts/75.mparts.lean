set_option maxRecDepth 100000 in
theorem w_X11_partAt_0 {ex : sm_O} {d n : Nat} {y : sm_Y} {I : Nat → Nat → Int32} {L : Nat → Nat → Int64} {R : Nat → Nat → Option Nat} {Q : sm_Q} {w1 : Option Value} {w2 : Option Value} (k : sm_W ex d 0 0 166 4 [some (.ref 123), some (.int (-1)), some (.int 0)] [] (n, y, I, L, R) Q) : sm_W ex d 0 0 166 0 [some (.ref 123), w1, w2] [] (n, y, I, L, R) Q := sm_in (sm_in (And.intro (Nat.le_of_ble_eq_true rfl) (sm_in (sm_in (And.intro (Nat.le_of_ble_eq_true rfl) (k))))))
set_option maxRecDepth 100000 in
theorem w_X11_partAt_4 {ex : sm_O} {d n : Nat} {y : sm_Y} {I : Nat → Nat → Int32} {L : Nat → Nat → Int64} {R : Nat → Nat → Option Nat} {Q : sm_Q} {a1 : Int32} {a2 : Int32} {d1 : Nat} (hG : sm_G y R) (h1 : d1 < d) (k : if 8 ≤ a2 then (Q (some (.int a1)) (n, y, I, L, R)) else (vp_in a2 8 ∧ sm_W ex d1 0 0 155 0 [some (.ref 123), some (.long (L 138 a2.toNatClampNeg)), none] [] (n, y, I, L, R) (fun r μ1 => sm_W ex d 0 0 166 20 [some (.ref 123), some (.int a1), some (.int a2)] (r.toList ++ []) μ1 Q))) : sm_W ex d 0 0 166 4 [some (.ref 123), some (.int a1), some (.int a2)] [] (n, y, I, L, R) Q := sm_in (sm_in (sm_in (And.intro (fun c1 => have k1t := Eq.mp (if_pos c1) k; sm_in (sm_in (And.intro rfl k1t))) (fun c1 => have k1f := Eq.mp (if_neg c1) k; sm_in (sm_in (sm_in (And.intro (hG.1 123 (Nat.le_of_ble_eq_true rfl)) (sm_gfr rfl (hG.2 123 31 rfl) (sm_in ((have e2 := k1f.1; have k2 := k1f.2; sm_in (Exists.intro 8 (And.intro (hG.1 138 (Nat.le_of_ble_eq_true rfl)) (And.intro e2 (sm_in (Exists.intro 11 (And.intro (hG.1 123 (Nat.le_of_ble_eq_true rfl)) (And.intro rfl (sm_calln h1 (Nat.le_of_ble_eq_true rfl) (Nat.le_of_ble_eq_true rfl) k2)))))))))))))))))))
set_option maxRecDepth 100000 in
theorem w_X11_partAt_20 {ex : sm_O} {d n : Nat} {y : sm_Y} {I : Nat → Nat → Int32} {L : Nat → Nat → Int64} {R : Nat → Nat → Option Nat} {Q : sm_Q} {a1 : Int32} {a2 : Int32} {s0 : Int32} (k : if s0 = 0 then (sm_W ex d 0 0 166 4 [some (.ref 123), some (.int a1), some (.int (a2 + 1))] [] (n, y, I, L, R) Q) else (sm_W ex d 0 0 166 4 [some (.ref 123), some (.int (a2 + 1)), some (.int (a2 + 1))] [] (n, y, I, L, R) Q)) : sm_W ex d 0 0 166 20 [some (.ref 123), some (.int a1), some (.int a2)] [.int s0] (n, y, I, L, R) Q := sm_in (And.intro (fun c1 => have k1t := Eq.mp (if_pos c1) k; sm_in (sm_in (And.intro (Nat.le_of_ble_eq_true rfl) (sm_in (And.intro (Nat.le_of_ble_eq_true rfl) (sm_in (k1t))))))) (fun c1 => have k1f := Eq.mp (if_neg c1) k; sm_in (sm_in (sm_in (sm_in (sm_in (And.intro (Nat.le_of_ble_eq_true rfl) (sm_in (And.intro (Nat.le_of_ble_eq_true rfl) (sm_in (k1f)))))))))))
set_option maxRecDepth 100000 in
theorem w_X11_orderPartAt_0 {ex : sm_O} {d n : Nat} {y : sm_Y} {I : Nat → Nat → Int32} {L : Nat → Nat → Int64} {R : Nat → Nat → Option Nat} {Q : sm_Q} {w1 : Option Value} {w2 : Option Value} (k : sm_W ex d 0 0 167 4 [some (.ref 123), some (.int (-1)), some (.int 0)] [] (n, y, I, L, R) Q) : sm_W ex d 0 0 167 0 [some (.ref 123), w1, w2] [] (n, y, I, L, R) Q := sm_in (sm_in (And.intro (Nat.le_of_ble_eq_true rfl) (sm_in (sm_in (And.intro (Nat.le_of_ble_eq_true rfl) (k))))))
set_option maxRecDepth 100000 in
theorem w_X11_orderPartAt_4 {ex : sm_O} {d n : Nat} {y : sm_Y} {I : Nat → Nat → Int32} {L : Nat → Nat → Int64} {R : Nat → Nat → Option Nat} {Q : sm_Q} {a1 : Int32} {a2 : Int32} {d1 : Nat} (hG : sm_G y R) (h1 : d1 < d) (k : if 7 ≤ a2 then (Q (some (.int a1)) (n, y, I, L, R)) else (vp_in a2 7 ∧ sm_W ex d1 0 0 155 0 [some (.ref 123), some (.long (L 139 a2.toNatClampNeg)), none] [] (n, y, I, L, R) (fun r μ1 => sm_W ex d 0 0 167 20 [some (.ref 123), some (.int a1), some (.int a2)] (r.toList ++ []) μ1 Q))) : sm_W ex d 0 0 167 4 [some (.ref 123), some (.int a1), some (.int a2)] [] (n, y, I, L, R) Q := sm_in (sm_in (sm_in (And.intro (fun c1 => have k1t := Eq.mp (if_pos c1) k; sm_in (sm_in (And.intro rfl k1t))) (fun c1 => have k1f := Eq.mp (if_neg c1) k; sm_in (sm_in (sm_in (And.intro (hG.1 123 (Nat.le_of_ble_eq_true rfl)) (sm_gfr rfl (hG.2 123 32 rfl) (sm_in ((have e2 := k1f.1; have k2 := k1f.2; sm_in (Exists.intro 7 (And.intro (hG.1 139 (Nat.le_of_ble_eq_true rfl)) (And.intro e2 (sm_in (Exists.intro 11 (And.intro (hG.1 123 (Nat.le_of_ble_eq_true rfl)) (And.intro rfl (sm_calln h1 (Nat.le_of_ble_eq_true rfl) (Nat.le_of_ble_eq_true rfl) k2)))))))))))))))))))
set_option maxRecDepth 100000 in
theorem w_X11_orderPartAt_20 {ex : sm_O} {d n : Nat} {y : sm_Y} {I : Nat → Nat → Int32} {L : Nat → Nat → Int64} {R : Nat → Nat → Option Nat} {Q : sm_Q} {a1 : Int32} {a2 : Int32} {s0 : Int32} (k : if s0 = 0 then (sm_W ex d 0 0 167 4 [some (.ref 123), some (.int a1), some (.int (a2 + 1))] [] (n, y, I, L, R) Q) else (sm_W ex d 0 0 167 4 [some (.ref 123), some (.int (a2 + 1)), some (.int (a2 + 1))] [] (n, y, I, L, R) Q)) : sm_W ex d 0 0 167 20 [some (.ref 123), some (.int a1), some (.int a2)] [.int s0] (n, y, I, L, R) Q := sm_in (And.intro (fun c1 => have k1t := Eq.mp (if_pos c1) k; sm_in (sm_in (And.intro (Nat.le_of_ble_eq_true rfl) (sm_in (And.intro (Nat.le_of_ble_eq_true rfl) (sm_in (k1t))))))) (fun c1 => have k1f := Eq.mp (if_neg c1) k; sm_in (sm_in (sm_in (sm_in (sm_in (And.intro (Nat.le_of_ble_eq_true rfl) (sm_in (And.intro (Nat.le_of_ble_eq_true rfl) (sm_in (k1f)))))))))))
set_option maxRecDepth 100000 in
theorem w_X11_openBracket_0 {ex : sm_O} {d n : Nat} {y : sm_Y} {I : Nat → Nat → Int32} {L : Nat → Nat → Int64} {R : Nat → Nat → Option Nat} {Q : sm_Q} {w1 : Option Value} {d1 : Nat} (hG : sm_G y R) (h1 : d1 < d) (k : if 8 ≤ (I 123 30) then (sm_W ex d1 0 0 157 0 [some (.ref 123), some (.int 0)] [] (n, y, I, L, R) (fun r μ1 => sm_W ex d 0 0 168 18 [some (.ref 123), w1] (r.toList ++ []) μ1 Q)) else (sm_W ex d1 0 0 157 0 [some (.ref 123), some (.int 1)] [] (n, y, I, L, R) (fun r μ1 => sm_W ex d 0 0 168 18 [some (.ref 123), w1] (r.toList ++ []) μ1 Q))) : sm_W ex d 0 0 168 0 [some (.ref 123), w1] [] (n, y, I, L, R) Q := sm_in (sm_in (sm_in (And.intro (hG.1 123 (Nat.le_of_ble_eq_true rfl)) (sm_in (sm_in (And.intro (fun c1 => have k1t := Eq.mp (if_pos c1) k; sm_in (sm_in (Exists.intro 11 (And.intro (hG.1 123 (Nat.le_of_ble_eq_true rfl)) (And.intro rfl (sm_calln h1 (Nat.le_of_ble_eq_true rfl) (Nat.le_of_ble_eq_true rfl) k1t)))))) (fun c1 => have k1f := Eq.mp (if_neg c1) k; sm_in (sm_in (sm_in (Exists.intro 11 (And.intro (hG.1 123 (Nat.le_of_ble_eq_true rfl)) (And.intro rfl (sm_calln h1 (Nat.le_of_ble_eq_true rfl) (Nat.le_of_ble_eq_true rfl) k1f)))))))))))))
set_option maxRecDepth 100000 in
theorem w_X11_openBracket_18 {ex : sm_O} {d n : Nat} {y : sm_Y} {I : Nat → Nat → Int32} {L : Nat → Nat → Int64} {R : Nat → Nat → Option Nat} {Q : sm_Q} {a1 : Int32} {d1 : Nat} (hG : sm_G y R) (h1 : d1 < d) (k : if (I 123 19) = 0 then (sm_W ex d1 0 0 161 0 [some (.ref 123), some (.int a1), some (.int 0)] [] (n, y, sm_st I 123 30 ((I 123 30) + 1), L, R) (fun r μ1 => sm_W ex d 0 0 168 41 [some (.ref 123), some (.int a1)] (r.toList ++ []) μ1 Q)) else (sm_W ex d 0 0 168 41 [some (.ref 123), some (.int a1)] [] (n, y, I, L, R) Q)) : sm_W ex d 0 0 168 18 [some (.ref 123), some (.int a1)] [] (n, y, I, L, R) Q := sm_in (sm_in (And.intro (hG.1 123 (Nat.le_of_ble_eq_true rfl)) (sm_in (And.intro (fun c1 => have k1f := Eq.mp (if_neg c1) k; k1f) (fun c1 => have k1t := Eq.mp (if_pos c1) k; sm_in (sm_in (And.intro rfl (sm_in (And.intro (hG.1 123 (Nat.le_of_ble_eq_true rfl)) (sm_in (sm_in (sm_in (And.intro (hG.1 123 (Nat.le_of_ble_eq_true rfl)) (sm_in (sm_in (sm_in (sm_in (Exists.intro 11 (And.intro (hG.1 123 (Nat.le_of_ble_eq_true rfl)) (And.intro rfl (sm_calln h1 (Nat.le_of_ble_eq_true rfl) (Nat.le_of_ble_eq_true rfl) k1t)))))))))))))))))))))
set_option maxRecDepth 100000 in
theorem w_X11_openBracket_41 {ex : sm_O} {d n : Nat} {y : sm_Y} {I : Nat → Nat → Int32} {L : Nat → Nat → Int64} {R : Nat → Nat → Option Nat} {Q : sm_Q} {w0 : Option Value} {w1 : Option Value} (k : Q none (n, y, I, L, R)) : sm_W ex d 0 0 168 41 [w0, w1] [] (n, y, I, L, R) Q := sm_in (And.intro rfl (And.intro rfl k))
set_option maxRecDepth 100000 in
theorem w_X11_leaf_0 {ex : sm_O} {d n : Nat} {y : sm_Y} {I : Nat → Nat → Int32} {L : Nat → Nat → Int64} {R : Nat → Nat → Option Nat} {Q : sm_Q} {w2 : Option Value} {w3 : Option Value} {a1 : Int32} {d1 : Nat} (hG : sm_G y R) (h1 : d1 < d) (k : if a1 = 0 then (sm_W ex d1 0 0 157 0 [some (.ref 123), some (.int 0)] [] (n, y, I, L, R) (fun r μ1 => sm_W ex d 0 0 169 22 [some (.ref 123), some (.int a1), w2, w3] (r.toList ++ []) μ1 Q)) else (if 50 ≤ (I 123 26) then (sm_W ex d1 0 0 157 0 [some (.ref 123), some (.int 0)] [] (n, y, I, L, R) (fun r μ1 => sm_W ex d 0 0 169 22 [some (.ref 123), some (.int a1), w2, w3] (r.toList ++ []) μ1 Q)) else (sm_W ex d1 0 0 157 0 [some (.ref 123), some (.int 1)] [] (n, y, I, L, R) (fun r μ1 => sm_W ex d 0 0 169 22 [some (.ref 123), some (.int a1), w2, w3] (r.toList ++ []) μ1 Q)))) : sm_W ex d 0 0 169 0 [some (.ref 123), some (.int a1), w2, w3] [] (n, y, I, L, R) Q := sm_in (sm_in (sm_in (And.intro (fun c1 => have k1t := Eq.mp (if_pos c1) k; sm_in (sm_in (Exists.intro 11 (And.intro (hG.1 123 (Nat.le_of_ble_eq_true rfl)) (And.intro rfl (sm_calln h1 (Nat.le_of_ble_eq_true rfl) (Nat.le_of_ble_eq_true rfl) k1t)))))) (fun c1 => have k1f := Eq.mp (if_neg c1) k; sm_in (sm_in (And.intro (hG.1 123 (Nat.le_of_ble_eq_true rfl)) (sm_in (sm_in (And.intro (fun c2 => have k2t := Eq.mp (if_pos c2) k1f; sm_in (sm_in (Exists.intro 11 (And.intro (hG.1 123 (Nat.le_of_ble_eq_true rfl)) (And.intro rfl (sm_calln h1 (Nat.le_of_ble_eq_true rfl) (Nat.le_of_ble_eq_true rfl) k2t)))))) (fun c2 => have k2f := Eq.mp (if_neg c2) k1f; sm_in (sm_in (sm_in (Exists.intro 11 (And.intro (hG.1 123 (Nat.le_of_ble_eq_true rfl)) (And.intro rfl (sm_calln h1 (Nat.le_of_ble_eq_true rfl) (Nat.le_of_ble_eq_true rfl) k2f))))))))))))))))
set_option maxRecDepth 100000 in
theorem w_X11_leaf_22 {ex : sm_O} {d n : Nat} {y : sm_Y} {I : Nat → Nat → Int32} {L : Nat → Nat → Int64} {R : Nat → Nat → Option Nat} {Q : sm_Q} {w1 : Option Value} {a2 : Int32} {a3 : Int32} {d1 : Nat} (hG : sm_G y R) (h1 : d1 < d) (k : if (I 123 19) = 0 then (sm_W ex d1 0 0 160 0 [some (.ref 123), some (.int a2), some (.int a3)] [] (n, y, I, L, R) (fun r μ1 => sm_W ex d 0 0 169 35 [some (.ref 123), w1, some (.int a2), some (.int a3)] (r.toList ++ []) μ1 Q)) else (Q none (n, y, I, L, R))) : sm_W ex d 0 0 169 22 [some (.ref 123), w1, some (.int a2), some (.int a3)] [] (n, y, I, L, R) Q := sm_in (sm_in (And.intro (hG.1 123 (Nat.le_of_ble_eq_true rfl)) (sm_in (And.intro (fun c1 => have k1f := Eq.mp (if_neg c1) k; sm_in (And.intro rfl (And.intro rfl k1f))) (fun c1 => have k1t := Eq.mp (if_pos c1) k; sm_in (sm_in (sm_in (sm_in (Exists.intro 11 (And.intro (hG.1 123 (Nat.le_of_ble_eq_true rfl)) (And.intro rfl (sm_calln h1 (Nat.le_of_ble_eq_true rfl) (Nat.le_of_ble_eq_true rfl) k1t))))))))))))
set_option maxRecDepth 100000 in
theorem w_X11_leaf_35 {ex : sm_O} {d n : Nat} {y : sm_Y} {I : Nat → Nat → Int32} {L : Nat → Nat → Int64} {R : Nat → Nat → Option Nat} {Q : sm_Q} {w1 : Option Value} {w2 : Option Value} {w3 : Option Value} (hG : sm_G y R) (k : Q none (n, y, sm_st I 123 26 ((I 123 26) + 1), L, R)) : sm_W ex d 0 0 169 35 [some (.ref 123), w1, w2, w3] [] (n, y, I, L, R) Q := sm_in (sm_in (And.intro rfl (sm_in (And.intro (hG.1 123 (Nat.le_of_ble_eq_true rfl)) (sm_in (sm_in (sm_in (And.intro (hG.1 123 (Nat.le_of_ble_eq_true rfl)) (sm_in (And.intro rfl (And.intro rfl k)))))))))))
set_option maxRecDepth 100000 in
theorem w_X11_readPart_0 {ex : sm_O} {d n : Nat} {y : sm_Y} {I : Nat → Nat → Int32} {L : Nat → Nat → Int64} {R : Nat → Nat → Option Nat} {Q : sm_Q} {w1 : Option Value} {w2 : Option Value} {w3 : Option Value} {d1 : Nat} (hG : sm_G y R) (h1 : d1 < d) (k : sm_W ex d1 0 0 156 0 [some (.ref 123), some (.int 91)] [] (n, y, I, L, R) (fun r μ1 => sm_W ex d 0 0 170 6 [some (.ref 123), w1, w2, w3] (r.toList ++ []) μ1 Q)) : sm_W ex d 0 0 170 0 [some (.ref 123), w1, w2, w3] [] (n, y, I, L, R) Q := sm_in (sm_in (sm_in (Exists.intro 11 (And.intro (hG.1 123 (Nat.le_of_ble_eq_true rfl)) (And.intro rfl (sm_calln h1 (Nat.le_of_ble_eq_true rfl) (Nat.le_of_ble_eq_true rfl) k))))))
set_option maxRecDepth 100000 in
theorem w_X11_readPart_6 {ex : sm_O} {d n : Nat} {y : sm_Y} {I : Nat → Nat → Int32} {L : Nat → Nat → Int64} {R : Nat → Nat → Option Nat} {Q : sm_Q} {w1 : Option Value} {w2 : Option Value} {w3 : Option Value} {s0 : Int32} {d1 : Nat} (hG : sm_G y R) (h1 : d1 < d) (k : if s0 = 0 then (if (I 123 20) = 0 then (sm_W ex d1 0 0 166 0 [some (.ref 123), none, none] [] (n, y, I, L, R) (fun r μ1 => sm_W ex d 0 0 170 35 [some (.ref 123), w1, w2, w3] (r.toList ++ []) μ1 Q)) else (sm_W ex d1 0 0 167 0 [some (.ref 123), none, none] [] (n, y, I, L, R) (fun r μ1 => sm_W ex d 0 0 170 28 [some (.ref 123), w1, w2, w3] (r.toList ++ []) μ1 Q))) else (sm_W ex d1 0 0 168 0 [some (.ref 123), some (.int 32)] [] (n, y, I, L, R) (fun r μ1 => sm_W ex d 0 0 170 15 [some (.ref 123), w1, w2, w3] (r.toList ++ []) μ1 Q))) : sm_W ex d 0 0 170 6 [some (.ref 123), w1, w2, w3] [.int s0] (n, y, I, L, R) Q := sm_in (And.intro (fun c1 => have k1t := Eq.mp (if_pos c1) k; sm_in (sm_in (And.intro (hG.1 123 (Nat.le_of_ble_eq_true rfl)) (sm_in (And.intro (fun c2 => have k2t := Eq.mp (if_pos c2) k1t; sm_in (sm_in (Exists.intro 11 (And.intro (hG.1 123 (Nat.le_of_ble_eq_true rfl)) (And.intro rfl (sm_calln h1 (Nat.le_of_ble_eq_true rfl) (Nat.le_of_ble_eq_true rfl) k2t)))))) (fun c2 => have k2f := Eq.mp (if_neg c2) k1t; sm_in (sm_in (Exists.intro 11 (And.intro (hG.1 123 (Nat.le_of_ble_eq_true rfl)) (And.intro rfl (sm_calln h1 (Nat.le_of_ble_eq_true rfl) (Nat.le_of_ble_eq_true rfl) k2f))))))))))) (fun c1 => have k1f := Eq.mp (if_neg c1) k; sm_in (sm_in (sm_in (Exists.intro 11 (And.intro (hG.1 123 (Nat.le_of_ble_eq_true rfl)) (And.intro rfl (sm_calln h1 (Nat.le_of_ble_eq_true rfl) (Nat.le_of_ble_eq_true rfl) k1f))))))))
set_option maxRecDepth 100000 in
theorem w_X11_readPart_15 {ex : sm_O} {d n : Nat} {y : sm_Y} {I : Nat → Nat → Int32} {L : Nat → Nat → Int64} {R : Nat → Nat → Option Nat} {Q : sm_Q} {w0 : Option Value} {w1 : Option Value} {w2 : Option Value} {w3 : Option Value} (k : Q (some (.int 1)) (n, y, I, L, R)) : sm_W ex d 0 0 170 15 [w0, w1, w2, w3] [] (n, y, I, L, R) Q := sm_in (sm_in (And.intro rfl k))
set_option maxRecDepth 100000 in
theorem w_X11_readPart_28 {ex : sm_O} {d n : Nat} {y : sm_Y} {I : Nat → Nat → Int32} {L : Nat → Nat → Int64} {R : Nat → Nat → Option Nat} {Q : sm_Q} {w0 : Option Value} {w1 : Option Value} {w2 : Option Value} {w3 : Option Value} {s0 : Int32} (k : sm_W ex d 0 0 170 35 [w0, w1, w2, w3] [.int s0] (n, y, I, L, R) Q) : sm_W ex d 0 0 170 28 [w0, w1, w2, w3] [.int s0] (n, y, I, L, R) Q := sm_in (k)
set_option maxRecDepth 100000 in
theorem w_X11_readPart_35 {ex : sm_O} {d n : Nat} {y : sm_Y} {I : Nat → Nat → Int32} {L : Nat → Nat → Int64} {R : Nat → Nat → Option Nat} {Q : sm_Q} {w1 : Option Value} {w2 : Option Value} {w3 : Option Value} {s0 : Int32} (hG : sm_G y R) (k : if (I 123 16) = 2 then (if 0 < (lg_cmp (L 123 17) 1000) then (sm_W ex d 0 0 170 59 [some (.ref 123), some (.int s0), w2, w3] [] (n, y, I, L, R) Q) else (sm_W ex d 0 0 170 60 [some (.ref 123), some (.int s0), w2, w3] [.int 1] (n, y, I, L, R) Q)) else (sm_W ex d 0 0 170 59 [some (.ref 123), some (.int s0), w2, w3] [] (n, y, I, L, R) Q)) : sm_W ex d 0 0 170 35 [some (.ref 123), w1, w2, w3] [.int s0] (n, y, I, L, R) Q := sm_in (And.intro (Nat.le_of_ble_eq_true rfl) (sm_in (sm_in (And.intro (hG.1 123 (Nat.le_of_ble_eq_true rfl)) (sm_in (sm_in (And.intro (fun c1 => have k1f := Eq.mp (if_neg c1) k; k1f) (fun c1 => have k1t := Eq.mp (if_pos c1) k; sm_in (sm_in (And.intro (hG.1 123 (Nat.le_of_ble_eq_true rfl)) (sm_in (sm_in (sm_in (And.intro (fun c2 => have k2t := Eq.mp (if_pos c2) k1t; k2t) (fun c2 => have k2f := Eq.mp (if_neg c2) k1t; sm_in (sm_in (k2f)))))))))))))))))
set_option maxRecDepth 100000 in
theorem w_X11_readPart_59 {ex : sm_O} {d n : Nat} {y : sm_Y} {I : Nat → Nat → Int32} {L : Nat → Nat → Int64} {R : Nat → Nat → Option Nat} {Q : sm_Q} {w0 : Option Value} {w1 : Option Value} {w2 : Option Value} {w3 : Option Value} (k : sm_W ex d 0 0 170 60 [w0, w1, w2, w3] [.int 0] (n, y, I, L, R) Q) : sm_W ex d 0 0 170 59 [w0, w1, w2, w3] [] (n, y, I, L, R) Q := sm_in (k)
set_option maxRecDepth 100000 in
theorem w_X11_readPart_60 {ex : sm_O} {d n : Nat} {y : sm_Y} {I : Nat → Nat → Int32} {L : Nat → Nat → Int64} {R : Nat → Nat → Option Nat} {Q : sm_Q} {w2 : Option Value} {w3 : Option Value} {a1 : Int32} {s0 : Int32} (k : if a1 = (-1) then (if s0 = 0 then (sm_W ex d 0 0 170 76 [some (.ref 123), some (.int a1), some (.int s0), w3] [.int 0, .ref 123] (n, y, I, L, R) Q) else (sm_W ex d 0 0 170 71 [some (.ref 123), some (.int a1), some (.int s0), w3] [.ref 123] (n, y, I, L, R) Q)) else (sm_W ex d 0 0 170 71 [some (.ref 123), some (.int a1), some (.int s0), w3] [.ref 123] (n, y, I, L, R) Q)) : sm_W ex d 0 0 170 60 [some (.ref 123), some (.int a1), w2, w3] [.int s0] (n, y, I, L, R) Q := sm_in (And.intro (Nat.le_of_ble_eq_true rfl) (sm_in (sm_in (sm_in (sm_in (And.intro (fun c1 => have k1f := Eq.mp (if_neg c1) k; k1f) (fun c1 => have k1t := Eq.mp (if_pos c1) k; sm_in (sm_in (And.intro (fun c2 => have k2t := Eq.mp (if_pos c2) k1t; sm_in (k2t)) (fun c2 => have k2f := Eq.mp (if_neg c2) k1t; k2f))))))))))
set_option maxRecDepth 100000 in
theorem w_X11_readPart_71 {ex : sm_O} {d n : Nat} {y : sm_Y} {I : Nat → Nat → Int32} {L : Nat → Nat → Int64} {R : Nat → Nat → Option Nat} {Q : sm_Q} {w0 : Option Value} {w1 : Option Value} {w2 : Option Value} {w3 : Option Value} (k : sm_W ex d 0 0 170 76 [w0, w1, w2, w3] [.int 1, .ref 123] (n, y, I, L, R) Q) : sm_W ex d 0 0 170 71 [w0, w1, w2, w3] [.ref 123] (n, y, I, L, R) Q := sm_in (sm_in (k))
set_option maxRecDepth 100000 in
theorem w_X11_readPart_76 {ex : sm_O} {d n : Nat} {y : sm_Y} {I : Nat → Nat → Int32} {L : Nat → Nat → Int64} {R : Nat → Nat → Option Nat} {Q : sm_Q} {w0 : Option Value} {w2 : Option Value} {w3 : Option Value} {a1 : Int32} {s0 : Int32} (k : if a1 = (-1) then (sm_W ex d 0 0 170 86 [w0, some (.int a1), w2, w3] [.int 0, .int s0, .ref 123] (n, y, I, L, R) Q) else (sm_W ex d 0 0 170 86 [w0, some (.int a1), w2, w3] [.int a1, .int s0, .ref 123] (n, y, I, L, R) Q)) : sm_W ex d 0 0 170 76 [w0, some (.int a1), w2, w3] [.int s0, .ref 123] (n, y, I, L, R) Q := sm_in (sm_in (sm_in (And.intro (fun c1 => have k1f := Eq.mp (if_neg c1) k; sm_in (k1f)) (fun c1 => have k1t := Eq.mp (if_pos c1) k; sm_in (sm_in (k1t))))))
set_option maxRecDepth 100000 in
theorem w_X11_readPart_86 {ex : sm_O} {d n : Nat} {y : sm_Y} {I : Nat → Nat → Int32} {L : Nat → Nat → Int64} {R : Nat → Nat → Option Nat} {Q : sm_Q} {w1 : Option Value} {w3 : Option Value} {a2 : Int32} {s0 : Int32} {s1 : Int32} (hG : sm_G y R) (k : if a2 = 0 then (sm_W ex d 0 0 170 99 [some (.ref 123), w1, some (.int a2), w3] [.int 0, .int s0, .int s1, .ref 123] (n, y, I, L, R) Q) else (sm_W ex d 0 0 170 99 [some (.ref 123), w1, some (.int a2), w3] [.int ((L 123 17).toInt32), .int s0, .int s1, .ref 123] (n, y, I, L, R) Q)) : sm_W ex d 0 0 170 86 [some (.ref 123), w1, some (.int a2), w3] [.int s0, .int s1, .ref 123] (n, y, I, L, R) Q := sm_in (sm_in (And.intro (fun c1 => have k1t := Eq.mp (if_pos c1) k; sm_in (k1t)) (fun c1 => have k1f := Eq.mp (if_neg c1) k; sm_in (sm_in (And.intro (hG.1 123 (Nat.le_of_ble_eq_true rfl)) (sm_in (sm_in (k1f))))))))
set_option maxRecDepth 100000 in
theorem w_X11_readPart_99 {ex : sm_O} {d n : Nat} {y : sm_Y} {I : Nat → Nat → Int32} {L : Nat → Nat → Int64} {R : Nat → Nat → Option Nat} {Q : sm_Q} {w0 : Option Value} {w1 : Option Value} {w2 : Option Value} {w3 : Option Value} {s0 : Int32} {s1 : Int32} {s2 : Int32} {d1 : Nat} (hG : sm_G y R) (h1 : d1 < d) (k : sm_W ex d1 0 0 169 0 [some (.ref 123), some (.int s2), some (.int s1), some (.int s0)] [] (n, y, I, L, R) (fun r μ1 => sm_W ex d 0 0 170 102 [w0, w1, w2, w3] (r.toList ++ []) μ1 Q)) : sm_W ex d 0 0 170 99 [w0, w1, w2, w3] [.int s0, .int s1, .int s2, .ref 123] (n, y, I, L, R) Q := sm_in (Exists.intro 11 (And.intro (hG.1 123 (Nat.le_of_ble_eq_true rfl)) (And.intro rfl (sm_calln h1 (Nat.le_of_ble_eq_true rfl) (Nat.le_of_ble_eq_true rfl) k))))
set_option maxRecDepth 100000 in
theorem w_X11_readPart_102 {ex : sm_O} {d n : Nat} {y : sm_Y} {I : Nat → Nat → Int32} {L : Nat → Nat → Int64} {R : Nat → Nat → Option Nat} {Q : sm_Q} {w3 : Option Value} {a1 : Int32} {a2 : Int32} {d1 : Nat} (hG : sm_G y R) (h1 : d1 < d) (k : if (I 123 20) = 0 then (sm_W ex d 0 0 170 143 [some (.ref 123), some (.int a1), some (.int a2), w3] [] (n, y, I, L, R) Q) else (if a1 < 7 then (sm_W ex d 0 0 170 143 [some (.ref 123), some (.int a1), some (.int a2), w3] [] (n, y, I, L, R) Q) else (if (I 123 19) = 0 then (sm_W ex d1 0 0 158 0 [some (.ref 123), some (.long 0), none, some (.long 6), none, none] [] (n, y, I, L, R) (fun r μ1 => sm_W ex d 0 0 170 142 [some (.ref 123), some (.int a1), some (.int a2), some (.int ((I 123 23) - 1))] (r.toList ++ [.int ((I 123 23) - 1), .ref 135]) μ1 Q)) else (sm_W ex d 0 0 170 143 [some (.ref 123), some (.int a1), some (.int a2), w3] [] (n, y, I, L, R) Q)))) : sm_W ex d 0 0 170 102 [some (.ref 123), some (.int a1), some (.int a2), w3] [] (n, y, I, L, R) Q := sm_in (sm_in (And.intro (hG.1 123 (Nat.le_of_ble_eq_true rfl)) (sm_in (And.intro (fun c1 => have k1t := Eq.mp (if_pos c1) k; k1t) (fun c1 => have k1f := Eq.mp (if_neg c1) k; sm_in (sm_in (sm_in (And.intro (fun c2 => have k2t := Eq.mp (if_pos c2) k1f; k2t) (fun c2 => have k2f := Eq.mp (if_neg c2) k1f; sm_in (sm_in (And.intro (hG.1 123 (Nat.le_of_ble_eq_true rfl)) (sm_in (And.intro (fun c3 => have k3f := Eq.mp (if_neg c3) k2f; k3f) (fun c3 => have k3t := Eq.mp (if_pos c3) k2f; sm_in (sm_in (And.intro (hG.1 123 (Nat.le_of_ble_eq_true rfl)) (sm_in (sm_in (sm_in (And.intro (Nat.le_of_ble_eq_true rfl) (sm_in (sm_in (And.intro (hG.1 123 (Nat.le_of_ble_eq_true rfl)) (sm_gfr rfl (hG.2 123 25 rfl) (sm_in (sm_in (sm_in (sm_in (sm_in (Exists.intro 11 (And.intro (hG.1 123 (Nat.le_of_ble_eq_true rfl)) (And.intro rfl (sm_calln h1 (Nat.le_of_ble_eq_true rfl) (Nat.le_of_ble_eq_true rfl) k3t)))))))))))))))))))))))))))))))))
set_option maxRecDepth 100000 in
theorem w_X11_readPart_142 {ex : sm_O} {d n : Nat} {y : sm_Y} {I : Nat → Nat → Int32} {L : Nat → Nat → Int64} {R : Nat → Nat → Option Nat} {Q : sm_Q} {w0 : Option Value} {w1 : Option Value} {w2 : Option Value} {w3 : Option Value} {s0 : Int32} {s1 : Int32} (hG : sm_G y R) (k : vp_in s1 400 ∧ sm_W ex d 0 0 170 143 [w0, w1, w2, w3] [] (n, y, sm_st I 135 s1.toNatClampNeg s0, L, R) Q) : sm_W ex d 0 0 170 142 [w0, w1, w2, w3] [.int s0, .int s1, .ref 135] (n, y, I, L, R) Q := (have e1 := k.1; have k1 := k.2; sm_in (Exists.intro 400 (And.intro (hG.1 135 (Nat.le_of_ble_eq_true rfl)) (And.intro e1 (k1)))))
set_option maxRecDepth 100000 in
theorem w_X11_readPart_143 {ex : sm_O} {d n : Nat} {y : sm_Y} {I : Nat → Nat → Int32} {L : Nat → Nat → Int64} {R : Nat → Nat → Option Nat} {Q : sm_Q} {w0 : Option Value} {w1 : Option Value} {w2 : Option Value} {w3 : Option Value} (k : Q (some (.int 3)) (n, y, I, L, R)) : sm_W ex d 0 0 170 143 [w0, w1, w2, w3] [] (n, y, I, L, R) Q := sm_in (sm_in (And.intro rfl k))
set_option maxRecDepth 100000 in
theorem w_X11_readPlain_0 {ex : sm_O} {d n : Nat} {y : sm_Y} {I : Nat → Nat → Int32} {L : Nat → Nat → Int64} {R : Nat → Nat → Option Nat} {Q : sm_Q} {d1 : Nat} (hG : sm_G y R) (h1 : d1 < d) (k : sm_W ex d1 0 0 155 0 [some (.ref 123), some (.long 14836), none] [] (n, y, I, L, R) (fun r μ1 => sm_W ex d 0 0 171 7 [some (.ref 123)] (r.toList ++ []) μ1 Q)) : sm_W ex d 0 0 171 0 [some (.ref 123)] [] (n, y, I, L, R) Q := sm_in (sm_in (sm_in (Exists.intro 11 (And.intro (hG.1 123 (Nat.le_of_ble_eq_true rfl)) (And.intro rfl (sm_calln h1 (Nat.le_of_ble_eq_true rfl) (Nat.le_of_ble_eq_true rfl) k))))))
set_option maxRecDepth 100000 in
theorem w_X11_readPlain_7 {ex : sm_O} {d n : Nat} {y : sm_Y} {I : Nat → Nat → Int32} {L : Nat → Nat → Int64} {R : Nat → Nat → Option Nat} {Q : sm_Q} {s0 : Int32} {d1 : Nat} (hG : sm_G y R) (h1 : d1 < d) (k : if s0 = 0 then (sm_W ex d1 0 0 156 0 [some (.ref 123), some (.int 40)] [] (n, y, I, L, R) (fun r μ1 => sm_W ex d 0 0 171 29 [some (.ref 123)] (r.toList ++ []) μ1 Q)) else (sm_W ex d1 0 0 161 0 [some (.ref 123), some (.int 28), some (.int 0)] [] (n, y, I, L, R) (fun r μ1 => sm_W ex d 0 0 171 17 [some (.ref 123)] (r.toList ++ []) μ1 Q))) : sm_W ex d 0 0 171 7 [some (.ref 123)] [.int s0] (n, y, I, L, R) Q := sm_in (And.intro (fun c1 => have k1t := Eq.mp (if_pos c1) k; sm_in (sm_in (sm_in (Exists.intro 11 (And.intro (hG.1 123 (Nat.le_of_ble_eq_true rfl)) (And.intro rfl (sm_calln h1 (Nat.le_of_ble_eq_true rfl) (Nat.le_of_ble_eq_true rfl) k1t))))))) (fun c1 => have k1f := Eq.mp (if_neg c1) k; sm_in (sm_in (sm_in (sm_in (Exists.intro 11 (And.intro (hG.1 123 (Nat.le_of_ble_eq_true rfl)) (And.intro rfl (sm_calln h1 (Nat.le_of_ble_eq_true rfl) (Nat.le_of_ble_eq_true rfl) k1f)))))))))
set_option maxRecDepth 100000 in
theorem w_X11_readPlain_17 {ex : sm_O} {d n : Nat} {y : sm_Y} {I : Nat → Nat → Int32} {L : Nat → Nat → Int64} {R : Nat → Nat → Option Nat} {Q : sm_Q} {d1 : Nat} (hG : sm_G y R) (h1 : d1 < d) (k : sm_W ex d1 0 0 154 0 [some (.ref 123)] [] (n, y, I, L, R) (fun r μ1 => sm_W ex d 0 0 171 21 [some (.ref 123)] (r.toList ++ []) μ1 Q)) : sm_W ex d 0 0 171 17 [some (.ref 123)] [] (n, y, I, L, R) Q := sm_in (sm_in (Exists.intro 11 (And.intro (hG.1 123 (Nat.le_of_ble_eq_true rfl)) (And.intro rfl (sm_calln h1 (Nat.le_of_ble_eq_true rfl) (Nat.le_of_ble_eq_true rfl) k)))))
set_option maxRecDepth 100000 in
theorem w_X11_readPlain_21 {ex : sm_O} {d n : Nat} {y : sm_Y} {I : Nat → Nat → Int32} {L : Nat → Nat → Int64} {R : Nat → Nat → Option Nat} {Q : sm_Q} {w0 : Option Value} (k : Q (some (.int 0)) (n, y, I, L, R)) : sm_W ex d 0 0 171 21 [w0] [] (n, y, I, L, R) Q := sm_in (sm_in (And.intro rfl k))
set_option maxRecDepth 100000 in
theorem w_X11_readPlain_29 {ex : sm_O} {d n : Nat} {y : sm_Y} {I : Nat → Nat → Int32} {L : Nat → Nat → Int64} {R : Nat → Nat → Option Nat} {Q : sm_Q} {s0 : Int32} {d1 : Nat} (hG : sm_G y R) (h1 : d1 < d) (k : if s0 = 0 then (sm_W ex d1 0 0 170 0 [some (.ref 123), none, none, none] [] (n, y, I, L, R) (fun r μ1 => sm_W ex d 0 0 171 44 [some (.ref 123)] (r.toList ++ []) μ1 Q)) else (sm_W ex d1 0 0 168 0 [some (.ref 123), some (.int 31)] [] (n, y, I, L, R) (fun r μ1 => sm_W ex d 0 0 171 38 [some (.ref 123)] (r.toList ++ []) μ1 Q))) : sm_W ex d 0 0 171 29 [some (.ref 123)] [.int s0] (n, y, I, L, R) Q := sm_in (And.intro (fun c1 => have k1t := Eq.mp (if_pos c1) k; sm_in (sm_in (Exists.intro 11 (And.intro (hG.1 123 (Nat.le_of_ble_eq_true rfl)) (And.intro rfl (sm_calln h1 (Nat.le_of_ble_eq_true rfl) (Nat.le_of_ble_eq_true rfl) k1t)))))) (fun c1 => have k1f := Eq.mp (if_neg c1) k; sm_in (sm_in (sm_in (Exists.intro 11 (And.intro (hG.1 123 (Nat.le_of_ble_eq_true rfl)) (And.intro rfl (sm_calln h1 (Nat.le_of_ble_eq_true rfl) (Nat.le_of_ble_eq_true rfl) k1f))))))))
set_option maxRecDepth 100000 in
theorem w_X11_readPlain_38 {ex : sm_O} {d n : Nat} {y : sm_Y} {I : Nat → Nat → Int32} {L : Nat → Nat → Int64} {R : Nat → Nat → Option Nat} {Q : sm_Q} {w0 : Option Value} (k : Q (some (.int 0)) (n, y, I, L, R)) : sm_W ex d 0 0 171 38 [w0] [] (n, y, I, L, R) Q := sm_in (sm_in (And.intro rfl k))
set_option maxRecDepth 100000 in
theorem w_X11_readPlain_44 {ex : sm_O} {d n : Nat} {y : sm_Y} {I : Nat → Nat → Int32} {L : Nat → Nat → Int64} {R : Nat → Nat → Option Nat} {Q : sm_Q} {w0 : Option Value} {s0 : Int32} (k : Q (some (.int s0)) (n, y, I, L, R)) : sm_W ex d 0 0 171 44 [w0] [.int s0] (n, y, I, L, R) Q := sm_in (And.intro rfl k)
set_option maxRecDepth 100000 in
theorem w_X11_readExpression_0 {ex : sm_O} {d n : Nat} {y : sm_Y} {I : Nat → Nat → Int32} {L : Nat → Nat → Int64} {R : Nat → Nat → Option Nat} {Q : sm_Q} {w2 : Option Value} {a1 : Int32} (hG : sm_G y R) (k : if a1 = 0 then (sm_W ex d 0 0 174 20 [some (.ref 123), some (.int a1), some (.int 1)] [] (n, y, sm_st (sm_st I 123 29 0) 123 30 0, L, R) Q) else (sm_W ex d 0 0 174 20 [some (.ref 123), some (.int a1), some (.int 0)] [] (n, y, sm_st (sm_st I 123 29 0) 123 30 0, L, R) Q)) : sm_W ex d 0 0 174 0 [some (.ref 123), some (.int a1), w2] [] (n, y, I, L, R) Q := sm_in (sm_in (sm_in (And.intro (hG.1 123 (Nat.le_of_ble_eq_true rfl)) (sm_in (sm_in (sm_in (And.intro (hG.1 123 (Nat.le_of_ble_eq_true rfl)) (sm_in (sm_in (And.intro (fun c1 => have k1t := Eq.mp (if_pos c1) k; sm_in (sm_in (And.intro (Nat.le_of_ble_eq_true rfl) (k1t)))) (fun c1 => have k1f := Eq.mp (if_neg c1) k; sm_in (sm_in (sm_in (And.intro (Nat.le_of_ble_eq_true rfl) (k1f)))))))))))))))
set_option maxRecDepth 100000 in
theorem w_X11_readExpression_20 {ex : sm_O} {d n : Nat} {y : sm_Y} {I : Nat → Nat → Int32} {L : Nat → Nat → Int64} {R : Nat → Nat → Option Nat} {Q : sm_Q} {a1 : Int32} {a2 : Int32} {d1 : Nat} (hG : sm_G y R) (h1 : d1 < d) (k : if (I 123 19) = 0 then (if a2 = 4 then (sm_W ex d1 0 0 163 0 [some (.ref 123), some (.int 1)] [] (n, y, I, L, R) (fun r μ1 => sm_W ex d 0 0 174 81 [some (.ref 123), some (.int a1), some (.int a2)] (r.toList ++ []) μ1 Q)) else (if a2 = 0 then (sm_W ex d1 0 0 171 0 [some (.ref 123)] [] (n, y, I, L, R) (fun r μ1 => sm_W ex d 0 0 174 40 [some (.ref 123), some (.int a1), some (.int a2)] (r.toList ++ []) μ1 Q)) else (if a2 = 1 then (sm_W ex d1 0 0 170 0 [some (.ref 123), none, none, none] [] (n, y, I, L, R) (fun r μ1 => sm_W ex d 0 0 174 52 [some (.ref 123), some (.int a1), some (.int a2)] (r.toList ++ []) μ1 Q)) else (if a2 = 3 then (sm_W ex d1 0 0 172 0 [some (.ref 123), some (.int a1), none, none] [] (n, y, I, L, R) (fun r μ1 => sm_W ex d 0 0 174 65 [some (.ref 123), some (.int a1), some (.int a2)] (r.toList ++ []) μ1 Q)) else (sm_W ex d1 0 0 173 0 [some (.ref 123), none] [] (n, y, I, L, R) (fun r μ1 => sm_W ex d 0 0 174 72 [some (.ref 123), some (.int a1), some (.int a2)] (r.toList ++ []) μ1 Q)))))) else (sm_W ex d1 0 0 163 0 [some (.ref 123), some (.int 1)] [] (n, y, I, L, R) (fun r μ1 => sm_W ex d 0 0 174 81 [some (.ref 123), some (.int a1), some (.int a2)] (r.toList ++ []) μ1 Q))) : sm_W ex d 0 0 174 20 [some (.ref 123), some (.int a1), some (.int a2)] [] (n, y, I, L, R) Q := sm_in (sm_in (And.intro (hG.1 123 (Nat.le_of_ble_eq_true rfl)) (sm_in (And.intro (fun c1 => have k1f := Eq.mp (if_neg c1) k; sm_in (sm_in (sm_in (Exists.intro 11 (And.intro (hG.1 123 (Nat.le_of_ble_eq_true rfl)) (And.intro rfl (sm_calln h1 (Nat.le_of_ble_eq_true rfl) (Nat.le_of_ble_eq_true rfl) k1f))))))) (fun c1 => have k1t := Eq.mp (if_pos c1) k; sm_in (sm_in (sm_in (And.intro (fun c2 => have k2t := Eq.mp (if_pos c2) k1t; sm_in (sm_in (sm_in (Exists.intro 11 (And.intro (hG.1 123 (Nat.le_of_ble_eq_true rfl)) (And.intro rfl (sm_calln h1 (Nat.le_of_ble_eq_true rfl) (Nat.le_of_ble_eq_true rfl) k2t))))))) (fun c2 => have k2f := Eq.mp (if_neg c2) k1t; sm_in (sm_in (And.intro (fun c3 => have k3f := Eq.mp (if_neg c3) k2f; sm_in (sm_in (sm_in (And.intro (fun c4 => have k4f := Eq.mp (if_neg c4) k3f; sm_in (sm_in (sm_in (And.intro (fun c5 => have k5f := Eq.mp (if_neg c5) k4f; sm_in (sm_in (Exists.intro 11 (And.intro (hG.1 123 (Nat.le_of_ble_eq_true rfl)) (And.intro rfl (sm_calln h1 (Nat.le_of_ble_eq_true rfl) (Nat.le_of_ble_eq_true rfl) k5f)))))) (fun c5 => have k5t := Eq.mp (if_pos c5) k4f; sm_in (sm_in (sm_in (Exists.intro 11 (And.intro (hG.1 123 (Nat.le_of_ble_eq_true rfl)) (And.intro rfl (sm_calln h1 (Nat.le_of_ble_eq_true rfl) (Nat.le_of_ble_eq_true rfl) k5t))))))))))) (fun c4 => have k4t := Eq.mp (if_pos c4) k3f; sm_in (sm_in (Exists.intro 11 (And.intro (hG.1 123 (Nat.le_of_ble_eq_true rfl)) (And.intro rfl (sm_calln h1 (Nat.le_of_ble_eq_true rfl) (Nat.le_of_ble_eq_true rfl) k4t)))))))))) (fun c3 => have k3t := Eq.mp (if_pos c3) k2f; sm_in (sm_in (Exists.intro 11 (And.intro (hG.1 123 (Nat.le_of_ble_eq_true rfl)) (And.intro rfl (sm_calln h1 (Nat.le_of_ble_eq_true rfl) (Nat.le_of_ble_eq_true rfl) k3t)))))))))))))))))
set_option maxRecDepth 100000 in
theorem w_X11_readExpression_40 {ex : sm_O} {d n : Nat} {y : sm_Y} {I : Nat → Nat → Int32} {L : Nat → Nat → Int64} {R : Nat → Nat → Option Nat} {Q : sm_Q} {w0 : Option Value} {w1 : Option Value} {w2 : Option Value} {s0 : Int32} (k : sm_W ex d 0 0 174 72 [w0, w1, w2] [.int s0] (n, y, I, L, R) Q) : sm_W ex d 0 0 174 40 [w0, w1, w2] [.int s0] (n, y, I, L, R) Q := sm_in (k)
set_option maxRecDepth 100000 in
theorem w_X11_readExpression_52 {ex : sm_O} {d n : Nat} {y : sm_Y} {I : Nat → Nat → Int32} {L : Nat → Nat → Int64} {R : Nat → Nat → Option Nat} {Q : sm_Q} {w0 : Option Value} {w1 : Option Value} {w2 : Option Value} {s0 : Int32} (k : sm_W ex d 0 0 174 72 [w0, w1, w2] [.int s0] (n, y, I, L, R) Q) : sm_W ex d 0 0 174 52 [w0, w1, w2] [.int s0] (n, y, I, L, R) Q := sm_in (k)
set_option maxRecDepth 100000 in
theorem w_X11_readExpression_65 {ex : sm_O} {d n : Nat} {y : sm_Y} {I : Nat → Nat → Int32} {L : Nat → Nat → Int64} {R : Nat → Nat → Option Nat} {Q : sm_Q} {w0 : Option Value} {w1 : Option Value} {w2 : Option Value} {s0 : Int32} (k : sm_W ex d 0 0 174 72 [w0, w1, w2] [.int s0] (n, y, I, L, R) Q) : sm_W ex d 0 0 174 65 [w0, w1, w2] [.int s0] (n, y, I, L, R) Q := sm_in (k)
set_option maxRecDepth 100000 in
theorem w_X11_readExpression_72 {ex : sm_O} {d n : Nat} {y : sm_Y} {I : Nat → Nat → Int32} {L : Nat → Nat → Int64} {R : Nat → Nat → Option Nat} {Q : sm_Q} {w0 : Option Value} {w2 : Option Value} {a1 : Int32} {s0 : Int32} (k : sm_W ex d 0 0 174 20 [w0, some (.int a1), some (.int s0)] [] (n, y, I, L, R) Q) : sm_W ex d 0 0 174 72 [w0, some (.int a1), w2] [.int s0] (n, y, I, L, R) Q := sm_in (And.intro (Nat.le_of_ble_eq_true rfl) (sm_in (k)))
set_option maxRecDepth 100000 in
theorem w_X11_readExpression_81 {ex : sm_O} {d n : Nat} {y : sm_Y} {I : Nat → Nat → Int32} {L : Nat → Nat → Int64} {R : Nat → Nat → Option Nat} {Q : sm_Q} {w0 : Option Value} {w1 : Option Value} {w2 : Option Value} (k : Q none (n, y, I, L, R)) : sm_W ex d 0 0 174 81 [w0, w1, w2] [] (n, y, I, L, R) Q := sm_in (And.intro rfl (And.intro rfl k))
-- PARTS OF THE MODEL
def mFx (I I' : Nat → Nat → Int32) : Prop := ∀ a j, ¬ (a = 123 ∧ (14 ≤ j ∧ j ≤ 16 ∨ j = 18 ∨ j = 19 ∨ j = 23 ∨ j = 26 ∨ j = 29 ∨ j = 30)) → ¬ (134 ≤ a ∧ a ≤ 137) → I' a j = I a j
theorem mFx.rfl' (I : Nat → Nat → Int32) : mFx I I := fun _ _ _ _ => rfl
theorem mFx.trans {I I' I2 : Nat → Nat → Int32} (h1 : mFx I I') (h2 : mFx I' I2) : mFx I I2 := fun a j q1 q2 => (h2 a j q1 q2).trans (h1 a j q1 q2)
theorem mL1.rfl' (L : Nat → Nat → Int64) : mL1 L L := fun _ _ _ => rfl
theorem mL1.trans {L L' L2 : Nat → Nat → Int64} (h1 : mL1 L L') (h2 : mL1 L' L2) : mL1 L L2 := fun a j q => (h2 a j q).trans (h1 a j q)
theorem mF1.X {I I' : Nat → Nat → Int32} (h : mF1 I I') : mFx I I' := fun a j q _ => h a j (by omega)
theorem mFs.X {I I' : Nat → Nat → Int32} (h : mFs I I') : mFx I I' := fun a j q1 q2 => h a j (by omega) (by omega) (by omega)
theorem mL1.W {L L' : Nat → Nat → Int64} (h : mL1 L L') (hw : mWs L) : mWs L' := by
  have e : ∀ a j, a ≠ 123 → L' a j = L a j := fun a j q => h a j (by omega)
  unfold mWs at *
  simp only [e 138 _ (by decide), e 139 _ (by decide), e 140 _ (by decide), e 153 _ (by decide)]
  exact hw
theorem mR_kept {t : Tp} {I I' : Nat → Nat → Int32} {L L' : Nat → Nat → Int64} {p : Nat} (hI : ∀ j, 13 ≤ j → j ≤ 18 → I' 123 j = I 123 j) (h2 : ∀ j, I' 132 j = I 132 j) (hL : L' 123 17 = L 123 17) (h : mR t I L p) : mR t I' L' p := by
  obtain ⟨s1, s2, s3, s4, s5, s6⟩ := h
  exact ⟨⟨(hI 13 (by omega) (by omega)).trans s1.1, s1.2.1, fun j hj => ⟨(h2 j).trans (s1.2.2 j hj).1, (s1.2.2 j hj).2⟩⟩, (hI 14 (by omega) (by omega)).trans s2, (hI 15 (by omega) (by omega)).trans s3, (hI 16 (by omega) (by omega)).trans s4, by rw [hL]; exact s5, s6.1, (hI 18 (by omega) (by omega)).trans s6.2⟩
def mX (t : Tp) (o : Bool) (I : Nat → Nat → Int32) (L : Nat → Nat → Int64) (p pt len : Nat) (B : Pl) (dep : Nat) : Prop := mR t I L p ∧ mWs L ∧ I 123 20 = (if o = true then 1 else 0) ∧ I 123 19 = 0 ∧ I 123 26 = nI pt ∧ I 123 23 = nI len ∧ I 123 29 = nI B.length ∧ mPl I B ∧ I 123 30 = nI dep ∧ len + B.length ≤ p ∧ (∀ x ∈ B, vX x) ∧ pt ≤ 50 ∧ dep ≤ 8
def mY (q : Nat) (I : Nat → Nat → Int32) : Prop := I 123 19 = 1 ∧ I 123 18 = nI q ∧ ∃ (len : Nat) (B : Pl), I 123 23 = nI len ∧ I 123 29 = nI B.length ∧ mPl I B ∧ len + B.length ≤ 400 ∧ ∀ x ∈ B, vX x
theorem mX.le {t : Tp} {o : Bool} {I : Nat → Nat → Int32} {L : Nat → Nat → Int64} {p pt len : Nat} {B : Pl} {dep : Nat} (h : mX t o I L p pt len B dep) : p ≤ t.1 ∧ t.1 ≤ 400 ∧ len + B.length ≤ p := ⟨h.1.2.2.2.2.2.1, h.1.1.2.1, h.2.2.2.2.2.2.2.2.2.1⟩
theorem mBad_o {p a j : Nat} {I : Nat → Nat → Int32} (h : ¬ (a = 123 ∧ (j = 18 ∨ j = 19))) : mBad p I a j = I a j := by
  unfold mBad
  rw [sm_st_or _ _ (by omega), sm_st_or _ _ (by omega)]
theorem mBad_X (p : Nat) (I : Nat → Nat → Int32) : mFx I (mBad p I) := fun a j q1 q2 => mBad_o (by omega)
theorem mX.bad {t : Tp} {o : Bool} {I : Nat → Nat → Int32} {L : Nat → Nat → Int64} {p pt len : Nat} {B : Pl} {dep : Nat} (h : mX t o I L p pt len B dep) (q : Nat) : mY q (mBad q I) := by
  have hl := h.le
  obtain ⟨s1, s2, s3, s4, s5, s6, s7, s8, s9, s10, s11, s12, s13⟩ := h
  refine ⟨by unfold mBad; rw [sm_st_j _ _ (by decide), sm_st_s], by unfold mBad; rw [sm_st_s], len, B, (mBad_o (by omega)).trans s6, (mBad_o (by omega)).trans s7, mPl_kept B (fun j _ => ⟨mBad_o (by omega), mBad_o (by omega)⟩) s8, by omega, s11⟩
/-- a token more -/
theorem mX.nx {t : Tp} {o : Bool} {I I' : Nat → Nat → Int32} {L L' : Nat → Nat → Int64} {p pt len : Nat} {B : Pl} {dep : Nat} (h : mX t o I L p pt len B dep) (f : mF1 I I') (g : mL1 L L') {q : Nat} (hq : p ≤ q) (hr : mR t I' L' q) : mX t o I' L' q pt len B dep := by
  obtain ⟨s1, s2, s3, s4, s5, s6, s7, s8, s9, s10, s11, s12, s13⟩ := h
  exact ⟨hr, g.W s2, (f 123 20 (by omega)).trans s3, (f 123 19 (by omega)).trans s4, (f 123 26 (by omega)).trans s5, (f 123 23 (by omega)).trans s6, (f 123 29 (by omega)).trans s7, mPl_kept B (fun j _ => ⟨f 136 j (by omega), f 137 j (by omega)⟩) s8, (f 123 30 (by omega)).trans s9, by omega, s11, s12, s13⟩
theorem mF1.cd {I I' : Nat → Nat → Int32} (h : mF1 I I') : cdO I' = cdO I := by
  funext k
  show (I' 134 k, I' 135 k) = (I 134 k, I 135 k)
  rw [h 134 k (by omega), h 135 k (by omega)]
def wdO (o : Bool) : (Int32 → Int32 → Int64) → Nat → Int := if o = true then mWo else mWd
def lIx (e : Nat) : List (List Nat) → List Nat → Nat → Int32 → Int32
  | [], _, _, a => a
  | w :: r, x, k, a => lIx e r x (k + 1) (if x = w then nI (k + e) else a)
theorem wIx_no : ∀ (ws : List (List Nat)) (x : List Nat), x ∉ ws → wIx ws x = none
  | [], _, _ => rfl
  | w :: r, x, h => by
    show (if x = w then some 0 else (wIx r x).map (· + 1)) = none
    rw [if_neg (fun z => h (by rw [z]; exact List.mem_cons_self)), wIx_no r x (fun z => h (List.mem_cons_of_mem _ z))]
    rfl
theorem lIx_eq (e : Nat) : ∀ (ws : List (List Nat)) (x : List Nat) (k : Nat) (a : Int32), ws.Nodup → lIx e ws x k a = match wIx ws x with
    | none => a
    | some i => nI (k + i + e)
  | [], _, _, _, _ => rfl
  | w :: r, x, k, a, h => by
    show lIx e r x (k + 1) (if x = w then nI (k + e) else a) = match (if x = w then some 0 else (wIx r x).map (· + 1)) with
      | none => a
      | some i => nI (k + i + e)
    have hn := List.nodup_cons.mp h
    rw [lIx_eq e r x (k + 1) _ hn.2]
    by_cases q : x = w
    · rw [if_pos q, if_pos q, wIx_no r x (by rw [q]; exact hn.1)]
      rfl
    · rw [if_neg q, if_neg q]
      cases wIx r x with
      | none => rfl
      | some i => show nI (k + 1 + i + e) = nI (k + (i + 1) + e); congr 1; omega
def pI (e : Nat) (o : Option Nat) : Int32 := match o with
  | none => -1
  | some i => nI (i + e)
theorem lIx_0 {e : Nat} {ws : List (List Nat)} (x : List Nat) (h : ws.Nodup) : lIx e ws x 0 (-1) = pI e (wIx ws x) := by
  rw [lIx_eq e ws x 0 (-1) h]
  cases wIx ws x with
  | none => rfl
  | some i => show nI (0 + i + e) = nI (i + e); rw [Nat.zero_add]
def gW (w : List Nat) : Prop := (∀ c ∈ w, 97 ≤ c ∧ c ≤ 122) ∧ w.length ≤ 10 ∧ w ≠ []
theorem lawWords_g : lawWords.Nodup ∧ ∀ w ∈ lawWords, gW w := by unfold gW; decide
theorem ordWords_g : ordWords.Nodup ∧ ∀ w ∈ ordWords, gW w := by unfold gW; decide
theorem lawKinds_g : lawKinds.Nodup ∧ ∀ w ∈ lawKinds, gW w := by unfold gW; decide
theorem ordKinds_g : ordKinds.Nodup ∧ ∀ w ∈ ordKinds, gW w := by unfold gW; decide
theorem lawWords_L {L : Nat → Nat → Int64} (h : mWs L) : ∀ (i : Nat) (w : List Nat), lawWords[i]? = some w → L 138 i = lN (rc w.reverse) := by
  obtain ⟨⟨a0, a1, a2, a3, a4, a5, a6, a7⟩, h⟩ := h
  intro i w hw
  match i with
  | 0 => cases hw; exact a0
  | 1 => cases hw; exact a1
  | 2 => cases hw; exact a2
  | 3 => cases hw; exact a3
  | 4 => cases hw; exact a4
  | 5 => cases hw; exact a5
  | 6 => cases hw; exact a6
  | 7 => cases hw; exact a7
  | i + 8 => cases hw
theorem ordWords_L {L : Nat → Nat → Int64} (h : mWs L) : ∀ (i : Nat) (w : List Nat), ordWords[i]? = some w → L 139 i = lN (rc w.reverse) := by
  obtain ⟨_, ⟨a0, a1, a2, a3, a4, a5, a6⟩, h⟩ := h
  intro i w hw
  match i with
  | 0 => cases hw; exact a0
  | 1 => cases hw; exact a1
  | 2 => cases hw; exact a2
  | 3 => cases hw; exact a3
  | 4 => cases hw; exact a4
  | 5 => cases hw; exact a5
  | 6 => cases hw; exact a6
  | i + 7 => cases hw
theorem lawKinds_L {L : Nat → Nat → Int64} (h : mWs L) : ∀ (i : Nat) (w : List Nat), lawKinds[i]? = some w → L 140 i = lN (rc w.reverse) := by
  obtain ⟨_, _, ⟨a0, a1, a2, a3⟩, h⟩ := h
  intro i w hw
  match i with
  | 0 => cases hw; exact a0
  | 1 => cases hw; exact a1
  | 2 => cases hw; exact a2
  | 3 => cases hw; exact a3
  | i + 4 => cases hw
theorem ordKinds_L {L : Nat → Nat → Int64} (h : mWs L) : ∀ (i : Nat) (w : List Nat), ordKinds[i]? = some w → L 153 i = lN (rc w.reverse) := by
  obtain ⟨_, _, _, a0, a1, a2, a3⟩ := h
  intro i w hw
  match i with
  | 0 => cases hw; exact a0
  | 1 => cases hw; exact a1
  | 2 => cases hw; exact a2
  | 3 => cases hw; exact a3
  | i + 4 => cases hw
theorem getElem?_mid {α : Type} (a : List α) (x : α) (b : List α) : (a ++ x :: b)[a.length]? = some x := by
  rw [List.getElem?_append_right (Nat.le_refl _), Nat.sub_self]
  rfl
theorem m_partAt {ex : sm_O} {n : Nat} {y : sm_Y} {I : Nat → Nat → Int32} {L : Nat → Nat → Int64} {R : Nat → Nat → Option Nat} {Q : sm_Q} {d p : Nat} {t : Tp} {w1 w2 : Option Value} (hd : 1 ≤ d) (hG : sm_G y R) (hs : mR t I L p) (hw : mWs L) (k : Q (some (.int (pI 1 (wIx lawWords (tkWd t p))))) (n, y, I, L, R)) : sm_W ex d 0 0 166 0 [some (.ref 123), w1, w2] [] (n, y, I, L, R) Q := by
  have lp : ∀ (r pre : List (List Nat)) (a : Int32), lawWords = pre ++ r → Q (some (.int (lIx 1 r (tkWd t p) pre.length a))) (n, y, I, L, R) → sm_W ex d 0 0 166 4 [some (.ref 123), some (.int a), some (.int (nI pre.length))] [] (n, y, I, L, R) Q := by
    intro r
    induction r with
    | nil =>
      intro pre a hpr k
      have hl : pre.length = 8 := by rw [List.append_nil] at hpr; rw [← hpr]; rfl
      refine w_X11_partAt_4 (d1 := 0) hG (by omega) ?_
      rw [if_pos (by rw [hl]; decide)]
      exact k
    | cons w r ih =>
      intro pre a hpr k
      have hl : pre.length < 8 := by
        have : (pre ++ w :: r).length = 8 := by rw [← hpr]; rfl
        simp at this
        omega
      refine w_X11_partAt_4 (d1 := 0) hG (by omega) ?_
      rw [if_neg (fun z => by have := (nI_leI (a := 8) (by decide) (by omega)).mp z; omega), nI_clamp (by omega)]
      refine ⟨vp_in_nI (by omega) (by decide), ?_⟩
      have hx := lawWords_L hw pre.length w (by rw [hpr]; exact getElem?_mid pre w r)
      have hpr2 : lawWords = (pre ++ [w]) ++ r := by rw [hpr]; simp
      have hl2 : (pre ++ [w]).length = pre.length + 1 := by simp
      have ih := fun a => ih (pre ++ [w]) a hpr2
      rw [hl2] at ih
      refine m_word hG hs hx (lawWords_g.2 w (by rw [hpr]; simp)) (fun e => ?_) (fun e => ?_)
      · refine w_X11_partAt_20 ?_
        rw [if_pos rfl, sm_n1]
        refine ih a ?_
        have k : Q (some (.int (lIx 1 r (tkWd t p) (pre.length + 1) (if tkWd t p = w then nI (pre.length + 1) else a)))) (n, y, I, L, R) := k
        rw [if_neg e] at k
        exact k
      · refine w_X11_partAt_20 ?_
        rw [if_neg (by decide), sm_n1]
        refine ih _ ?_
        have k : Q (some (.int (lIx 1 r (tkWd t p) (pre.length + 1) (if tkWd t p = w then nI (pre.length + 1) else a)))) (n, y, I, L, R) := k
        rw [if_pos e] at k
        exact k
  refine w_X11_partAt_0 ?_
  refine lp lawWords [] (-1) rfl ?_
  show Q (some (.int (lIx 1 lawWords (tkWd t p) 0 (-1)))) (n, y, I, L, R)
  rw [lIx_0 _ lawWords_g.1]
  exact k
theorem m_orderPartAt {ex : sm_O} {n : Nat} {y : sm_Y} {I : Nat → Nat → Int32} {L : Nat → Nat → Int64} {R : Nat → Nat → Option Nat} {Q : sm_Q} {d p : Nat} {t : Tp} {w1 w2 : Option Value} (hd : 1 ≤ d) (hG : sm_G y R) (hs : mR t I L p) (hw : mWs L) (k : Q (some (.int (pI 1 (wIx ordWords (tkWd t p))))) (n, y, I, L, R)) : sm_W ex d 0 0 167 0 [some (.ref 123), w1, w2] [] (n, y, I, L, R) Q := by
  have lp : ∀ (r pre : List (List Nat)) (a : Int32), ordWords = pre ++ r → Q (some (.int (lIx 1 r (tkWd t p) pre.length a))) (n, y, I, L, R) → sm_W ex d 0 0 167 4 [some (.ref 123), some (.int a), some (.int (nI pre.length))] [] (n, y, I, L, R) Q := by
    intro r
    induction r with
    | nil =>
      intro pre a hpr k
      have hl : pre.length = 7 := by rw [List.append_nil] at hpr; rw [← hpr]; rfl
      refine w_X11_orderPartAt_4 (d1 := 0) hG (by omega) ?_
      rw [if_pos (by rw [hl]; decide)]
      exact k
    | cons w r ih =>
      intro pre a hpr k
      have hl : pre.length < 7 := by
        have : (pre ++ w :: r).length = 7 := by rw [← hpr]; rfl
        simp at this
        omega
      refine w_X11_orderPartAt_4 (d1 := 0) hG (by omega) ?_
      rw [if_neg (fun z => by have := (nI_leI (a := 7) (by decide) (by omega)).mp z; omega), nI_clamp (by omega)]
      refine ⟨vp_in_nI (by omega) (by decide), ?_⟩
      have hx := ordWords_L hw pre.length w (by rw [hpr]; exact getElem?_mid pre w r)
      have hpr2 : ordWords = (pre ++ [w]) ++ r := by rw [hpr]; simp
      have hl2 : (pre ++ [w]).length = pre.length + 1 := by simp
      have ih := fun a => ih (pre ++ [w]) a hpr2
      rw [hl2] at ih
      refine m_word hG hs hx (ordWords_g.2 w (by rw [hpr]; simp)) (fun e => ?_) (fun e => ?_)
      · refine w_X11_orderPartAt_20 ?_
        rw [if_pos rfl, sm_n1]
        refine ih a ?_
        have k : Q (some (.int (lIx 1 r (tkWd t p) (pre.length + 1) (if tkWd t p = w then nI (pre.length + 1) else a)))) (n, y, I, L, R) := k
        rw [if_neg e] at k
        exact k
      · refine w_X11_orderPartAt_20 ?_
        rw [if_neg (by decide), sm_n1]
        refine ih _ ?_
        have k : Q (some (.int (lIx 1 r (tkWd t p) (pre.length + 1) (if tkWd t p = w then nI (pre.length + 1) else a)))) (n, y, I, L, R) := k
        rw [if_pos e] at k
        exact k
  refine w_X11_orderPartAt_0 ?_
  refine lp ordWords [] (-1) rfl ?_
  show Q (some (.int (lIx 1 ordWords (tkWd t p) 0 (-1)))) (n, y, I, L, R)
  rw [lIx_0 _ ordWords_g.1]
  exact k

theorem m_number {ex : sm_O} {n : Nat} {y : sm_Y} {I : Nat → Nat → Int32} {L : Nat → Nat → Int64} {R : Nat → Nat → Option Nat} {Q : sm_Q} {d p lo hi : Nat} {t : Tp} {w2 w4 w5 : Option Value} (hd : 3 ≤ d) (hG : sm_G y R) (hs : mR t I L p) (hb : I 123 19 = 0) (hhi : hi ≤ 1000) (hlo : lo ≤ hi)
    (kf : ¬ (tkK t p = 2 ∧ lo ≤ tkN t p ∧ tkN t p ≤ hi) → ∀ v : Int32, Q (some (.int v)) (n, y, mBad p I, L, R))
    (kl : (tkK t p = 2 ∧ lo ≤ tkN t p ∧ tkN t p ≤ hi) → ∀ (I' : Nat → Nat → Int32) (L' : Nat → Nat → Int64), mF1 I I' → mL1 L L' → mR t I' L' (nx t p) → Q (some (.int (nI (tkN t p)))) (n, y, I', L', R)) : sm_W ex d 0 0 158 0 [some (.ref 123), some (.long (lN lo)), w2, some (.long (lN hi)), w4, w5] [] (n, y, I, L, R) Q := by
  have hkl := tkK_le t p
  refine w_X11_number_0 (d1 := 2) hG (by omega) ?_
  rw [hs.2.2.2.1]
  have e2 : nI (tkK t p) = 2 ↔ tkK t p = 2 := nI_eq (b := 2) (by omega) (by decide)
  simp only [e2]
  by_cases hk : tkK t p = 2
  · rw [if_pos hk]
    obtain ⟨u, u1, u2, u3, u4⟩ := hs.2.2.2.2.1.2.2 hk
    have hin : (lo ≤ u ∧ u ≤ hi) ↔ (lo ≤ tkN t p ∧ tkN t p ≤ hi) := by
      by_cases q : tkN t p ≤ 1000000
      · rw [u3 q]
      · have := u4 (by omega); omega
    rw [u1]
    refine w_X11_in ?_
    have l : lg_cmp (lN u) (lN lo) < 0 ↔ u < lo := by rw [sm_cmp_lt, Int64.lt_iff_toInt_lt, pk_lT (by omega), pk_lT (by omega)]; omega
    have g : 0 < lg_cmp (lN u) (lN hi) ↔ hi < u := by rw [sm_cmp_gt, Int64.lt_iff_toInt_lt, pk_lT (by omega), pk_lT (by omega)]; omega
    simp only [l, g]
    have bad : ¬ (lo ≤ u ∧ u ≤ hi) → ∀ (v1 v2 v3 v4 : Option Value) (v : Int32), sm_W ex d 0 0 158 25 [some (.ref 123), v1, v2, v3, v4, some (.int v)] [.int 0, .ref 123] (n, y, I, L, R) Q := fun hn v1 v2 v3 v4 v => by
      refine w_X11_number_25 (d1 := 2) hG (by omega) ?_
      rw [if_pos rfl]
      refine m_must (Nat.le_refl 2) hG hs hb (fun _ => ?_) (fun z => absurd rfl z)
      exact w_X11_number_36 (kf (fun z => hn (hin.mpr z.2)) _)
    by_cases h1 : u < lo
    · rw [if_pos h1]
      exact bad (by omega) _ _ _ _ _
    · rw [if_neg h1]
      by_cases h2 : hi < u
      · rw [if_pos h2]
        exact bad (by omega) _ _ _ _ _
      · rw [if_neg h2]
        refine w_X11_number_25 (d1 := 2) hG (by omega) ?_
        rw [if_neg (by decide)]
        have hok := hin.mp ⟨by omega, by omega⟩
        refine m_must (Nat.le_refl 2) hG hs hb (fun z => absurd z (by decide)) (fun _ I' L' f g s => ?_)
        refine w_X11_number_36 ?_
        rw [lN_i, u3 (by omega)]
        exact kl ⟨hk, hok⟩ I' L' f g s
  · rw [if_neg hk]
    refine m_must (Nat.le_refl 2) hG hs hb (fun _ => ?_) (fun z => absurd rfl z)
    exact w_X11_number_36 (kf (fun z => hk z.1) _)
theorem m_leaf {ex : sm_O} {n : Nat} {y : sm_Y} {I : Nat → Nat → Int32} {L : Nat → Nat → Int64} {R : Nat → Nat → Option Nat} {Q : sm_Q} {d p pt len dep : Nat} {B : Pl} {o : Bool} {t : Tp} {is op ar : Int32} (hd : 3 ≤ d) (hG : sm_G y R) (hx : mX t o I L p pt len B dep) (hn0 : ¬ is = 0 → tkK t p ≠ 0)
    (kf : (is = 0 ∨ 50 ≤ pt) → Q none (n, y, mBad p I, L, R))
    (kl : ¬ is = 0 → pt < 50 → ∀ (I' : Nat → Nat → Int32) (L' : Nat → Nat → Int64), mFx I I' → mL1 L L' → mX t o I' L' (nx t p) (pt + 1) (len + 1) B dep → cdO I' = cdW (cdO I) len (op, ar) → Q none (n, y, I', L', R)) : sm_W ex d 0 0 169 0 [some (.ref 123), some (.int is), some (.int op), some (.int ar)] [] (n, y, I, L, R) Q := by
  have hle := hx.le
  obtain ⟨s1, s2, s3, s4, s5, s6, s7, s8, s9, s10, s11, s12, s13⟩ := id hx
  have bad : (is = 0 ∨ 50 ≤ pt) → sm_W ex 2 0 0 157 0 [some (.ref 123), some (.int 0)] [] (n, y, I, L, R) (fun r μ1 => sm_W ex d 0 0 169 22 [some (.ref 123), some (.int is), some (.int op), some (.int ar)] (r.toList ++ []) μ1 Q) := fun h => by
    refine m_must (Nat.le_refl 2) hG s1 s4 (fun _ => ?_) (fun z => absurd rfl z)
    refine w_X11_leaf_22 (d1 := 0) hG (by omega) ?_
    rw [(hx.bad p).1, if_neg (by decide)]
    exact kf h
  refine w_X11_leaf_0 (d1 := 2) hG (by omega) ?_
  by_cases h0 : is = 0
  · rw [if_pos h0]
    exact bad (Or.inl h0)
  · rw [if_neg h0, s5]
    by_cases h50 : 50 ≤ pt
    · rw [if_pos (show (50 : Int32) ≤ nI pt from (nI_leI (a := 50) (by decide) (by omega)).mpr h50)]
      exact bad (Or.inr h50)
    · rw [if_neg (show ¬ (50 : Int32) ≤ nI pt from fun z => h50 ((nI_leI (a := 50) (by decide) (by omega)).mp z))]
      have hlt := nx_lt (hn0 h0)
      have hnb := (nx_b hle.1).2
      refine m_must (Nat.le_refl 2) hG s1 s4 (fun z => absurd z (by decide)) (fun _ I1 L1 f1 g1 r1 => ?_)
      have x1 := hx.nx f1 g1 (Nat.le_of_lt hlt) r1
      refine w_X11_leaf_22 (d1 := 0) hG (by omega) ?_
      rw [x1.2.2.2.1, if_pos rfl]
      refine m_emit hG x1.2.2.2.2.2.1 (by omega) ?_
      intro I2 f2 e23 ecd
      refine w_X11_leaf_35 hG ?_
      have e26 : I2 123 26 = nI pt := (f2 123 26 (by omega) (by decide) (by decide)).trans x1.2.2.2.2.1
      rw [e26, sm_n1]
      have fx : mFx I (sm_st I2 123 26 (nI (pt + 1))) := fun a j q1 q2 => by rw [sm_st_or _ _ (by omega), f2 a j (by omega) (by omega) (by omega), f1 a j (by omega)]
      have e2 : ∀ a j, ¬ (a = 123 ∧ (j = 23 ∨ j = 26)) → a ≠ 134 → a ≠ 135 → sm_st I2 123 26 (nI (pt + 1)) a j = I1 a j := fun a j q1 q2 q3 => by rw [sm_st_or _ _ (by omega), f2 a j (by omega) q2 q3]
      have ecd2 : cdO (sm_st I2 123 26 (nI (pt + 1))) = cdO I2 := by
        funext k
        show (sm_st I2 123 26 (nI (pt + 1)) 134 k, sm_st I2 123 26 (nI (pt + 1)) 135 k) = (I2 134 k, I2 135 k)
        rw [sm_st_o _ _ (by decide), sm_st_o _ _ (by decide)]
      refine kl h0 (by omega) _ L1 fx g1 ?_ (by rw [ecd2, ecd, f1.cd])
      obtain ⟨x1, x2, x3, x4, x5, x6, x7, x8, x9, x10, x11, x12, x13⟩ := x1
      exact ⟨mR_kept (fun j q1 q2 => e2 123 j (by omega) (by decide) (by decide)) (fun j => e2 132 j (by omega) (by decide) (by decide)) rfl x1, x2, (e2 123 20 (by omega) (by decide) (by decide)).trans x3, (e2 123 19 (by omega) (by decide) (by decide)).trans x4, sm_st_s _ _ _ _, (sm_st_j _ _ (by decide)).trans e23, (e2 123 29 (by omega) (by decide) (by decide)).trans x7, mPl_kept B (fun j _ => ⟨e2 136 j (by omega) (by decide) (by decide), e2 137 j (by omega) (by decide) (by decide)⟩) x8, (e2 123 30 (by omega) (by decide) (by decide)).trans x9, by omega, x11, by omega, x13⟩
theorem m_open {ex : sm_O} {n : Nat} {y : sm_Y} {I : Nat → Nat → Int32} {L : Nat → Nat → Int64} {R : Nat → Nat → Option Nat} {Q : sm_Q} {d p pt len dep op : Nat} {B : Pl} {o : Bool} {t : Tp} (hd : 3 ≤ d) (hG : sm_G y R) (hx : mX t o I L p pt len B dep) (hn0 : tkK t p ≠ 0) (hop : 20 ≤ op ∧ op ≤ 32)
    (kf : ¬ dep < 8 → Q none (n, y, mBad p I, L, R))
    (kl : dep < 8 → ∀ (I' : Nat → Nat → Int32) (L' : Nat → Nat → Int64), mFx I I' → mL1 L L' → mX t o I' L' (nx t p) pt len ((op, 0) :: B) (dep + 1) → cdO I' = cdO I → Q none (n, y, I', L', R)) : sm_W ex d 0 0 168 0 [some (.ref 123), some (.int (nI op))] [] (n, y, I, L, R) Q := by
  have hle := hx.le
  obtain ⟨s1, s2, s3, s4, s5, s6, s7, s8, s9, s10, s11, s12, s13⟩ := id hx
  refine w_X11_openBracket_0 (d1 := 2) hG (by omega) ?_
  rw [s9]
  by_cases h8 : dep < 8
  · rw [if_neg (show ¬ (8 : Int32) ≤ nI dep from fun z => by have := (nI_leI (a := 8) (by decide) (by omega)).mp z; omega)]
    have hlt := nx_lt hn0
    have hnb := (nx_b hle.1).2
    refine m_must (Nat.le_refl 2) hG s1 s4 (fun z => absurd z (by decide)) (fun _ I1 L1 f1 g1 r1 => ?_)
    have x1 := hx.nx f1 g1 (Nat.le_of_lt hlt) r1
    refine w_X11_openBracket_18 (d1 := 0) hG (by omega) ?_
    obtain ⟨x1, x2, x3, x4, x5, x6, x7, x8, x9, x10, x11, x12, x13⟩ := x1
    rw [x4, if_pos rfl, x9, sm_n1]
    refine m_push (op := op) (at_ := 0) hG ((sm_st_j _ _ (by decide)).trans x7) (mPl_kept B (fun j _ => ⟨sm_st_o _ _ (by decide), sm_st_o _ _ (by decide)⟩) x8) (by omega) ?_
    intro I2 f2 e29 pl2
    refine w_X11_openBracket_41 ?_
    have e2 : ∀ a j, ¬ (a = 123 ∧ (j = 29 ∨ j = 30)) → a ≠ 136 → a ≠ 137 → I2 a j = I1 a j := fun a j q1 q2 q3 => by rw [f2 a j (by omega) q2 q3, sm_st_or _ _ (by omega)]
    refine kl h8 I2 L1 (fun a j q1 q2 => by rw [e2 a j (by omega) (by omega) (by omega), f1 a j (by omega)]) g1 ?_ ?_
    · exact ⟨mR_kept (fun j q1 q2 => e2 123 j (by omega) (by decide) (by decide)) (fun j => e2 132 j (by omega) (by decide) (by decide)) rfl x1, x2, (e2 123 20 (by omega) (by decide) (by decide)).trans x3, (e2 123 19 (by omega) (by decide) (by decide)).trans x4, (e2 123 26 (by omega) (by decide) (by decide)).trans x5, (e2 123 23 (by omega) (by decide) (by decide)).trans x6, e29, pl2, (f2 123 30 (by omega) (by decide) (by decide)).trans (sm_st_s _ _ _ _), by simp only [List.length_cons]; omega, fun z hz => by
        rcases List.mem_cons.mp hz with hz | hz
        · rw [hz]; exact ⟨hop.1, hop.2, by show 0 < 400; decide⟩
        · exact x11 z hz, x12, by omega⟩
    · rw [← f1.cd]
      funext k
      show (I2 134 k, I2 135 k) = (I1 134 k, I1 135 k)
      rw [e2 134 k (by omega) (by decide) (by decide), e2 135 k (by omega) (by decide) (by decide)]
  · rw [if_pos (show (8 : Int32) ≤ nI dep from (nI_leI (a := 8) (by decide) (by omega)).mpr (by omega))]
    refine m_must (Nat.le_refl 2) hG s1 s4 (fun _ => ?_) (fun z => absurd rfl z)
    refine w_X11_openBracket_18 (d1 := 0) hG (by omega) ?_
    rw [(hx.bad p).1, if_neg (by decide)]
    exact w_X11_openBracket_41 (kf h8)
set_option maxHeartbeats 1000000 in
theorem m_readPart {ex : sm_O} {n : Nat} {y : sm_Y} {I : Nat → Nat → Int32} {L : Nat → Nat → Int64} {R : Nat → Nat → Option Nat} {Q : sm_Q} {d p pt len dep : Nat} {B : Pl} {o : Bool} {t : Tp} {w1 w2 w3 : Option Value} (hd : 4 ≤ d) (hG : sm_G y R) (hx : mX t o I L p pt len B dep)
    (kb : ∀ (I' : Nat → Nat → Int32) (L' : Nat → Nat → Int64), isG t p 91 → dep < 8 → mFx I I' → mL1 L L' → mX t o I' L' (nx t p) pt len ((32, 0) :: B) (dep + 1) → cdO I' = cdO I → Q (some (.int 1)) (n, y, I', L', R))
    (kbf : isG t p 91 → ¬ dep < 8 → Q (some (.int 1)) (n, y, mBad p I, L, R))
    (kf : ∀ (I' : Nat → Nat → Int32) (L' : Nat → Nat → Int64) (q : Nat), ¬ isG t p 91 → rLeaf t o p pt = .inl q → mFx I I' → mL1 L L' → mY q I' → Q (some (.int 3)) (n, y, I', L', R))
    (kl : ∀ (I' : Nat → Nat → Int32) (L' : Nat → Nat → Int64) (q pt' : Nat) (D : DD), ¬ isG t p 91 → rLeaf t o p pt = .inr (q, pt', D) → mFx I I' → mL1 L L' → mX t o I' L' q pt' (len + 1) B dep → (∀ k, k < len → cdO I' k = cdO I k) → mSX (wdO o) (cdO I') len (len + 1) D → Q (some (.int 3)) (n, y, I', L', R)) :
    sm_W ex d 0 0 170 0 [some (.ref 123), w1, w2, w3] [] (n, y, I, L, R) Q := by
  have hle := hx.le
  obtain ⟨s1, s2, s3, s4, s5, s6, s7, s8, s9, s10, s11, s12, s13⟩ := id hx
  refine w_X11_readPart_0 (d1 := 3) hG (by omega) ?_
  refine m_sign (c := 91) hG s1 (by decide) (fun hn => ?_) (fun hy => ?_)
  · have kf := fun I' L' q => kf I' L' q hn
    have kl := fun I' L' q pt' D => kl I' L' q pt' D hn
    have hkl := tkK_le t p
    -- behind the leaf
    have bad : ∀ (its a2 : Int32) (u3 : Option Value) (I' : Nat → Nat → Int32) (L' : Nat → Nat → Int64) (q : Nat), rLeaf t o p pt = .inl q → mFx I I' → mL1 L L' → mY q I' → sm_W ex d 0 0 170 102 [some (.ref 123), some (.int its), some (.int a2), u3] [] (n, y, I', L', R) Q := by
      intro its a2 u3 I' L' q e f g hY
      have fin := kf I' L' q e f g hY
      refine w_X11_readPart_102 (d1 := 3) hG (by omega) ?_
      by_cases c1 : I' 123 20 = 0
      · rw [if_pos c1]; exact w_X11_readPart_143 fin
      · rw [if_neg c1]
        by_cases c2 : its < 7
        · rw [if_pos c2]; exact w_X11_readPart_143 fin
        · rw [if_neg c2, hY.1, if_neg (by decide)]; exact w_X11_readPart_143 fin
    -- to the leaf
    have at99 : ∀ (its a2 : Int32) (u3 : Option Value) (is op ar : Int32), (¬ is = 0 → tkK t p ≠ 0) → ((is = 0 ∨ 50 ≤ pt) → rLeaf t o p pt = .inl p) → (¬ is = 0 → pt < 50 → ∀ (I' : Nat → Nat → Int32) (L' : Nat → Nat → Int64), mFx I I' → mL1 L L' → mX t o I' L' (nx t p) (pt + 1) (len + 1) B dep → cdO I' = cdW (cdO I) len (op, ar) → sm_W ex d 0 0 170 102 [some (.ref 123), some (.int its), some (.int a2), u3] [] (n, y, I', L', R) Q) → sm_W ex d 0 0 170 99 [some (.ref 123), some (.int its), some (.int a2), u3] [.int ar, .int op, .int is, .ref 123] (n, y, I, L, R) Q := by
      intro its a2 u3 is op ar hn0 hf hl
      refine w_X11_readPart_99 (d1 := 3) hG (by omega) ?_
      exact m_leaf (Nat.le_refl 3) hG hx hn0 (fun h => bad its a2 u3 _ _ p (hf h) (mBad_X p I) (mL1.rfl' L) (hx.bad p)) hl
    have main : ∀ its : Int32, its = pI 1 (wIx (if o = true then ordWords else lawWords) (tkWd t p)) → sm_W ex d 0 0 170 35 [some (.ref 123), w1, w2, w3] [.int its] (n, y, I, L, R) Q := by
      intro its hits
      refine w_X11_readPart_35 hG ?_
      rw [s1.2.2.2.1]
      have e2 : nI (tkK t p) = 2 ↔ tkK t p = 2 := nI_eq (b := 2) (by omega) (by decide)
      simp only [e2]
      by_cases hk : tkK t p = 2
      · -- digits
        have hw : tkWd t p = [] := by unfold tkWd; rw [if_neg (by omega)]
        rw [hw, wIx_nil _ (by cases o <;> decide)] at hits
        have hits : its = -1 := hits
        obtain ⟨u, u1, u2, u3, u4⟩ := s1.2.2.2.2.1.2.2 hk
        rw [if_pos hk, u1]
        have g : 0 < lg_cmp (lN u) 1000 ↔ 1000 < u := by rw [sm_cmp_gt, sm_ofl 1000, Int64.lt_iff_toInt_lt, pk_lT (by omega), pk_lT (by omega)]; omega
        simp only [g]
        have hr : ¬ 50 ≤ pt → rLeaf t o p pt = if tkN t p ≤ 1000 then .inr ((nx t p), (pt + 1), (dNum (tkN t p))) else .inl p := fun h => by
          unfold rLeaf
          rw [if_neg h, if_pos hk]
        have hr50 : 50 ≤ pt → rLeaf t o p pt = .inl p := fun h => by
          unfold rLeaf
          rw [if_pos h]
        by_cases hu : 1000 < u
        · have hN : ¬ tkN t p ≤ 1000 := fun z => by have := u3 (by omega); omega
          rw [if_pos hu]
          refine w_X11_readPart_59 ?_
          refine w_X11_readPart_60 ?_
          rw [if_pos hits, if_pos rfl]
          refine w_X11_readPart_76 ?_
          rw [if_pos hits]
          refine w_X11_readPart_86 hG ?_
          rw [if_pos rfl]
          refine at99 _ _ _ _ _ _ (fun z => absurd rfl z) (fun _ => ?_) (fun z => absurd rfl z)
          by_cases h50 : 50 ≤ pt
          · exact hr50 h50
          · rw [hr h50, if_neg hN]
        · have hN : tkN t p ≤ 1000 ∧ u = tkN t p := by
            by_cases z : tkN t p ≤ 1000000
            · have := u3 z; omega
            · have := u4 (by omega); omega
          rw [if_neg hu]
          refine w_X11_readPart_60 ?_
          rw [if_pos hits, if_neg (by decide)]
          refine w_X11_readPart_71 ?_
          refine w_X11_readPart_76 ?_
          rw [if_pos hits]
          refine w_X11_readPart_86 hG ?_
          rw [if_neg (by decide), u1, lN_i, hN.2]
          refine at99 _ _ _ _ _ _ (fun _ => by omega) (fun z => ?_) (fun _ h50 I' L' f g x ecd => ?_)
          · rcases z with z | z
            · exact absurd z (by decide)
            · exact hr50 z
          · refine w_X11_readPart_102 (d1 := 3) hG (by omega) ?_
            have fin : Q (some (.int 3)) (n, y, I', L', R) := kl I' L' _ _ _ (by rw [hr (by omega), if_pos hN.1]) f g x (fun k hk => by rw [ecd]; exact if_neg (by omega)) (ms_num (by rw [ecd]; exact if_pos rfl) hN.1)
            by_cases c1 : I' 123 20 = 0
            · rw [if_pos c1]; exact w_X11_readPart_143 fin
            · rw [if_neg c1, hits, if_pos (by decide)]; exact w_X11_readPart_143 fin
      · -- no digits
        rw [if_neg hk]
        refine w_X11_readPart_59 ?_
        refine w_X11_readPart_60 ?_
        have hr50 : 50 ≤ pt → rLeaf t o p pt = .inl p := fun h => by
          unfold rLeaf
          rw [if_pos h]
        cases hw : wIx (if o = true then ordWords else lawWords) (tkWd t p) with
        | none =>
          rw [hw] at hits
          have hits : its = -1 := hits
          rw [if_pos hits, if_pos rfl]
          refine w_X11_readPart_76 ?_
          rw [if_pos hits]
          refine w_X11_readPart_86 hG ?_
          rw [if_pos rfl]
          refine at99 _ _ _ _ _ _ (fun z => absurd rfl z) (fun _ => ?_) (fun z => absurd rfl z)
          by_cases h50 : 50 ≤ pt
          · exact hr50 h50
          · unfold rLeaf
            rw [if_neg h50, if_neg hk, hw]
        | some i =>
          rw [hw] at hits
          have hits : its = nI (i + 1) := hits
          have hi := wIx_lt _ _ _ hw
          have hi8 : (o = true → i < 7) ∧ (¬ o = true → i < 8) := by
            constructor
            · intro z; rw [if_pos z] at hi; exact hi.1
            · intro z; rw [if_neg z] at hi; exact hi.1
          have hi8' : i < 8 := by
            by_cases z : o = true
            · have := hi8.1 z; omega
            · exact hi8.2 z
          have hlen2 : 2 ≤ (tkWd t p).length := wIx_ne hw (by cases o <;> decide)
          obtain ⟨ek, eE, eN, ept⟩ := tkW_k (t := t) (p := p) rfl (by intro z; rw [z] at hlen2; exact absurd hlen2 (by decide))
          have hr : ¬ 50 ≤ pt → rLeaf t o p pt = if o = true ∧ i = 6 then (if tkK t (nx t p) = 2 ∧ tkN t (nx t p) ≤ 6 then .inr ((nx t (nx t p)), (pt + 1), (dWd (6 + tkN t (nx t p)))) else .inl (nx t p)) else .inr ((nx t p), (pt + 1), (dWd i)) := fun h => by
            unfold rLeaf
            rw [if_neg h, if_neg hk, hw]
          have hne : ¬ its = -1 := by rw [hits]; exact nI_m1 (by omega)
          rw [if_neg hne]
          refine w_X11_readPart_71 ?_
          refine w_X11_readPart_76 ?_
          rw [if_neg hne]
          refine w_X11_readPart_86 hG ?_
          rw [if_pos rfl]
          refine at99 _ _ _ _ _ _ (fun _ => by omega) (fun z => ?_) (fun _ h50 I' L' f g x ecd => ?_)
          · rcases z with z | z
            · exact absurd z (by decide)
            · exact hr50 z
          · have hr := hr (by omega)
            have agr : ∀ k, k < len → cdO I' k = cdO I k := fun k hk => by rw [ecd]; exact if_neg (by omega)
            have atl : cdO I' len = (its, 0) := by rw [ecd]; exact if_pos rfl
            have h1its : 0 < its := by rw [hits]; exact (nI_ltI (a := 0) (by decide) (by omega)).mpr (by omega)
            have h9its : its < 9 := by rw [hits]; exact (nI_ltI (b := 9) (by omega) (by decide)).mpr (by omega)
            refine w_X11_readPart_102 (d1 := 3) hG (by omega) ?_
            rw [x.2.2.1]
            by_cases ho : o = true
            · rw [if_pos ho, if_neg (show ¬ (1 : Int32) = 0 by decide)]
              have c7 : its < 7 ↔ i < 6 := by rw [hits]; exact (nI_ltI (b := 7) (by omega) (by decide)).trans (by omega)
              have hi7 := hi8.1 ho
              simp only [c7]
              by_cases h6 : i < 6
              · rw [if_neg (by omega)] at hr
                rw [if_pos h6]
                refine w_X11_readPart_143 (kl I' L' _ _ _ hr f g x agr (ms_wd atl h1its h9its (fun lf => ?_)))
                unfold wdO
                rw [if_pos ho]
                unfold mWo
                rw [if_pos h6, hits]
              · have hi6 : i = 6 := by omega
                rw [if_pos ⟨ho, hi6⟩] at hr
                rw [if_neg h6, x.2.2.2.1, if_pos rfl, x.2.2.2.2.2.1, sm_sub1, pk_m1]
                have hxl := x.le
                refine m_number (lo := 0) (hi := 6) (Nat.le_refl 3) hG x.1 x.2.2.2.1 (by decide) (by decide) (fun hno v => ?_) (fun hyes I2 L2 f2 g2 r2 => ?_)
                · rw [if_neg (fun z => hno ⟨z.1, by omega, z.2⟩)] at hr
                  refine w_X11_readPart_142 hG ?_
                  rw [nI_clamp (by omega)]
                  refine ⟨vp_in_nI (by omega) (by decide), ?_⟩
                  refine w_X11_readPart_143 (kf _ _ _ hr ((f.trans (mBad_X _ _)).trans (fun a j q1 q2 => sm_st_o _ _ (by omega))) g ?_)
                  obtain ⟨y1, y2, l, BB, y3, y4, y5, y6, y7⟩ := x.bad (nx t p)
                  exact ⟨(sm_st_o _ _ (by decide)).trans y1, (sm_st_o _ _ (by decide)).trans y2, l, BB, (sm_st_o _ _ (by decide)).trans y3, (sm_st_o _ _ (by decide)).trans y4, mPl_kept BB (fun j _ => ⟨sm_st_o _ _ (by decide), sm_st_o _ _ (by decide)⟩) y5, y6, y7⟩
                · rw [if_pos ⟨hyes.1, hyes.2.2⟩] at hr
                  refine w_X11_readPart_142 hG ?_
                  rw [nI_clamp (by omega)]
                  refine ⟨vp_in_nI (by omega) (by decide), ?_⟩
                  have hlt2 := nx_lt (t := t) (p := nx t p) (by omega)
                  have x2 := x.nx f2 g2 (Nat.le_of_lt hlt2) r2
                  have e135 : ∀ a j, a ≠ 135 → sm_st I2 135 len (nI (tkN t (nx t p))) a j = I2 a j := fun a j q => sm_st_o _ _ q
                  have fx : mFx I (sm_st I2 135 len (nI (tkN t (nx t p)))) := (f.trans f2.X).trans (fun a j q1 q2 => e135 a j (by omega))
                  have x3 : mX t o (sm_st I2 135 len (nI (tkN t (nx t p)))) L2 (nx t (nx t p)) (pt + 1) (len + 1) B dep := by
                    obtain ⟨z1, z2, z3, z4, z5, z6, z7, z8, z9, z10, z11, z12, z13⟩ := x2
                    exact ⟨mR_kept (fun j _ _ => e135 123 j (by decide)) (fun j => e135 132 j (by decide)) rfl z1, z2, (e135 _ _ (by decide)).trans z3, (e135 _ _ (by decide)).trans z4, (e135 _ _ (by decide)).trans z5, (e135 _ _ (by decide)).trans z6, (e135 _ _ (by decide)).trans z7, mPl_kept B (fun j _ => ⟨e135 136 j (by decide), e135 137 j (by decide)⟩) z8, (e135 _ _ (by decide)).trans z9, z10, z11, z12, z13⟩
                  have ecd3 : ∀ k, cdO (sm_st I2 135 len (nI (tkN t (nx t p)))) k = (if k = len then (its, nI (tkN t (nx t p))) else cdO I k) := fun k => by
                    have ek : cdO I2 k = cdO I' k := by rw [f2.cd]
                    have ek2 : (I2 134 k, I2 135 k) = cdO I' k := ek
                    show (sm_st I2 135 len (nI (tkN t (nx t p))) 134 k, sm_st I2 135 len (nI (tkN t (nx t p))) 135 k) = _
                    rw [sm_st_o _ _ (by decide)]
                    by_cases z : k = len
                    · rw [z] at ek2
                      rw [atl] at ek2
                      rw [if_pos z, z, sm_st_s, show I2 134 len = its from congrArg Prod.fst ek2]
                    · rw [if_neg z, sm_st_j _ _ z, ek2, ecd]
                      exact if_neg z
                  refine w_X11_readPart_143 (kl _ L2 _ _ _ hr fx (g.trans g2) x3 (fun k hk => by rw [ecd3]; exact if_neg (by omega)) (ms_wd (op := its) (ar := nI (tkN t (nx t p))) (by rw [ecd3]; exact if_pos rfl) h1its h9its (fun lf => ?_)))
                  have h66 := hyes.2.2
                  unfold wdO
                  rw [if_pos ho]
                  unfold mWo
                  rw [if_neg (by omega), if_pos (by omega), show 6 + tkN t (nx t p) - 6 = tkN t (nx t p) by omega, hits, hi6]
                  rfl
            · rw [if_neg ho, if_pos rfl]
              rw [if_neg (fun z => ho z.1)] at hr
              refine w_X11_readPart_143 (kl I' L' _ _ _ hr f g x agr (ms_wd atl h1its h9its (fun lf => ?_)))
              unfold wdO
              rw [if_neg ho]
              unfold mWd
              rw [if_pos (hi8.2 ho), hits]
    refine w_X11_readPart_6 (d1 := 3) hG (by omega) ?_
    rw [if_pos rfl, s3]
    by_cases ho : o = true
    · rw [if_pos ho, if_neg (show ¬ (1 : Int32) = 0 by decide)]
      refine m_orderPartAt (by omega) hG s1 s2 ?_
      refine w_X11_readPart_28 (main _ ?_)
      rw [if_pos ho]
    · rw [if_neg ho, if_pos rfl]
      refine m_partAt (by omega) hG s1 s2 ?_
      refine main _ ?_
      rw [if_neg ho]
  · refine w_X11_readPart_6 (d1 := 3) hG (by omega) ?_
    rw [if_neg (by decide)]
    refine m_open (op := 32) (Nat.le_refl 3) hG hx (by rw [hy.1]; decide) (by omega) (fun h => ?_) (fun h I' L' f g x e => ?_)
    · exact w_X11_readPart_15 (kbf hy h)
    · exact w_X11_readPart_15 (kb I' L' hy h f g x e)
theorem wdNot_g : gW wdNot ∧ gW wdAnd ∧ gW wdOr ∧ gW wdIf ∧ gW wdTimes := by unfold gW; decide
theorem m_enter {ex : sm_O} {n : Nat} {y : sm_Y} {I : Nat → Nat → Int32} {L : Nat → Nat → Int64} {R : Nat → Nat → Option Nat} {Q : sm_Q} {d p pt len dep : Nat} {B : Pl} {o : Bool} {t : Tp} {a1 st : Int32} (hd : 6 ≤ d) (hG : sm_G y R) (hx : mX t o I L p pt len B dep) (hst : st = 1 ∨ st = 0 ∧ ¬ tkWd t p = wdNot ∧ ¬ isG t p 40)
    (k : ∀ (dd : Nat) (Q' : sm_Q), 4 ≤ dd → (∀ (s : Int32) (I' : Nat → Nat → Int32) (L' : Nat → Nat → Int64), sm_W ex d 0 0 174 20 [some (.ref 123), some (.int a1), some (.int s)] [] (n, y, I', L', R) Q → Q' (some (.int s)) (n, y, I', L', R)) → sm_W ex dd 0 0 170 0 [some (.ref 123), none, none, none] [] (n, y, I, L, R) Q') :
    sm_W ex d 0 0 174 20 [some (.ref 123), some (.int a1), some (.int st)] [] (n, y, I, L, R) Q := by
  refine w_X11_readExpression_20 (d1 := 5) hG (by omega) ?_
  rw [hx.2.2.2.1, if_pos rfl]
  rcases hst with rfl | ⟨rfl, h1, h2⟩
  · rw [if_neg (by decide), if_neg (by decide), if_pos rfl]
    refine k 5 _ (by decide) (fun s I' L' h => ?_)
    exact w_X11_readExpression_52 (w_X11_readExpression_72 h)
  · rw [if_neg (by decide), if_pos rfl]
    refine w_X11_readPlain_0 (d1 := 4) hG (by omega) ?_
    refine m_word (w := wdNot) hG hx.1 rfl wdNot_g.1 (fun _ => ?_) (fun z => absurd z h1)
    refine w_X11_readPlain_7 (d1 := 4) hG (by omega) ?_
    rw [if_pos rfl]
    refine m_sign (c := 40) hG hx.1 (by decide) (fun _ => ?_) (fun z => absurd z h2)
    refine w_X11_readPlain_29 (d1 := 4) hG (by omega) ?_
    rw [if_pos rfl]
    refine k 4 _ (by decide) (fun s I' L' h => ?_)
    exact w_X11_readPlain_44 (w_X11_readExpression_40 (w_X11_readExpression_72 h))

