set_option maxRecDepth 100000 in
theorem w_X7_number_0 {ex : sm_O} {d n : Nat} {y : sm_Y} {I : Nat → Nat → Int32} {L : Nat → Nat → Int64} {R : Nat → Nat → Option Nat} {Q : sm_Q} {w1 : Option Value} {d1 : Nat} (hG : sm_G y R) (h1 : d1 < d) (k : sm_W ex d1 0 0 54 0 [some (.ref 120), some (.int 0), some (.int 1000), none, none] [] (n, y, I, L, R) (fun r μ1 => sm_W ex d 0 0 48 8 [some (.ref 120), w1] (r.toList ++ []) μ1 Q)) : sm_W ex d 0 0 48 0 [some (.ref 120), w1] [] (n, y, I, L, R) Q := sm_in (sm_in (sm_in (sm_in (Exists.intro 7 (And.intro (hG.1 120 (Nat.le_of_ble_eq_true rfl)) (And.intro rfl (sm_calln h1 (Nat.le_of_ble_eq_true rfl) (Nat.le_of_ble_eq_true rfl) k)))))))
set_option maxRecDepth 100000 in
theorem w_X7_number_8 {ex : sm_O} {d n : Nat} {y : sm_Y} {I : Nat → Nat → Int32} {L : Nat → Nat → Int64} {R : Nat → Nat → Option Nat} {Q : sm_Q} {w1 : Option Value} {s0 : Int32} {q0 : Nat} {ns0 nc0 : Nat} {d1 : Nat} (hG : sm_G y R) (ho0 : ok6 y R q0 ns0 nc0) (h1 : R 120 3 = some q0) (h2 : d1 < d) (k : if s0 = (-1) then (Q (some (.int 0)) (n, y, I, L, R)) else (sm_W ex d1 0 0 37 0 [some (.ref q0), some (.int 1), some (.int s0)] [] (n, y, I, L, R) (fun r μ1 => sm_W ex d 0 0 48 23 [some (.ref 120), some (.int s0)] (r.toList ++ []) μ1 Q))) : sm_W ex d 0 0 48 8 [some (.ref 120), w1] [.int s0] (n, y, I, L, R) Q := sm_in (And.intro (Nat.le_of_ble_eq_true rfl) (sm_in (sm_in (sm_in (And.intro (fun c1 => have k1t := Eq.mp (if_pos c1) k; sm_in (sm_in (And.intro rfl (And.intro (Or.inl rfl) k1t)))) (fun c1 => have k1f := Eq.mp (if_neg c1) k; sm_in (sm_in (And.intro (hG.1 120 (Nat.le_of_ble_eq_true rfl)) (sm_gfr rfl h1 (sm_in (sm_in (sm_in (Exists.intro 6 (And.intro (ok6_y0 ho0) (And.intro rfl (sm_calln h2 (Nat.le_of_ble_eq_true rfl) (Nat.le_of_ble_eq_true rfl) k1f))))))))))))))))
set_option maxRecDepth 100000 in
theorem w_X7_number_23 {ex : sm_O} {d n : Nat} {y : sm_Y} {I : Nat → Nat → Int32} {L : Nat → Nat → Int64} {R : Nat → Nat → Option Nat} {Q : sm_Q} {w1 : Option Value} {s0 : Int32} {d1 : Nat} (hG : sm_G y R) (h1 : d1 < d) (k : if s0 = 0 then (Q (some (.int 0)) (n, y, I, L, R)) else (sm_W ex d1 0 0 50 0 [some (.ref 120)] [] (n, y, I, L, R) (fun r μ1 => sm_W ex d 0 0 48 32 [some (.ref 120), w1] (r.toList ++ []) μ1 Q))) : sm_W ex d 0 0 48 23 [some (.ref 120), w1] [.int s0] (n, y, I, L, R) Q := sm_in (And.intro (fun c1 => have k1f := Eq.mp (if_neg c1) k; sm_in (sm_in (Exists.intro 7 (And.intro (hG.1 120 (Nat.le_of_ble_eq_true rfl)) (And.intro rfl (sm_calln h1 (Nat.le_of_ble_eq_true rfl) (Nat.le_of_ble_eq_true rfl) k1f)))))) (fun c1 => have k1t := Eq.mp (if_pos c1) k; sm_in (sm_in (And.intro rfl (And.intro (Or.inl rfl) k1t)))))
set_option maxRecDepth 100000 in
theorem w_X7_number_32 {ex : sm_O} {d n : Nat} {y : sm_Y} {I : Nat → Nat → Int32} {L : Nat → Nat → Int64} {R : Nat → Nat → Option Nat} {Q : sm_Q} {w0 : Option Value} {w1 : Option Value} (k : Q (some (.int 1)) (n, y, I, L, R)) : sm_W ex d 0 0 48 32 [w0, w1] [] (n, y, I, L, R) Q := sm_in (sm_in (And.intro rfl (And.intro (Or.inr rfl) k)))
set_option maxRecDepth 100000 in
theorem w_X7_word_0 {ex : sm_O} {d n : Nat} {y : sm_Y} {I : Nat → Nat → Int32} {L : Nat → Nat → Int64} {R : Nat → Nat → Option Nat} {Q : sm_Q} {w1 : Option Value} {w2 : Option Value} {d1 : Nat} (hG : sm_G y R) (h1 : d1 < d) (k : if (I 120 2) = 0 then (sm_W ex d1 0 0 53 0 [some (.ref 120), some (.retAddr 10), none, none, none, none, none] [] (n, y, I, L, R) (fun r μ1 => sm_W ex d 0 0 49 18 [some (.ref 120), w1, w2] (r.toList ++ []) μ1 Q)) else (sm_W ex d1 0 0 53 0 [some (.ref 120), some (.retAddr 9), none, none, none, none, none] [] (n, y, I, L, R) (fun r μ1 => sm_W ex d 0 0 49 18 [some (.ref 120), w1, w2] (r.toList ++ []) μ1 Q))) : sm_W ex d 0 0 49 0 [some (.ref 120), w1, w2] [] (n, y, I, L, R) Q := sm_in (sm_in (sm_in (And.intro (hG.1 120 (Nat.le_of_ble_eq_true rfl)) (sm_in (And.intro (fun c1 => have k1t := Eq.mp (if_pos c1) k; sm_in (sm_in (Exists.intro 7 (And.intro (hG.1 120 (Nat.le_of_ble_eq_true rfl)) (And.intro rfl (sm_calln h1 (Nat.le_of_ble_eq_true rfl) (Nat.le_of_ble_eq_true rfl) k1t)))))) (fun c1 => have k1f := Eq.mp (if_neg c1) k; sm_in (sm_in (sm_in (Exists.intro 7 (And.intro (hG.1 120 (Nat.le_of_ble_eq_true rfl)) (And.intro rfl (sm_calln h1 (Nat.le_of_ble_eq_true rfl) (Nat.le_of_ble_eq_true rfl) k1f))))))))))))
set_option maxRecDepth 100000 in
theorem w_X7_word_18 {ex : sm_O} {d n : Nat} {y : sm_Y} {I : Nat → Nat → Int32} {L : Nat → Nat → Int64} {R : Nat → Nat → Option Nat} {Q : sm_Q} {w1 : Option Value} {w2 : Option Value} {s0 : Int32} {d1 : Nat} (hG : sm_G y R) (h1 : d1 < d) (k : if s0 = (-1) then (Q (some (.int 0)) (n, y, I, L, R)) else (sm_W ex d1 0 0 50 0 [some (.ref 120)] [] (n, y, I, L, R) (fun r μ1 => sm_W ex d 0 0 49 30 [some (.ref 120), some (.int s0), w2] (r.toList ++ []) μ1 Q))) : sm_W ex d 0 0 49 18 [some (.ref 120), w1, w2] [.int s0] (n, y, I, L, R) Q := sm_in (And.intro (Nat.le_of_ble_eq_true rfl) (sm_in (sm_in (sm_in (And.intro (fun c1 => have k1f := Eq.mp (if_neg c1) k; sm_in (sm_in (Exists.intro 7 (And.intro (hG.1 120 (Nat.le_of_ble_eq_true rfl)) (And.intro rfl (sm_calln h1 (Nat.le_of_ble_eq_true rfl) (Nat.le_of_ble_eq_true rfl) k1f)))))) (fun c1 => have k1t := Eq.mp (if_pos c1) k; sm_in (sm_in (And.intro rfl (And.intro (Or.inl rfl) k1t)))))))))
set_option maxRecDepth 100000 in
theorem w_X7_word_30 {ex : sm_O} {d n : Nat} {y : sm_Y} {I : Nat → Nat → Int32} {L : Nat → Nat → Int64} {R : Nat → Nat → Option Nat} {Q : sm_Q} {w2 : Option Value} {a1 : Int32} {d1 : Nat} (hG : sm_G y R) (h1 : d1 < d) (k : if (I 120 2) = 0 then (sm_W ex d 0 0 49 66 [some (.ref 120), some (.int a1), w2] [] (n, y, I, L, R) Q) else (if a1 = 6 then (sm_W ex d1 0 0 54 0 [some (.ref 120), some (.int 0), some (.int 6), none, none] [] (n, y, I, L, R) (fun r μ1 => sm_W ex d 0 0 49 50 [some (.ref 120), some (.int a1), w2] (r.toList ++ []) μ1 Q)) else (sm_W ex d 0 0 49 66 [some (.ref 120), some (.int a1), w2] [] (n, y, I, L, R) Q))) : sm_W ex d 0 0 49 30 [some (.ref 120), some (.int a1), w2] [] (n, y, I, L, R) Q := sm_in (sm_in (And.intro (hG.1 120 (Nat.le_of_ble_eq_true rfl)) (sm_in (And.intro (fun c1 => have k1t := Eq.mp (if_pos c1) k; k1t) (fun c1 => have k1f := Eq.mp (if_neg c1) k; sm_in (sm_in (sm_in (And.intro (fun c2 => have k2f := Eq.mp (if_neg c2) k1f; k2f) (fun c2 => have k2t := Eq.mp (if_pos c2) k1f; sm_in (sm_in (sm_in (sm_in (Exists.intro 7 (And.intro (hG.1 120 (Nat.le_of_ble_eq_true rfl)) (And.intro rfl (sm_calln h1 (Nat.le_of_ble_eq_true rfl) (Nat.le_of_ble_eq_true rfl) k2t))))))))))))))))
set_option maxRecDepth 100000 in
theorem w_X7_word_50 {ex : sm_O} {d n : Nat} {y : sm_Y} {I : Nat → Nat → Int32} {L : Nat → Nat → Int64} {R : Nat → Nat → Option Nat} {Q : sm_Q} {w2 : Option Value} {a1 : Int32} {s0 : Int32} {d1 : Nat} (hG : sm_G y R) (h1 : d1 < d) (k : if s0 = (-1) then (Q (some (.int 0)) (n, y, I, L, R)) else (sm_W ex d1 0 0 50 0 [some (.ref 120)] [] (n, y, I, L, R) (fun r μ1 => sm_W ex d 0 0 49 66 [some (.ref 120), some (.int (a1 + s0)), some (.int s0)] (r.toList ++ []) μ1 Q))) : sm_W ex d 0 0 49 50 [some (.ref 120), some (.int a1), w2] [.int s0] (n, y, I, L, R) Q := sm_in (And.intro (Nat.le_of_ble_eq_true rfl) (sm_in (sm_in (sm_in (And.intro (fun c1 => have k1f := Eq.mp (if_neg c1) k; sm_in (sm_in (sm_in (sm_in (And.intro (Nat.le_of_ble_eq_true rfl) (sm_in (sm_in (Exists.intro 7 (And.intro (hG.1 120 (Nat.le_of_ble_eq_true rfl)) (And.intro rfl (sm_calln h1 (Nat.le_of_ble_eq_true rfl) (Nat.le_of_ble_eq_true rfl) k1f))))))))))) (fun c1 => have k1t := Eq.mp (if_pos c1) k; sm_in (sm_in (And.intro rfl (And.intro (Or.inl rfl) k1t)))))))))
set_option maxRecDepth 100000 in
theorem w_X7_word_66 {ex : sm_O} {d n : Nat} {y : sm_Y} {I : Nat → Nat → Int32} {L : Nat → Nat → Int64} {R : Nat → Nat → Option Nat} {Q : sm_Q} {w2 : Option Value} {a1 : Int32} {q0 : Nat} {ns0 nc0 : Nat} {d1 : Nat} (hG : sm_G y R) (ho0 : ok6 y R q0 ns0 nc0) (h1 : R 120 3 = some q0) (h2 : d1 < d) (k : sm_W ex d1 0 0 37 0 [some (.ref q0), some (.int 2), some (.int a1)] [] (n, y, I, L, R) (fun r μ1 => sm_W ex d 0 0 49 75 [some (.ref 120), some (.int a1), w2] (r.toList ++ []) μ1 Q)) : sm_W ex d 0 0 49 66 [some (.ref 120), some (.int a1), w2] [] (n, y, I, L, R) Q := sm_in (sm_in (And.intro (hG.1 120 (Nat.le_of_ble_eq_true rfl)) (sm_gfr rfl h1 (sm_in (sm_in (sm_in (Exists.intro 6 (And.intro (ok6_y0 ho0) (And.intro rfl (sm_calln h2 (Nat.le_of_ble_eq_true rfl) (Nat.le_of_ble_eq_true rfl) k))))))))))
set_option maxRecDepth 100000 in
theorem w_X7_word_75 {ex : sm_O} {d n : Nat} {y : sm_Y} {I : Nat → Nat → Int32} {L : Nat → Nat → Int64} {R : Nat → Nat → Option Nat} {Q : sm_Q} {w0 : Option Value} {w1 : Option Value} {w2 : Option Value} {s0 : Int32} (k : (s0 = 0 ∨ s0 = 1) ∧ Q (some (.int s0)) (n, y, I, L, R)) : sm_W ex d 0 0 49 75 [w0, w1, w2] [.int s0] (n, y, I, L, R) Q := (have e1 := k.1; have k1 := k.2; sm_in (And.intro rfl (And.intro e1 k1)))
set_option maxRecDepth 100000 in
theorem w_X7_part_0 {ex : sm_O} {d n : Nat} {y : sm_Y} {I : Nat → Nat → Int32} {L : Nat → Nat → Int64} {R : Nat → Nat → Option Nat} {Q : sm_Q} {w1 : Option Value} {d1 : Nat} (hG : sm_G y R) (h1 : d1 < d) (k : sm_W ex d1 0 0 52 0 [some (.ref 120), some (.int 91)] [] (n, y, I, L, R) (fun r μ1 => sm_W ex d 0 0 47 6 [some (.ref 120), w1] (r.toList ++ []) μ1 Q)) : sm_W ex d 0 0 47 0 [some (.ref 120), w1] [] (n, y, I, L, R) Q := sm_in (sm_in (sm_in (Exists.intro 7 (And.intro (hG.1 120 (Nat.le_of_ble_eq_true rfl)) (And.intro rfl (sm_calln h1 (Nat.le_of_ble_eq_true rfl) (Nat.le_of_ble_eq_true rfl) k))))))
set_option maxRecDepth 100000 in
theorem w_X7_part_6 {ex : sm_O} {d n : Nat} {y : sm_Y} {I : Nat → Nat → Int32} {L : Nat → Nat → Int64} {R : Nat → Nat → Option Nat} {Q : sm_Q} {a1 : Int32} {s0 : Int32} {d1 : Nat} (hG : sm_G y R) (h1 : d1 < d) (k : if s0 = 0 then (if (I 120 7) < 50 then (if (I 120 6) = 2 then (sm_W ex d1 0 0 48 0 [some (.ref 120), none] [] (n, y, sm_st I 120 7 ((I 120 7) + 1), L, R) (fun r μ1 => sm_W ex d 0 0 47 81 [some (.ref 120), some (.int a1)] (r.toList ++ []) μ1 Q)) else (sm_W ex d1 0 0 49 0 [some (.ref 120), none, none] [] (n, y, sm_st I 120 7 ((I 120 7) + 1), L, R) (fun r μ1 => sm_W ex d 0 0 47 88 [some (.ref 120), some (.int a1)] (r.toList ++ []) μ1 Q))) else (Q (some (.int 0)) (n, y, I, L, R))) else (if a1 < 8 then (sm_W ex d1 0 0 50 0 [some (.ref 120)] [] (n, y, I, L, R) (fun r μ1 => sm_W ex d 0 0 47 21 [some (.ref 120), some (.int a1)] (r.toList ++ []) μ1 Q)) else (Q (some (.int 0)) (n, y, I, L, R)))) : sm_W ex d 0 0 47 6 [some (.ref 120), some (.int a1)] [.int s0] (n, y, I, L, R) Q := sm_in (And.intro (fun c1 => have k1t := Eq.mp (if_pos c1) k; sm_in (sm_in (And.intro (hG.1 120 (Nat.le_of_ble_eq_true rfl)) (sm_in (sm_in (And.intro (fun c2 => have k2t := Eq.mp (if_pos c2) k1t; sm_in (sm_in (And.intro rfl (sm_in (And.intro (hG.1 120 (Nat.le_of_ble_eq_true rfl)) (sm_in (sm_in (sm_in (And.intro (hG.1 120 (Nat.le_of_ble_eq_true rfl)) (sm_in (sm_in (And.intro (hG.1 120 (Nat.le_of_ble_eq_true rfl)) (sm_in (sm_in (And.intro (fun c3 => have k3f := Eq.mp (if_neg c3) k2t; sm_in (sm_in (Exists.intro 7 (And.intro (hG.1 120 (Nat.le_of_ble_eq_true rfl)) (And.intro rfl (sm_calln h1 (Nat.le_of_ble_eq_true rfl) (Nat.le_of_ble_eq_true rfl) k3f)))))) (fun c3 => have k3t := Eq.mp (if_pos c3) k2t; sm_in (sm_in (Exists.intro 7 (And.intro (hG.1 120 (Nat.le_of_ble_eq_true rfl)) (And.intro rfl (sm_calln h1 (Nat.le_of_ble_eq_true rfl) (Nat.le_of_ble_eq_true rfl) k3t))))))))))))))))))))) (fun c2 => have k2f := Eq.mp (if_neg c2) k1t; sm_in (sm_in (And.intro rfl (And.intro (Or.inl rfl) k2f)))))))))) (fun c1 => have k1f := Eq.mp (if_neg c1) k; sm_in (sm_in (sm_in (And.intro (fun c4 => have k4t := Eq.mp (if_pos c4) k1f; sm_in (sm_in (Exists.intro 7 (And.intro (hG.1 120 (Nat.le_of_ble_eq_true rfl)) (And.intro rfl (sm_calln h1 (Nat.le_of_ble_eq_true rfl) (Nat.le_of_ble_eq_true rfl) k4t)))))) (fun c4 => have k4f := Eq.mp (if_neg c4) k1f; sm_in (sm_in (And.intro rfl (And.intro (Or.inl rfl) k4f)))))))))
set_option maxRecDepth 100000 in
theorem w_X7_part_21 {ex : sm_O} {d n : Nat} {y : sm_Y} {I : Nat → Nat → Int32} {L : Nat → Nat → Int64} {R : Nat → Nat → Option Nat} {Q : sm_Q} {a1 : Int32} {d1 : Nat} (hG : sm_G y R) (h1 : d1 < d) (k : sm_W ex d1 0 0 45 0 [some (.ref 120), some (.int (a1 + 1)), none, none, none] [] (n, y, I, L, R) (fun r μ1 => sm_W ex d 0 0 47 28 [some (.ref 120), some (.int a1)] (r.toList ++ []) μ1 Q)) : sm_W ex d 0 0 47 21 [some (.ref 120), some (.int a1)] [] (n, y, I, L, R) Q := sm_in (sm_in (sm_in (sm_in (sm_in (Exists.intro 7 (And.intro (hG.1 120 (Nat.le_of_ble_eq_true rfl)) (And.intro rfl (sm_calln h1 (Nat.le_of_ble_eq_true rfl) (Nat.le_of_ble_eq_true rfl) k))))))))
set_option maxRecDepth 100000 in
theorem w_X7_part_28 {ex : sm_O} {d n : Nat} {y : sm_Y} {I : Nat → Nat → Int32} {L : Nat → Nat → Int64} {R : Nat → Nat → Option Nat} {Q : sm_Q} {w1 : Option Value} {s0 : Int32} {d1 : Nat} (hG : sm_G y R) (h1 : d1 < d) (k : if s0 = 0 then (Q (some (.int 0)) (n, y, I, L, R)) else (sm_W ex d1 0 0 52 0 [some (.ref 120), some (.int 93)] [] (n, y, I, L, R) (fun r μ1 => sm_W ex d 0 0 47 37 [some (.ref 120), w1] (r.toList ++ []) μ1 Q))) : sm_W ex d 0 0 47 28 [some (.ref 120), w1] [.int s0] (n, y, I, L, R) Q := sm_in (And.intro (fun c1 => have k1t := Eq.mp (if_pos c1) k; sm_in (sm_in (And.intro rfl (And.intro (Or.inl rfl) k1t)))) (fun c1 => have k1f := Eq.mp (if_neg c1) k; sm_in (sm_in (sm_in (Exists.intro 7 (And.intro (hG.1 120 (Nat.le_of_ble_eq_true rfl)) (And.intro rfl (sm_calln h1 (Nat.le_of_ble_eq_true rfl) (Nat.le_of_ble_eq_true rfl) k1f))))))))
set_option maxRecDepth 100000 in
theorem w_X7_part_37 {ex : sm_O} {d n : Nat} {y : sm_Y} {I : Nat → Nat → Int32} {L : Nat → Nat → Int64} {R : Nat → Nat → Option Nat} {Q : sm_Q} {w1 : Option Value} {s0 : Int32} {d1 : Nat} (hG : sm_G y R) (h1 : d1 < d) (k : if s0 = 0 then (Q (some (.int 0)) (n, y, I, L, R)) else (sm_W ex d1 0 0 50 0 [some (.ref 120)] [] (n, y, I, L, R) (fun r μ1 => sm_W ex d 0 0 47 46 [some (.ref 120), w1] (r.toList ++ []) μ1 Q))) : sm_W ex d 0 0 47 37 [some (.ref 120), w1] [.int s0] (n, y, I, L, R) Q := sm_in (And.intro (fun c1 => have k1f := Eq.mp (if_neg c1) k; sm_in (sm_in (Exists.intro 7 (And.intro (hG.1 120 (Nat.le_of_ble_eq_true rfl)) (And.intro rfl (sm_calln h1 (Nat.le_of_ble_eq_true rfl) (Nat.le_of_ble_eq_true rfl) k1f)))))) (fun c1 => have k1t := Eq.mp (if_pos c1) k; sm_in (sm_in (And.intro rfl (And.intro (Or.inl rfl) k1t)))))
set_option maxRecDepth 100000 in
theorem w_X7_part_46 {ex : sm_O} {d n : Nat} {y : sm_Y} {I : Nat → Nat → Int32} {L : Nat → Nat → Int64} {R : Nat → Nat → Option Nat} {Q : sm_Q} {w0 : Option Value} {w1 : Option Value} (k : Q (some (.int 1)) (n, y, I, L, R)) : sm_W ex d 0 0 47 46 [w0, w1] [] (n, y, I, L, R) Q := sm_in (sm_in (And.intro rfl (And.intro (Or.inr rfl) k)))
set_option maxRecDepth 100000 in
theorem w_X7_part_81 {ex : sm_O} {d n : Nat} {y : sm_Y} {I : Nat → Nat → Int32} {L : Nat → Nat → Int64} {R : Nat → Nat → Option Nat} {Q : sm_Q} {w0 : Option Value} {w1 : Option Value} {s0 : Int32} (k : sm_W ex d 0 0 47 88 [w0, w1] [.int s0] (n, y, I, L, R) Q) : sm_W ex d 0 0 47 81 [w0, w1] [.int s0] (n, y, I, L, R) Q := sm_in (k)
set_option maxRecDepth 100000 in
theorem w_X7_part_88 {ex : sm_O} {d n : Nat} {y : sm_Y} {I : Nat → Nat → Int32} {L : Nat → Nat → Int64} {R : Nat → Nat → Option Nat} {Q : sm_Q} {w0 : Option Value} {w1 : Option Value} {s0 : Int32} (k : (s0 = 0 ∨ s0 = 1) ∧ Q (some (.int s0)) (n, y, I, L, R)) : sm_W ex d 0 0 47 88 [w0, w1] [.int s0] (n, y, I, L, R) Q := (have e1 := k.1; have k1 := k.2; sm_in (And.intro rfl (And.intro e1 k1)))
set_option maxRecDepth 100000 in
theorem w_X7_term_0 {ex : sm_O} {d n : Nat} {y : sm_Y} {I : Nat → Nat → Int32} {L : Nat → Nat → Int64} {R : Nat → Nat → Option Nat} {Q : sm_Q} {w2 : Option Value} {w3 : Option Value} {w4 : Option Value} {a1 : Int32} {d1 : Nat} (hG : sm_G y R) (h1 : d1 < d) (k : sm_W ex d1 0 0 47 0 [some (.ref 120), some (.int a1)] [] (n, y, I, L, R) (fun r μ1 => sm_W ex d 0 0 46 5 [some (.ref 120), some (.int a1), w2, w3, w4] (r.toList ++ []) μ1 Q)) : sm_W ex d 0 0 46 0 [some (.ref 120), some (.int a1), w2, w3, w4] [] (n, y, I, L, R) Q := sm_in (sm_in (sm_in (Exists.intro 7 (And.intro (hG.1 120 (Nat.le_of_ble_eq_true rfl)) (And.intro rfl (sm_calln h1 (Nat.le_of_ble_eq_true rfl) (Nat.le_of_ble_eq_true rfl) k))))))
set_option maxRecDepth 100000 in
theorem w_X7_term_5 {ex : sm_O} {d n : Nat} {y : sm_Y} {I : Nat → Nat → Int32} {L : Nat → Nat → Int64} {R : Nat → Nat → Option Nat} {Q : sm_Q} {w0 : Option Value} {w2 : Option Value} {w3 : Option Value} {w4 : Option Value} {a1 : Int32} {s0 : Int32} (k : sm_W ex d 0 0 46 8 [w0, some (.int a1), some (.int s0), some (.int 0), w4] [] (n, y, I, L, R) Q) : sm_W ex d 0 0 46 5 [w0, some (.int a1), w2, w3, w4] [.int s0] (n, y, I, L, R) Q := sm_in (And.intro (Nat.le_of_ble_eq_true rfl) (sm_in (sm_in (And.intro (Nat.le_of_ble_eq_true rfl) (k)))))
set_option maxRecDepth 100000 in
theorem w_X7_term_8 {ex : sm_O} {d n : Nat} {y : sm_Y} {I : Nat → Nat → Int32} {L : Nat → Nat → Int64} {R : Nat → Nat → Option Nat} {Q : sm_Q} {w1 : Option Value} {w4 : Option Value} {a2 : Int32} {a3 : Int32} {d1 : Nat} (hG : sm_G y R) (h1 : d1 < d) (k : if 400 ≤ a3 then ((a2 = 0 ∨ a2 = 1) ∧ Q (some (.int a2)) (n, y, I, L, R)) else (if a2 = 0 then ((a2 = 0 ∨ a2 = 1) ∧ Q (some (.int a2)) (n, y, I, L, R)) else (sm_W ex d1 0 0 52 0 [some (.ref 120), some (.int 42)] [] (n, y, I, L, R) (fun r μ1 => sm_W ex d 0 0 46 25 [some (.ref 120), w1, some (.int a2), some (.int a3), w4] (r.toList ++ []) μ1 Q)))) : sm_W ex d 0 0 46 8 [some (.ref 120), w1, some (.int a2), some (.int a3), w4] [] (n, y, I, L, R) Q := sm_in (sm_in (sm_in (And.intro (fun c1 => have k1t := Eq.mp (if_pos c1) k; sm_in ((have e2 := k1t.1; have k2 := k1t.2; sm_in (And.intro rfl (And.intro e2 k2))))) (fun c1 => have k1f := Eq.mp (if_neg c1) k; sm_in (sm_in (And.intro (fun c3 => have k3t := Eq.mp (if_pos c3) k1f; sm_in ((have e4 := k3t.1; have k4 := k3t.2; sm_in (And.intro rfl (And.intro e4 k4))))) (fun c3 => have k3f := Eq.mp (if_neg c3) k1f; sm_in (sm_in (sm_in (Exists.intro 7 (And.intro (hG.1 120 (Nat.le_of_ble_eq_true rfl)) (And.intro rfl (sm_calln h1 (Nat.le_of_ble_eq_true rfl) (Nat.le_of_ble_eq_true rfl) k3f)))))))))))))
set_option maxRecDepth 100000 in
theorem w_X7_term_25 {ex : sm_O} {d n : Nat} {y : sm_Y} {I : Nat → Nat → Int32} {L : Nat → Nat → Int64} {R : Nat → Nat → Option Nat} {Q : sm_Q} {w1 : Option Value} {w2 : Option Value} {w3 : Option Value} {w4 : Option Value} {s0 : Int32} {d1 : Nat} (hG : sm_G y R) (h1 : d1 < d) (k : if s0 = 0 then (sm_W ex d1 0 0 52 0 [some (.ref 120), some (.int 47)] [] (n, y, I, L, R) (fun r μ1 => sm_W ex d 0 0 46 34 [some (.ref 120), w1, w2, w3, w4] (r.toList ++ []) μ1 Q)) else (sm_W ex d1 0 0 52 0 [some (.ref 120), some (.int 42)] [] (n, y, I, L, R) (fun r μ1 => sm_W ex d 0 0 46 52 [some (.ref 120), w1, w2, w3, w4] (r.toList ++ []) μ1 Q))) : sm_W ex d 0 0 46 25 [some (.ref 120), w1, w2, w3, w4] [.int s0] (n, y, I, L, R) Q := sm_in (And.intro (fun c1 => have k1f := Eq.mp (if_neg c1) k; sm_in (sm_in (sm_in (Exists.intro 7 (And.intro (hG.1 120 (Nat.le_of_ble_eq_true rfl)) (And.intro rfl (sm_calln h1 (Nat.le_of_ble_eq_true rfl) (Nat.le_of_ble_eq_true rfl) k1f))))))) (fun c1 => have k1t := Eq.mp (if_pos c1) k; sm_in (sm_in (sm_in (Exists.intro 7 (And.intro (hG.1 120 (Nat.le_of_ble_eq_true rfl)) (And.intro rfl (sm_calln h1 (Nat.le_of_ble_eq_true rfl) (Nat.le_of_ble_eq_true rfl) k1t))))))))
set_option maxRecDepth 100000 in
theorem w_X7_term_34 {ex : sm_O} {d n : Nat} {y : sm_Y} {I : Nat → Nat → Int32} {L : Nat → Nat → Int64} {R : Nat → Nat → Option Nat} {Q : sm_Q} {w1 : Option Value} {w2 : Option Value} {w3 : Option Value} {w4 : Option Value} {s0 : Int32} {d1 : Nat} (hG : sm_G y R) (h1 : d1 < d) (k : if s0 = 0 then (sm_W ex d1 0 0 52 0 [some (.ref 120), some (.int 37)] [] (n, y, I, L, R) (fun r μ1 => sm_W ex d 0 0 46 43 [some (.ref 120), w1, w2, w3, w4] (r.toList ++ []) μ1 Q)) else (sm_W ex d1 0 0 52 0 [some (.ref 120), some (.int 42)] [] (n, y, I, L, R) (fun r μ1 => sm_W ex d 0 0 46 52 [some (.ref 120), w1, w2, w3, w4] (r.toList ++ []) μ1 Q))) : sm_W ex d 0 0 46 34 [some (.ref 120), w1, w2, w3, w4] [.int s0] (n, y, I, L, R) Q := sm_in (And.intro (fun c1 => have k1f := Eq.mp (if_neg c1) k; sm_in (sm_in (sm_in (Exists.intro 7 (And.intro (hG.1 120 (Nat.le_of_ble_eq_true rfl)) (And.intro rfl (sm_calln h1 (Nat.le_of_ble_eq_true rfl) (Nat.le_of_ble_eq_true rfl) k1f))))))) (fun c1 => have k1t := Eq.mp (if_pos c1) k; sm_in (sm_in (sm_in (Exists.intro 7 (And.intro (hG.1 120 (Nat.le_of_ble_eq_true rfl)) (And.intro rfl (sm_calln h1 (Nat.le_of_ble_eq_true rfl) (Nat.le_of_ble_eq_true rfl) k1t))))))))
set_option maxRecDepth 100000 in
theorem w_X7_term_43 {ex : sm_O} {d n : Nat} {y : sm_Y} {I : Nat → Nat → Int32} {L : Nat → Nat → Int64} {R : Nat → Nat → Option Nat} {Q : sm_Q} {w1 : Option Value} {w3 : Option Value} {w4 : Option Value} {a2 : Int32} {s0 : Int32} {d1 : Nat} (hG : sm_G y R) (h1 : d1 < d) (k : if s0 = 0 then ((a2 = 0 ∨ a2 = 1) ∧ Q (some (.int a2)) (n, y, I, L, R)) else (sm_W ex d1 0 0 52 0 [some (.ref 120), some (.int 42)] [] (n, y, I, L, R) (fun r μ1 => sm_W ex d 0 0 46 52 [some (.ref 120), w1, some (.int a2), w3, w4] (r.toList ++ []) μ1 Q))) : sm_W ex d 0 0 46 43 [some (.ref 120), w1, some (.int a2), w3, w4] [.int s0] (n, y, I, L, R) Q := sm_in (And.intro (fun c1 => have k1t := Eq.mp (if_pos c1) k; sm_in ((have e2 := k1t.1; have k2 := k1t.2; sm_in (And.intro rfl (And.intro e2 k2))))) (fun c1 => have k1f := Eq.mp (if_neg c1) k; sm_in (sm_in (sm_in (Exists.intro 7 (And.intro (hG.1 120 (Nat.le_of_ble_eq_true rfl)) (And.intro rfl (sm_calln h1 (Nat.le_of_ble_eq_true rfl) (Nat.le_of_ble_eq_true rfl) k1f))))))))
set_option maxRecDepth 100000 in
theorem w_X7_term_52 {ex : sm_O} {d n : Nat} {y : sm_Y} {I : Nat → Nat → Int32} {L : Nat → Nat → Int64} {R : Nat → Nat → Option Nat} {Q : sm_Q} {w1 : Option Value} {w2 : Option Value} {w4 : Option Value} {a3 : Int32} {s0 : Int32} {d1 : Nat} (hG : sm_G y R) (h1 : d1 < d) (k : if s0 = 0 then (sm_W ex d1 0 0 52 0 [some (.ref 120), some (.int 47)] [] (n, y, I, L, R) (fun r μ1 => sm_W ex d 0 0 46 65 [some (.ref 120), w1, w2, some (.int a3), w4] (r.toList ++ []) μ1 Q)) else (sm_W ex d1 0 0 50 0 [some (.ref 120)] [] (n, y, I, L, R) (fun r μ1 => sm_W ex d 0 0 46 81 [some (.ref 120), w1, w2, some (.int a3), some (.int 5)] (r.toList ++ []) μ1 Q))) : sm_W ex d 0 0 46 52 [some (.ref 120), w1, w2, some (.int a3), w4] [.int s0] (n, y, I, L, R) Q := sm_in (And.intro (fun c1 => have k1t := Eq.mp (if_pos c1) k; sm_in (sm_in (sm_in (Exists.intro 7 (And.intro (hG.1 120 (Nat.le_of_ble_eq_true rfl)) (And.intro rfl (sm_calln h1 (Nat.le_of_ble_eq_true rfl) (Nat.le_of_ble_eq_true rfl) k1t))))))) (fun c1 => have k1f := Eq.mp (if_neg c1) k; sm_in (sm_in (sm_in (And.intro (Nat.le_of_ble_eq_true rfl) (sm_in (sm_in (Exists.intro 7 (And.intro (hG.1 120 (Nat.le_of_ble_eq_true rfl)) (And.intro rfl (sm_calln h1 (Nat.le_of_ble_eq_true rfl) (Nat.le_of_ble_eq_true rfl) k1f)))))))))))
set_option maxRecDepth 100000 in
theorem w_X7_term_65 {ex : sm_O} {d n : Nat} {y : sm_Y} {I : Nat → Nat → Int32} {L : Nat → Nat → Int64} {R : Nat → Nat → Option Nat} {Q : sm_Q} {w1 : Option Value} {w2 : Option Value} {w4 : Option Value} {a3 : Int32} {s0 : Int32} {d1 : Nat} (hG : sm_G y R) (h1 : d1 < d) (k : if s0 = 0 then (sm_W ex d1 0 0 50 0 [some (.ref 120)] [] (n, y, I, L, R) (fun r μ1 => sm_W ex d 0 0 46 81 [some (.ref 120), w1, w2, some (.int a3), some (.int 7)] (r.toList ++ []) μ1 Q)) else (sm_W ex d1 0 0 50 0 [some (.ref 120)] [] (n, y, I, L, R) (fun r μ1 => sm_W ex d 0 0 46 81 [some (.ref 120), w1, w2, some (.int a3), some (.int 6)] (r.toList ++ []) μ1 Q))) : sm_W ex d 0 0 46 65 [some (.ref 120), w1, w2, some (.int a3), w4] [.int s0] (n, y, I, L, R) Q := sm_in (And.intro (fun c1 => have k1t := Eq.mp (if_pos c1) k; sm_in (sm_in (And.intro (Nat.le_of_ble_eq_true rfl) (sm_in (sm_in (Exists.intro 7 (And.intro (hG.1 120 (Nat.le_of_ble_eq_true rfl)) (And.intro rfl (sm_calln h1 (Nat.le_of_ble_eq_true rfl) (Nat.le_of_ble_eq_true rfl) k1t))))))))) (fun c1 => have k1f := Eq.mp (if_neg c1) k; sm_in (sm_in (sm_in (And.intro (Nat.le_of_ble_eq_true rfl) (sm_in (sm_in (Exists.intro 7 (And.intro (hG.1 120 (Nat.le_of_ble_eq_true rfl)) (And.intro rfl (sm_calln h1 (Nat.le_of_ble_eq_true rfl) (Nat.le_of_ble_eq_true rfl) k1f)))))))))))
set_option maxRecDepth 100000 in
theorem w_X7_term_81 {ex : sm_O} {d n : Nat} {y : sm_Y} {I : Nat → Nat → Int32} {L : Nat → Nat → Int64} {R : Nat → Nat → Option Nat} {Q : sm_Q} {w2 : Option Value} {w3 : Option Value} {w4 : Option Value} {a1 : Int32} {d1 : Nat} (hG : sm_G y R) (h1 : d1 < d) (k : sm_W ex d1 0 0 47 0 [some (.ref 120), some (.int a1)] [] (n, y, I, L, R) (fun r μ1 => sm_W ex d 0 0 46 86 [some (.ref 120), some (.int a1), w2, w3, w4] (r.toList ++ []) μ1 Q)) : sm_W ex d 0 0 46 81 [some (.ref 120), some (.int a1), w2, w3, w4] [] (n, y, I, L, R) Q := sm_in (sm_in (sm_in (Exists.intro 7 (And.intro (hG.1 120 (Nat.le_of_ble_eq_true rfl)) (And.intro rfl (sm_calln h1 (Nat.le_of_ble_eq_true rfl) (Nat.le_of_ble_eq_true rfl) k))))))
set_option maxRecDepth 100000 in
theorem w_X7_term_86 {ex : sm_O} {d n : Nat} {y : sm_Y} {I : Nat → Nat → Int32} {L : Nat → Nat → Int64} {R : Nat → Nat → Option Nat} {Q : sm_Q} {w2 : Option Value} {a1 : Int32} {a3 : Int32} {a4 : Int32} {s0 : Int32} {q0 : Nat} {ns0 nc0 : Nat} {d1 : Nat} (hG : sm_G y R) (ho0 : ok6 y R q0 ns0 nc0) (h1 : R 120 3 = some q0) (h2 : d1 < d) (k : if s0 = 0 then (sm_W ex d 0 0 46 8 [some (.ref 120), some (.int a1), some (.int 0), some (.int (a3 + 1)), some (.int a4)] [] (n, y, I, L, R) Q) else (sm_W ex d1 0 0 37 0 [some (.ref q0), some (.int a4), some (.int 0)] [] (n, y, I, L, R) (fun r μ1 => sm_W ex d 0 0 46 99 [some (.ref 120), some (.int a1), w2, some (.int a3), some (.int a4)] (r.toList ++ []) μ1 Q))) : sm_W ex d 0 0 46 86 [some (.ref 120), some (.int a1), w2, some (.int a3), some (.int a4)] [.int s0] (n, y, I, L, R) Q := sm_in (And.intro (fun c1 => have k1t := Eq.mp (if_pos c1) k; sm_in (sm_in (And.intro (Nat.le_of_ble_eq_true rfl) (sm_in (And.intro (Nat.le_of_ble_eq_true rfl) (sm_in (k1t))))))) (fun c1 => have k1f := Eq.mp (if_neg c1) k; sm_in (sm_in (And.intro (hG.1 120 (Nat.le_of_ble_eq_true rfl)) (sm_gfr rfl h1 (sm_in (sm_in (sm_in (Exists.intro 6 (And.intro (ok6_y0 ho0) (And.intro rfl (sm_calln h2 (Nat.le_of_ble_eq_true rfl) (Nat.le_of_ble_eq_true rfl) k1f))))))))))))
set_option maxRecDepth 100000 in
theorem w_X7_term_99 {ex : sm_O} {d n : Nat} {y : sm_Y} {I : Nat → Nat → Int32} {L : Nat → Nat → Int64} {R : Nat → Nat → Option Nat} {Q : sm_Q} {w0 : Option Value} {w2 : Option Value} {w4 : Option Value} {a1 : Int32} {a3 : Int32} {s0 : Int32} (k : if s0 = 0 then (sm_W ex d 0 0 46 8 [w0, some (.int a1), some (.int 0), some (.int (a3 + 1)), w4] [] (n, y, I, L, R) Q) else (sm_W ex d 0 0 46 8 [w0, some (.int a1), some (.int 1), some (.int (a3 + 1)), w4] [] (n, y, I, L, R) Q)) : sm_W ex d 0 0 46 99 [w0, some (.int a1), w2, some (.int a3), w4] [.int s0] (n, y, I, L, R) Q := sm_in (And.intro (fun c1 => have k1t := Eq.mp (if_pos c1) k; sm_in (sm_in (And.intro (Nat.le_of_ble_eq_true rfl) (sm_in (And.intro (Nat.le_of_ble_eq_true rfl) (sm_in (k1t))))))) (fun c1 => have k1f := Eq.mp (if_neg c1) k; sm_in (sm_in (sm_in (And.intro (Nat.le_of_ble_eq_true rfl) (sm_in (And.intro (Nat.le_of_ble_eq_true rfl) (sm_in (k1f)))))))))
set_option maxRecDepth 100000 in
theorem w_X7_sum_0 {ex : sm_O} {d n : Nat} {y : sm_Y} {I : Nat → Nat → Int32} {L : Nat → Nat → Int64} {R : Nat → Nat → Option Nat} {Q : sm_Q} {w2 : Option Value} {w3 : Option Value} {w4 : Option Value} {a1 : Int32} {d1 : Nat} (hG : sm_G y R) (h1 : d1 < d) (k : sm_W ex d1 0 0 46 0 [some (.ref 120), some (.int a1), none, none, none] [] (n, y, I, L, R) (fun r μ1 => sm_W ex d 0 0 45 5 [some (.ref 120), some (.int a1), w2, w3, w4] (r.toList ++ []) μ1 Q)) : sm_W ex d 0 0 45 0 [some (.ref 120), some (.int a1), w2, w3, w4] [] (n, y, I, L, R) Q := sm_in (sm_in (sm_in (Exists.intro 7 (And.intro (hG.1 120 (Nat.le_of_ble_eq_true rfl)) (And.intro rfl (sm_calln h1 (Nat.le_of_ble_eq_true rfl) (Nat.le_of_ble_eq_true rfl) k))))))
set_option maxRecDepth 100000 in
theorem w_X7_sum_5 {ex : sm_O} {d n : Nat} {y : sm_Y} {I : Nat → Nat → Int32} {L : Nat → Nat → Int64} {R : Nat → Nat → Option Nat} {Q : sm_Q} {w0 : Option Value} {w2 : Option Value} {w3 : Option Value} {w4 : Option Value} {a1 : Int32} {s0 : Int32} (k : sm_W ex d 0 0 45 8 [w0, some (.int a1), some (.int s0), some (.int 0), w4] [] (n, y, I, L, R) Q) : sm_W ex d 0 0 45 5 [w0, some (.int a1), w2, w3, w4] [.int s0] (n, y, I, L, R) Q := sm_in (And.intro (Nat.le_of_ble_eq_true rfl) (sm_in (sm_in (And.intro (Nat.le_of_ble_eq_true rfl) (k)))))
set_option maxRecDepth 100000 in
theorem w_X7_sum_8 {ex : sm_O} {d n : Nat} {y : sm_Y} {I : Nat → Nat → Int32} {L : Nat → Nat → Int64} {R : Nat → Nat → Option Nat} {Q : sm_Q} {w1 : Option Value} {w4 : Option Value} {a2 : Int32} {a3 : Int32} {d1 : Nat} (hG : sm_G y R) (h1 : d1 < d) (k : if 400 ≤ a3 then ((a2 = 0 ∨ a2 = 1) ∧ Q (some (.int a2)) (n, y, I, L, R)) else (if a2 = 0 then ((a2 = 0 ∨ a2 = 1) ∧ Q (some (.int a2)) (n, y, I, L, R)) else (sm_W ex d1 0 0 52 0 [some (.ref 120), some (.int 43)] [] (n, y, I, L, R) (fun r μ1 => sm_W ex d 0 0 45 25 [some (.ref 120), w1, some (.int a2), some (.int a3), w4] (r.toList ++ []) μ1 Q)))) : sm_W ex d 0 0 45 8 [some (.ref 120), w1, some (.int a2), some (.int a3), w4] [] (n, y, I, L, R) Q := sm_in (sm_in (sm_in (And.intro (fun c1 => have k1t := Eq.mp (if_pos c1) k; sm_in ((have e2 := k1t.1; have k2 := k1t.2; sm_in (And.intro rfl (And.intro e2 k2))))) (fun c1 => have k1f := Eq.mp (if_neg c1) k; sm_in (sm_in (And.intro (fun c3 => have k3t := Eq.mp (if_pos c3) k1f; sm_in ((have e4 := k3t.1; have k4 := k3t.2; sm_in (And.intro rfl (And.intro e4 k4))))) (fun c3 => have k3f := Eq.mp (if_neg c3) k1f; sm_in (sm_in (sm_in (Exists.intro 7 (And.intro (hG.1 120 (Nat.le_of_ble_eq_true rfl)) (And.intro rfl (sm_calln h1 (Nat.le_of_ble_eq_true rfl) (Nat.le_of_ble_eq_true rfl) k3f)))))))))))))
set_option maxRecDepth 100000 in
theorem w_X7_sum_25 {ex : sm_O} {d n : Nat} {y : sm_Y} {I : Nat → Nat → Int32} {L : Nat → Nat → Int64} {R : Nat → Nat → Option Nat} {Q : sm_Q} {w1 : Option Value} {w2 : Option Value} {w3 : Option Value} {w4 : Option Value} {s0 : Int32} {d1 : Nat} (hG : sm_G y R) (h1 : d1 < d) (k : if s0 = 0 then (sm_W ex d1 0 0 52 0 [some (.ref 120), some (.int 45)] [] (n, y, I, L, R) (fun r μ1 => sm_W ex d 0 0 45 34 [some (.ref 120), w1, w2, w3, w4] (r.toList ++ []) μ1 Q)) else (sm_W ex d1 0 0 52 0 [some (.ref 120), some (.int 43)] [] (n, y, I, L, R) (fun r μ1 => sm_W ex d 0 0 45 43 [some (.ref 120), w1, w2, w3, w4] (r.toList ++ []) μ1 Q))) : sm_W ex d 0 0 45 25 [some (.ref 120), w1, w2, w3, w4] [.int s0] (n, y, I, L, R) Q := sm_in (And.intro (fun c1 => have k1f := Eq.mp (if_neg c1) k; sm_in (sm_in (sm_in (Exists.intro 7 (And.intro (hG.1 120 (Nat.le_of_ble_eq_true rfl)) (And.intro rfl (sm_calln h1 (Nat.le_of_ble_eq_true rfl) (Nat.le_of_ble_eq_true rfl) k1f))))))) (fun c1 => have k1t := Eq.mp (if_pos c1) k; sm_in (sm_in (sm_in (Exists.intro 7 (And.intro (hG.1 120 (Nat.le_of_ble_eq_true rfl)) (And.intro rfl (sm_calln h1 (Nat.le_of_ble_eq_true rfl) (Nat.le_of_ble_eq_true rfl) k1t))))))))
set_option maxRecDepth 100000 in
theorem w_X7_sum_34 {ex : sm_O} {d n : Nat} {y : sm_Y} {I : Nat → Nat → Int32} {L : Nat → Nat → Int64} {R : Nat → Nat → Option Nat} {Q : sm_Q} {w1 : Option Value} {w3 : Option Value} {w4 : Option Value} {a2 : Int32} {s0 : Int32} {d1 : Nat} (hG : sm_G y R) (h1 : d1 < d) (k : if s0 = 0 then ((a2 = 0 ∨ a2 = 1) ∧ Q (some (.int a2)) (n, y, I, L, R)) else (sm_W ex d1 0 0 52 0 [some (.ref 120), some (.int 43)] [] (n, y, I, L, R) (fun r μ1 => sm_W ex d 0 0 45 43 [some (.ref 120), w1, some (.int a2), w3, w4] (r.toList ++ []) μ1 Q))) : sm_W ex d 0 0 45 34 [some (.ref 120), w1, some (.int a2), w3, w4] [.int s0] (n, y, I, L, R) Q := sm_in (And.intro (fun c1 => have k1t := Eq.mp (if_pos c1) k; sm_in ((have e2 := k1t.1; have k2 := k1t.2; sm_in (And.intro rfl (And.intro e2 k2))))) (fun c1 => have k1f := Eq.mp (if_neg c1) k; sm_in (sm_in (sm_in (Exists.intro 7 (And.intro (hG.1 120 (Nat.le_of_ble_eq_true rfl)) (And.intro rfl (sm_calln h1 (Nat.le_of_ble_eq_true rfl) (Nat.le_of_ble_eq_true rfl) k1f))))))))
set_option maxRecDepth 100000 in
theorem w_X7_sum_43 {ex : sm_O} {d n : Nat} {y : sm_Y} {I : Nat → Nat → Int32} {L : Nat → Nat → Int64} {R : Nat → Nat → Option Nat} {Q : sm_Q} {w1 : Option Value} {w2 : Option Value} {w4 : Option Value} {a3 : Int32} {s0 : Int32} {d1 : Nat} (hG : sm_G y R) (h1 : d1 < d) (k : if s0 = 0 then (sm_W ex d1 0 0 50 0 [some (.ref 120)] [] (n, y, I, L, R) (fun r μ1 => sm_W ex d 0 0 45 57 [some (.ref 120), w1, w2, some (.int a3), some (.int 4)] (r.toList ++ []) μ1 Q)) else (sm_W ex d1 0 0 50 0 [some (.ref 120)] [] (n, y, I, L, R) (fun r μ1 => sm_W ex d 0 0 45 57 [some (.ref 120), w1, w2, some (.int a3), some (.int 3)] (r.toList ++ []) μ1 Q))) : sm_W ex d 0 0 45 43 [some (.ref 120), w1, w2, some (.int a3), w4] [.int s0] (n, y, I, L, R) Q := sm_in (And.intro (fun c1 => have k1t := Eq.mp (if_pos c1) k; sm_in (sm_in (And.intro (Nat.le_of_ble_eq_true rfl) (sm_in (sm_in (Exists.intro 7 (And.intro (hG.1 120 (Nat.le_of_ble_eq_true rfl)) (And.intro rfl (sm_calln h1 (Nat.le_of_ble_eq_true rfl) (Nat.le_of_ble_eq_true rfl) k1t))))))))) (fun c1 => have k1f := Eq.mp (if_neg c1) k; sm_in (sm_in (sm_in (And.intro (Nat.le_of_ble_eq_true rfl) (sm_in (sm_in (Exists.intro 7 (And.intro (hG.1 120 (Nat.le_of_ble_eq_true rfl)) (And.intro rfl (sm_calln h1 (Nat.le_of_ble_eq_true rfl) (Nat.le_of_ble_eq_true rfl) k1f)))))))))))
set_option maxRecDepth 100000 in
theorem w_X7_sum_57 {ex : sm_O} {d n : Nat} {y : sm_Y} {I : Nat → Nat → Int32} {L : Nat → Nat → Int64} {R : Nat → Nat → Option Nat} {Q : sm_Q} {w2 : Option Value} {w3 : Option Value} {w4 : Option Value} {a1 : Int32} {d1 : Nat} (hG : sm_G y R) (h1 : d1 < d) (k : sm_W ex d1 0 0 46 0 [some (.ref 120), some (.int a1), none, none, none] [] (n, y, I, L, R) (fun r μ1 => sm_W ex d 0 0 45 62 [some (.ref 120), some (.int a1), w2, w3, w4] (r.toList ++ []) μ1 Q)) : sm_W ex d 0 0 45 57 [some (.ref 120), some (.int a1), w2, w3, w4] [] (n, y, I, L, R) Q := sm_in (sm_in (sm_in (Exists.intro 7 (And.intro (hG.1 120 (Nat.le_of_ble_eq_true rfl)) (And.intro rfl (sm_calln h1 (Nat.le_of_ble_eq_true rfl) (Nat.le_of_ble_eq_true rfl) k))))))
set_option maxRecDepth 100000 in
theorem w_X7_sum_62 {ex : sm_O} {d n : Nat} {y : sm_Y} {I : Nat → Nat → Int32} {L : Nat → Nat → Int64} {R : Nat → Nat → Option Nat} {Q : sm_Q} {w2 : Option Value} {a1 : Int32} {a3 : Int32} {a4 : Int32} {s0 : Int32} {q0 : Nat} {ns0 nc0 : Nat} {d1 : Nat} (hG : sm_G y R) (ho0 : ok6 y R q0 ns0 nc0) (h1 : R 120 3 = some q0) (h2 : d1 < d) (k : if s0 = 0 then (sm_W ex d 0 0 45 8 [some (.ref 120), some (.int a1), some (.int 0), some (.int (a3 + 1)), some (.int a4)] [] (n, y, I, L, R) Q) else (sm_W ex d1 0 0 37 0 [some (.ref q0), some (.int a4), some (.int 0)] [] (n, y, I, L, R) (fun r μ1 => sm_W ex d 0 0 45 75 [some (.ref 120), some (.int a1), w2, some (.int a3), some (.int a4)] (r.toList ++ []) μ1 Q))) : sm_W ex d 0 0 45 62 [some (.ref 120), some (.int a1), w2, some (.int a3), some (.int a4)] [.int s0] (n, y, I, L, R) Q := sm_in (And.intro (fun c1 => have k1t := Eq.mp (if_pos c1) k; sm_in (sm_in (And.intro (Nat.le_of_ble_eq_true rfl) (sm_in (And.intro (Nat.le_of_ble_eq_true rfl) (sm_in (k1t))))))) (fun c1 => have k1f := Eq.mp (if_neg c1) k; sm_in (sm_in (And.intro (hG.1 120 (Nat.le_of_ble_eq_true rfl)) (sm_gfr rfl h1 (sm_in (sm_in (sm_in (Exists.intro 6 (And.intro (ok6_y0 ho0) (And.intro rfl (sm_calln h2 (Nat.le_of_ble_eq_true rfl) (Nat.le_of_ble_eq_true rfl) k1f))))))))))))
set_option maxRecDepth 100000 in
theorem w_X7_sum_75 {ex : sm_O} {d n : Nat} {y : sm_Y} {I : Nat → Nat → Int32} {L : Nat → Nat → Int64} {R : Nat → Nat → Option Nat} {Q : sm_Q} {w0 : Option Value} {w2 : Option Value} {w4 : Option Value} {a1 : Int32} {a3 : Int32} {s0 : Int32} (k : if s0 = 0 then (sm_W ex d 0 0 45 8 [w0, some (.int a1), some (.int 0), some (.int (a3 + 1)), w4] [] (n, y, I, L, R) Q) else (sm_W ex d 0 0 45 8 [w0, some (.int a1), some (.int 1), some (.int (a3 + 1)), w4] [] (n, y, I, L, R) Q)) : sm_W ex d 0 0 45 75 [w0, some (.int a1), w2, some (.int a3), w4] [.int s0] (n, y, I, L, R) Q := sm_in (And.intro (fun c1 => have k1t := Eq.mp (if_pos c1) k; sm_in (sm_in (And.intro (Nat.le_of_ble_eq_true rfl) (sm_in (And.intro (Nat.le_of_ble_eq_true rfl) (sm_in (k1t))))))) (fun c1 => have k1f := Eq.mp (if_neg c1) k; sm_in (sm_in (sm_in (And.intro (Nat.le_of_ble_eq_true rfl) (sm_in (And.intro (Nat.le_of_ble_eq_true rfl) (sm_in (k1f)))))))))
-- PARTS, TERMS, SUMS OF THE CLASS
def nN (o : Bool) : Nat := if o = true then 13 else 8
def cOk (ex : sm_O) (t : Tp) (o : Bool) (P d m dep : Nat) (ls : List (Option Value)) (hh : Nat) (pr : DD → Prop) (rd : Nat → Nat → Rr) : Prop := ∀ (n : Nat) (y : sm_Y) (I : Nat → Nat → Int32) (L : Nat → Nat → Int64) (R : Nat → Nat → Option Nat) (Q : sm_Q) (p pt len : Nat) (cd : Nat → Nat × Nat), sm_G y R → ok6 y R P 200 12 → rS t o P I R p pt → cPr I P cd len → 3 * len ≤ 4 * pt + p →
  (∀ (I' : Nat → Nat → Int32) (q : Nat), rd p pt = .inl q → rF P I I' → I' 120 4 = nI q → (∃ l, l ≤ 200 ∧ I' P 6 = nI l) → Q (some (.int 0)) (n, y, I', L, R)) →
  (∀ (I' : Nat → Nat → Int32) (q pt' : Nat) (D : DD) (cd' : Nat → Nat × Nat) (len' : Nat), rd p pt = .inr (q, pt', D) → rF P I I' → rS t o P I' R q pt' → cPr I' P cd' len' → (∀ k, k < len → cd' k = cd k) → cSX (nN o) cd' len len' hh D → pr D → 3 * len' + 2 + 4 * pt + p ≤ 4 * pt' + q + 3 * len → Q (some (.int 1)) (n, y, I', L, R)) →
  sm_W ex d 0 0 m 0 (some (.ref 120) :: some (.int (nI dep)) :: ls) [] (n, y, I, L, R) Q
theorem cdU_s (cd : Nat → Nat × Nat) (i : Nat) (v : Nat × Nat) : cdU cd i v i = v := if_pos rfl
theorem cdU_o (cd : Nat → Nat × Nat) {i k : Nat} (v : Nat × Nat) (h : k ≠ i) : cdU cd i v k = cd k := if_neg h
theorem lt_of_nx {t : Tp} {o : Bool} {P p pt : Nat} {I : Nat → Nat → Int32} {R : Nat → Nat → Option Nat} (hs : rS t o P I R p pt) : p ≤ 400 := by
  have := hs.1.2.1
  have := hs.2.2.2.2.2.2.2.1
  omega
theorem oI_m1 {o : Option Nat} (h : ∀ i, o = some i → i < 1000) : oI o = -1 ↔ o = none := by
  cases o with
  | none => exact ⟨fun _ => rfl, fun _ => rfl⟩
  | some i =>
    have := h i rfl
    exact ⟨fun q => absurd q (nI_m1 (by omega)), fun q => by cases q⟩
theorem c_number {ex : sm_O} {n : Nat} {y : sm_Y} {I : Nat → Nat → Int32} {L : Nat → Nat → Int64} {R : Nat → Nat → Option Nat} {Q : sm_Q} {d p pt P len : Nat} {o : Bool} {t : Tp} {cd : Nat → Nat × Nat} {w1 : Option Value} (hd : 2 ≤ d) (hG : sm_G y R) (hP : ok6 y R P 200 12) (hs : rS t o P I R p (pt + 1)) (hc : cPr I P cd len) (hb : 3 * len ≤ 4 * pt + p) (hpt : pt < 50) (hk : tkK t p = 2)
    (k0 : ∀ (I' : Nat → Nat → Int32) (q : Nat), rLeaf t o p pt = .inl q → rF P I I' → I' 120 4 = nI q → (∃ l, l ≤ 200 ∧ I' P 6 = nI l) → Q (some (.int 0)) (n, y, I', L, R))
    (k1 : ∀ (I' : Nat → Nat → Int32) (q pt' : Nat) (D : DD) (cd' : Nat → Nat × Nat) (len' : Nat), rLeaf t o p pt = .inr (q, pt', D) → rF P I I' → rS t o P I' R q pt' → cPr I' P cd' len' → (∀ k, k < len → cd' k = cd k) → cSX (nN o) cd' len len' 1 D → dR D → 3 * len' + 2 + 4 * pt + p ≤ 4 * pt' + q + 3 * len → Q (some (.int 1)) (n, y, I', L, R)) :
    sm_W ex d 0 0 48 0 [some (.ref 120), w1] [] (n, y, I, L, R) Q := by
  have hp4 := lt_of_nx hs
  have hr : rLeaf t o p pt = if tkN t p ≤ 1000 then .inr ((nx t p), (pt + 1), (dNum (tkN t p))) else .inl p := by
    unfold rLeaf
    rw [if_neg (by omega), if_pos hk]
  refine w_X7_number_0 (d1 := 1) hG (by omega) ?_
  refine c_X7_numberOf (lo := 0) (hi := 1000) (Nat.le_refl 1) hG hs tk_digs (by decide) (by decide) ?_
  by_cases hv : tkN t p ≤ 1000
  · rw [if_pos hv] at hr
    rw [if_pos ⟨hk, by omega, hv⟩]
    refine w_X7_number_8 (d1 := 1) (q0 := P) hG hP hs.2.2.1 (by omega) ?_
    rw [if_neg (nI_m1 (by omega))]
    refine c_put (st := 1) hP hc (by omega) (by decide) (by omega) ?_
    intro I1 f1 c1
    have s1 := f1.S hs
    refine w_X7_number_23 (d1 := 1) hG (by omega) ?_
    rw [if_neg (by decide)]
    refine c_adv (Nat.le_refl 1) hG s1 ?_
    intro I2 f2 s2
    refine w_X7_number_32 ?_
    have := nx_lt (t := t) (p := p) (by omega)
    exact k1 I2 _ _ _ _ _ hr (f1.F.trans (f2.F P)) s2 (f2.P hs.2.2.2.2.2.2.2.2.2 c1) (fun k hk => cdU_o _ _ (by omega)) (cs_num (cdU_s _ _ _)) (dNum_R hv) (by omega)
  · rw [if_neg hv] at hr
    rw [if_neg (by omega)]
    refine w_X7_number_8 (d1 := 1) (q0 := P) hG hP hs.2.2.1 (by omega) ?_
    rw [if_pos rfl]
    exact k0 I p hr (rF.rfl' P I) hs.2.2.2.1 ⟨len, hc.2.1, hc.1⟩
theorem lawWords_ok : (txL lawWords).length ≤ 1000 ∧ (∀ c ∈ txL lawWords, c < 256) ∧ lawWords ≠ [] ∧ (∀ w ∈ lawWords, w ≠ []) ∧ ∀ w ∈ lawWords, ∀ c ∈ w, c ≠ 32 := by decide
theorem ordWords_ok : (txL ordWords).length ≤ 1000 ∧ (∀ c ∈ txL ordWords, c < 256) ∧ ordWords ≠ [] ∧ (∀ w ∈ ordWords, w ≠ []) ∧ ∀ w ∈ ordWords, ∀ c ∈ w, c ≠ 32 := by decide
theorem lawKinds_ok : (txL lawKinds).length ≤ 1000 ∧ (∀ c ∈ txL lawKinds, c < 256) ∧ lawKinds ≠ [] ∧ (∀ w ∈ lawKinds, w ≠ []) ∧ ∀ w ∈ lawKinds, ∀ c ∈ w, c ≠ 32 := by decide
theorem ordKinds_ok : (txL ordKinds).length ≤ 1000 ∧ (∀ c ∈ txL ordKinds, c < 256) ∧ ordKinds ≠ [] ∧ (∀ w ∈ ordKinds, w ≠ []) ∧ ∀ w ∈ ordKinds, ∀ c ∈ w, c ≠ 32 := by decide
set_option maxHeartbeats 1000000 in
theorem c_word {ex : sm_O} {n : Nat} {y : sm_Y} {I : Nat → Nat → Int32} {L : Nat → Nat → Int64} {R : Nat → Nat → Option Nat} {Q : sm_Q} {d p pt P len : Nat} {o : Bool} {t : Tp} {cd : Nat → Nat × Nat} {w1 w2 : Option Value} (htx : txOK ex) (hd : 6 ≤ d) (hG : sm_G y R) (hP : ok6 y R P 200 12) (hs : rS t o P I R p (pt + 1)) (hc : cPr I P cd len) (hb : 3 * len ≤ 4 * pt + p) (hpt : pt < 50) (hk : ¬ tkK t p = 2)
    (k0 : ∀ (I' : Nat → Nat → Int32) (q : Nat), rLeaf t o p pt = .inl q → rF P I I' → I' 120 4 = nI q → (∃ l, l ≤ 200 ∧ I' P 6 = nI l) → Q (some (.int 0)) (n, y, I', L, R))
    (k1 : ∀ (I' : Nat → Nat → Int32) (q pt' : Nat) (D : DD) (cd' : Nat → Nat × Nat) (len' : Nat), rLeaf t o p pt = .inr (q, pt', D) → rF P I I' → rS t o P I' R q pt' → cPr I' P cd' len' → (∀ k, k < len → cd' k = cd k) → cSX (nN o) cd' len len' 1 D → dR D → 3 * len' + 2 + 4 * pt + p ≤ 4 * pt' + q + 3 * len → Q (some (.int 1)) (n, y, I', L, R)) :
    sm_W ex d 0 0 49 0 [some (.ref 120), w1, w2] [] (n, y, I, L, R) Q := by
  have hp4 := lt_of_nx hs
  have hpP := hs.2.2.2.2.2.2.2.2.2
  have hr : rLeaf t o p pt = match wIx (if o = true then ordWords else lawWords) (tkWd t p) with
    | none => .inl p
    | some i => if o = true ∧ i = 6 then (if tkK t (nx t p) = 2 ∧ tkN t (nx t p) ≤ 6 then .inr ((nx t (nx t p)), (pt + 1), (dWd (6 + tkN t (nx t p)))) else .inl (nx t p)) else .inr ((nx t p), (pt + 1), (dWd i)) := by
    unfold rLeaf
    rw [if_neg (by omega), if_neg hk]
    rfl
  -- with the word's number
  have main : ∀ v1 : Option Value, sm_W ex d 0 0 49 18 [some (.ref 120), v1, w2] [.int (oI (wIx (if o = true then ordWords else lawWords) (tkWd t p)))] (n, y, I, L, R) Q := by
    intro v1
    refine w_X7_word_18 (d1 := 5) hG (by omega) ?_
    cases hw : wIx (if o = true then ordWords else lawWords) (tkWd t p) with
    | none =>
      rw [hw] at hr
      rw [if_pos (show oI none = -1 from rfl)]
      exact k0 I p hr (rF.rfl' P I) hs.2.2.2.1 ⟨len, hc.2.1, hc.1⟩
    | some i =>
      rw [hw] at hr
      have hr : rLeaf t o p pt = if o = true ∧ i = 6 then (if tkK t (nx t p) = 2 ∧ tkN t (nx t p) ≤ 6 then .inr ((nx t (nx t p)), (pt + 1), (dWd (6 + tkN t (nx t p)))) else .inl (nx t p)) else .inr ((nx t p), (pt + 1), (dWd i)) := hr
      have hi := wIx_lt _ _ _ hw
      have hi13 : (o = true → i < 7) ∧ (¬ o = true → i < 8) := by
        constructor
        · intro z; rw [if_pos z] at hi; exact hi.1
        · intro z; rw [if_neg z] at hi; exact hi.1
      have hiN : i < nN o ∧ i < 8 := by
        unfold nN
        by_cases z : o = true
        · rw [if_pos z]; have := hi13.1 z; omega
        · rw [if_neg z]; have := hi13.2 z; omega
      have hlen2 : 2 ≤ (tkWd t p).length := wIx_ne hw (by cases o <;> decide)
      obtain ⟨ek, eE, eN, ept⟩ := tkW_k (t := t) (p := p) rfl (by intro z; rw [z] at hlen2; exact absurd hlen2 (by decide))
      rw [show oI (some i) = nI i from rfl, if_neg (nI_m1 (by omega))]
      refine c_adv (by omega) hG hs ?_
      intro I1 f1 s1
      have c1 := f1.P hpP hc
      refine w_X7_word_30 (d1 := 5) hG (by omega) ?_
      rw [s1.2.1]
      -- the step
      have put : ∀ (I2 : Nat → Nat → Int32) (w q : Nat) (u : Option Value), rF P I I2 → rS t o P I2 R q (pt + 1) → cPr I2 P cd len → p + 2 ≤ q → w < nN o → rLeaf t o p pt = .inr (q, (pt + 1), (dWd w)) → sm_W ex d 0 0 49 66 [some (.ref 120), some (.int (nI w)), u] [] (n, y, I2, L, R) Q := by
        intro I2 w q u f2 s2 c2 hq hw hrr
        have hw13 : w < 13 := by unfold nN at hw; split at hw <;> omega
        refine w_X7_word_66 (d1 := 5) (q0 := P) hG hP s2.2.2.1 (by omega) ?_
        refine c_put (st := 2) hP c2 (by omega) (by decide) (by omega) ?_
        intro I3 f3 c3
        refine w_X7_word_75 ⟨Or.inr rfl, ?_⟩
        exact k1 I3 _ _ _ _ _ hrr (f2.trans f3.F) (f3.S s2) c3 (fun k hk => cdU_o _ _ (by omega)) (cs_wd (cdU_s _ _ _) hw (by unfold nN; split <;> omega)) (dWd_R w) (by omega)
      have i6 : nI i = 6 ↔ i = 6 := nI_eq (b := 6) (by omega) (by decide)
      simp only [i6]
      by_cases ho : o = true
      · rw [if_pos ho, if_neg (show ¬ (1 : Int32) = 0 by decide)]
        by_cases h6 : i = 6
        · rw [if_pos h6]
          rw [if_pos ⟨ho, h6⟩] at hr
          refine c_X7_numberOf (lo := 0) (hi := 6) (by omega) hG s1 tk_digs (by decide) (by decide) ?_
          by_cases hn : tkK t (nx t p) = 2 ∧ tkN t (nx t p) ≤ 6
          · rw [if_pos hn] at hr
            rw [if_pos ⟨hn.1, by omega, hn.2⟩]
            refine w_X7_word_50 (d1 := 5) hG (by omega) ?_
            rw [if_neg (nI_m1 (by omega))]
            refine c_adv (by omega) hG s1 ?_
            intro I2 f2 s2
            rw [h6, nI_add]
            have := nx_lt (t := t) (p := nx t p) (by omega)
            exact put I2 _ _ _ ((f1.F P).trans (f2.F P)) s2 (f2.P hpP c1) (by omega) (by unfold nN; rw [if_pos ho]; omega) hr
          · rw [if_neg hn] at hr
            rw [if_neg (fun z => hn ⟨z.1, z.2.2⟩)]
            refine w_X7_word_50 (d1 := 5) hG (by omega) ?_
            rw [if_pos rfl]
            exact k0 I1 _ hr (f1.F P) s1.2.2.2.1 ⟨len, c1.2.1, c1.1⟩
        · rw [if_neg h6]
          rw [if_neg (fun z => h6 z.2)] at hr
          exact put I1 _ _ _ (f1.F P) s1 c1 (by omega) hiN.1 hr
      · rw [if_neg ho, if_pos rfl]
        rw [if_neg (fun z => ho z.1)] at hr
        exact put I1 _ _ _ (f1.F P) s1 c1 (by omega) hiN.1 hr
  obtain ⟨t2, t3, t4, t5, t6, t7, t8, t9, t10⟩ := htx
  refine w_X7_word_0 (d1 := 5) hG (by omega) ?_
  rw [hs.2.1]
  by_cases ho : o = true
  · rw [if_pos ho, if_neg (show ¬ (1 : Int32) = 0 by decide)]
    have main := main w1
    rw [if_pos ho] at main
    exact c_X7_wordIn (Nat.le_refl 5) hG hs (by decide) t9 ordWords_ok.1 ordWords_ok.2.1 ordWords_ok.2.2.1 ordWords_ok.2.2.2.1 ordWords_ok.2.2.2.2 main
  · rw [if_neg ho, if_pos rfl]
    have main := main w1
    rw [if_neg ho] at main
    exact c_X7_wordIn (Nat.le_refl 5) hG hs (by decide) t10 lawWords_ok.1 lawWords_ok.2.1 lawWords_ok.2.2.1 lawWords_ok.2.2.2.1 lawWords_ok.2.2.2.2 main
theorem c_sign {ex : sm_O} {n : Nat} {y : sm_Y} {I : Nat → Nat → Int32} {L : Nat → Nat → Int64} {R : Nat → Nat → Option Nat} {Q : sm_Q} {d p pt P c : Nat} {o : Bool} {t : Tp} (hG : sm_G y R) (hs : rS t o P I R p pt) (hc : c < 256) (k0 : ¬ isG t p c → Q (some (.int 0)) (n, y, I, L, R)) (k1 : isG t p c → Q (some (.int 1)) (n, y, I, L, R)) : sm_W ex d 0 0 52 0 [some (.ref 120), some (.int (nI c))] [] (n, y, I, L, R) Q := by
  have hp4 := lt_of_nx hs
  refine c_X7_isSign hG hs.1 hs.2.2.2.1 (by omega) hs.2.2.2.2.2.1 hc ?_
  by_cases e : tkK t p = 3 ∧ t.2 p = c
  · rw [if_pos e]; exact k1 e
  · rw [if_neg e]; exact k0 e
set_option maxHeartbeats 1000000 in
theorem cOk_part {ex : sm_O} {t : Tp} {o : Bool} {P d dep hh : Nat} {inn : Option (Nat → Nat → Rr)} (htx : txOK ex) (hd : 7 ≤ d) (hh1 : 1 ≤ hh) (hdep : dep ≤ 8) (hi : match inn with
    | none => dep = 8
    | some f => dep < 8 ∧ ∃ d1, d1 < d ∧ cOk ex t o P d1 45 (dep + 1) [none, none, none] hh dR f) : cOk ex t o P d 47 dep [] hh dR (rPart t o inn) := by
  intro n y I L R Q p pt len cd hG hP hs hc hb k0 k1
  have hpP := hs.2.2.2.2.2.2.2.2.2
  have hp4 := lt_of_nx hs
  have hpt := hs.2.2.2.2.2.2.2.2.1
  refine w_X7_part_0 (d1 := 6) hG (by omega) ?_
  refine c_sign (c := 91) hG hs (by decide) (fun hn => ?_) (fun hy => ?_)
  · refine w_X7_part_6 (d1 := 6) hG (by omega) ?_
    have hr : rPart t o inn p pt = rLeaf t o p pt := by unfold rPart; rw [if_neg hn]
    rw [hr] at k0 k1
    rw [if_pos rfl, hs.2.2.2.2.2.2.1]
    by_cases h50 : pt < 50
    · rw [if_pos (show nI pt < 50 from (nI_ltI (b := 50) (by omega) (by decide)).mpr h50), sm_n1]
      have f1 : rF P I (sm_st I 120 7 (nI (pt + 1))) := fun a j q1 q2 q3 => sm_st_or _ _ (by omega)
      have s1 : rS t o P (sm_st I 120 7 (nI (pt + 1))) R p (pt + 1) := by
        obtain ⟨s1, s2, s3, s4, s5, s6, s7, s8, s9, s10⟩ := hs
        have e : ∀ j, j ≠ 7 → sm_st I 120 7 (nI (pt + 1)) 120 j = I 120 j := fun j hj => sm_st_j _ _ hj
        exact ⟨⟨(e 1 (by decide)).trans s1.1, s1.2.1, fun j hj => ⟨(sm_st_o _ _ (by decide)).trans (s1.2.2 j hj).1, (s1.2.2 j hj).2⟩⟩, (e 2 (by decide)).trans s2, s3, (e 4 (by decide)).trans s4, (e 5 (by decide)).trans s5, (e 6 (by decide)).trans s6, sm_st_s _ _ _ _, s8, by omega, s10⟩
      have c1 : cPr (sm_st I 120 7 (nI (pt + 1))) P cd len := ⟨(sm_st_o _ _ (by omega)).trans hc.1, hc.2.1, fun k hk => by rw [sm_st_o _ _ (by omega)]; exact hc.2.2 k hk⟩
      have hkl := tkK_le t p
      have e2 : nI (tkK t p) = 2 ↔ tkK t p = 2 := nI_eq (b := 2) (by omega) (by decide)
      rw [hs.2.2.2.2.2.1]
      simp only [e2]
      by_cases h2 : tkK t p = 2
      · rw [if_pos h2]
        refine c_number (by omega) hG hP s1 c1 hb h50 h2 (fun I' q e1 f e4 el => ?_) (fun I' q pt' D cd' len' e1 f s c ag sg pr bd => ?_)
        · refine w_X7_part_81 ?_
          refine w_X7_part_88 ⟨Or.inl rfl, ?_⟩
          exact k0 I' q e1 (f1.trans f) e4 el
        · refine w_X7_part_81 ?_
          refine w_X7_part_88 ⟨Or.inr rfl, ?_⟩
          exact k1 I' q pt' D cd' len' e1 (f1.trans f) s c ag (sg.up hh1) pr bd
      · rw [if_neg h2]
        refine c_word htx (by omega) hG hP s1 c1 hb h50 h2 (fun I' q e1 f e4 el => ?_) (fun I' q pt' D cd' len' e1 f s c ag sg pr bd => ?_)
        · refine w_X7_part_88 ⟨Or.inl rfl, ?_⟩
          exact k0 I' q e1 (f1.trans f) e4 el
        · refine w_X7_part_88 ⟨Or.inr rfl, ?_⟩
          exact k1 I' q pt' D cd' len' e1 (f1.trans f) s c ag (sg.up hh1) pr bd
    · rw [if_neg (show ¬ nI pt < 50 from fun z => h50 ((nI_ltI (b := 50) (by omega) (by decide)).mp z))]
      refine k0 I p ?_ (rF.rfl' P I) hs.2.2.2.1 ⟨len, hc.2.1, hc.1⟩
      unfold rLeaf
      rw [if_pos (by omega)]
  · cases inn with
    | none =>
      have hr : rPart t o none p pt = .inl p := by unfold rPart; rw [if_pos hy]
      refine w_X7_part_6 (d1 := 6) hG (by omega) ?_
      rw [if_neg (by decide), if_neg (show ¬ nI dep < 8 from fun z => by have := (nI_ltI (b := 8) (by omega) (by decide)).mp z; have hi : dep = 8 := hi; omega)]
      exact k0 I p hr (rF.rfl' P I) hs.2.2.2.1 ⟨len, hc.2.1, hc.1⟩
    | some f =>
      obtain ⟨h8, d1, hd1, hf⟩ := hi
      have hr : rPart t o (some f) p pt = rIn t 93 f p pt := by unfold rPart; rw [if_pos hy]
      rw [hr] at k0 k1
      have hpn := isG_lt hy
      refine w_X7_part_6 (d1 := 6) hG (by omega) ?_
      rw [if_neg (by decide), if_pos (show nI dep < 8 from (nI_ltI (b := 8) (by omega) (by decide)).mpr h8)]
      refine c_adv (by omega) hG hs ?_
      intro I1 f1 s1
      refine w_X7_part_21 (d1 := d1) hG hd1 ?_
      rw [sm_n1]
      refine hf n y I1 L R _ (nx t p) pt len cd hG hP s1 (f1.P hpP hc) (by omega) (fun I' q e1 g e4 el => ?_) (fun I' q pt' D cd' len' e1 g s c ag sg pr bd => ?_)
      · refine w_X7_part_28 (d1 := 6) hG (by omega) ?_
        rw [if_pos rfl]
        refine k0 I' q ?_ ((f1.F P).trans g) e4 el
        unfold rIn
        rw [e1]
      · refine w_X7_part_28 (d1 := 6) hG (by omega) ?_
        rw [if_neg (by decide)]
        refine c_sign (c := 93) hG s (by decide) (fun hn => ?_) (fun hy2 => ?_)
        · refine w_X7_part_37 (d1 := 6) hG (by omega) ?_
          rw [if_pos rfl]
          refine k0 I' q ?_ ((f1.F P).trans g) s.2.2.2.1 ⟨len', c.2.1, c.1⟩
          unfold rIn
          rw [e1]
          exact if_neg hn
        · refine w_X7_part_37 (d1 := 6) hG (by omega) ?_
          rw [if_neg (by decide)]
          refine c_adv (by omega) hG s ?_
          intro I2 f2 s2
          refine w_X7_part_46 ?_
          have hqn := isG_lt hy2
          refine k1 I2 (nx t q) pt' D cd' len' ?_ (((f1.F P).trans g).trans (f2.F P)) s2 (f2.P hpP c) ag sg pr (by omega)
          unfold rIn
          rw [e1]
          exact if_pos hy2

theorem c_opMul {ex : sm_O} {n : Nat} {y : sm_Y} {I : Nat → Nat → Int32} {L : Nat → Nat → Int64} {R : Nat → Nat → Option Nat} {Q : sm_Q} {d p pt P i : Nat} {o : Bool} {t : Tp} {w1 w4 : Option Value} (hd : 2 ≤ d) (hi : i < 400) (hG : sm_G y R) (hs : rS t o P I R p pt) (k0 : opMul t p = none → Q (some (.int 1)) (n, y, I, L, R))
    (k1 : ∀ (I' : Nat → Nat → Int32) (st : Nat), opMul t p = some st → rFa I I' → rS t o P I' R (nx t p) pt → sm_W ex d 0 0 46 81 [some (.ref 120), w1, some (.int 1), some (.int (nI i)), some (.int (nI st))] [] (n, y, I', L, R) Q) :
    sm_W ex d 0 0 46 8 [some (.ref 120), w1, some (.int 1), some (.int (nI i)), w4] [] (n, y, I, L, R) Q := by
  refine w_X7_term_8 (d1 := 1) hG (by omega) ?_
  rw [if_neg (show ¬ (400 : Int32) ≤ nI i from fun z => by have := (nI_leI (a := 400) (by decide) (by omega)).mp z; omega), if_neg (show ¬ (1 : Int32) = 0 by decide)]
  have tail : opMul t p ≠ none → sm_W ex 1 0 0 52 0 [some (.ref 120), some (.int (nI 42))] [] (n, y, I, L, R) (fun r μ1 => sm_W ex d 0 0 46 52 [some (.ref 120), w1, some (.int 1), some (.int (nI i)), w4] (r.toList ++ []) μ1 Q) := by
    intro h
    refine c_sign (c := 42) hG hs (by decide) (fun n42 => ?_) (fun y42 => ?_)
    · refine w_X7_term_52 (d1 := 1) hG (by omega) ?_
      rw [if_pos rfl]
      refine c_sign (c := 47) hG hs (by decide) (fun n47 => ?_) (fun y47 => ?_)
      · refine w_X7_term_65 (d1 := 1) hG (by omega) ?_
        rw [if_pos rfl]
        refine c_adv (Nat.le_refl 1) hG hs ?_
        intro I' f s
        refine k1 I' 7 ?_ f s
        unfold opMul at h ⊢
        rw [if_neg n42, if_neg n47] at h ⊢
        by_cases e : isG t p 37
        · rw [if_pos e]
        · rw [if_neg e] at h; exact absurd rfl h
      · refine w_X7_term_65 (d1 := 1) hG (by omega) ?_
        rw [if_neg (by decide)]
        refine c_adv (Nat.le_refl 1) hG hs ?_
        intro I' f s
        refine k1 I' 6 ?_ f s
        unfold opMul
        rw [if_neg n42, if_pos y47]
    · refine w_X7_term_52 (d1 := 1) hG (by omega) ?_
      rw [if_neg (by decide)]
      refine c_adv (Nat.le_refl 1) hG hs ?_
      intro I' f s
      refine k1 I' 5 ?_ f s
      unfold opMul
      rw [if_pos y42]
  refine c_sign (c := 42) hG hs (by decide) (fun n42 => ?_) (fun y42 => ?_)
  · refine w_X7_term_25 (d1 := 1) hG (by omega) ?_
    rw [if_pos rfl]
    refine c_sign (c := 47) hG hs (by decide) (fun n47 => ?_) (fun y47 => ?_)
    · refine w_X7_term_34 (d1 := 1) hG (by omega) ?_
      rw [if_pos rfl]
      refine c_sign (c := 37) hG hs (by decide) (fun n37 => ?_) (fun y37 => ?_)
      · refine w_X7_term_43 (d1 := 1) hG (by omega) ?_
        rw [if_pos rfl]
        refine ⟨Or.inr rfl, k0 ?_⟩
        unfold opMul
        rw [if_neg n42, if_neg n47, if_neg n37]
      · refine w_X7_term_43 (d1 := 1) hG (by omega) ?_
        rw [if_neg (by decide)]
        refine tail ?_
        unfold opMul
        rw [if_neg n42, if_neg n47, if_pos y37]
        exact fun z => by cases z
    · refine w_X7_term_34 (d1 := 1) hG (by omega) ?_
      rw [if_neg (by decide)]
      refine tail ?_
      unfold opMul
      rw [if_neg n42, if_pos y47]
      exact fun z => by cases z
  · refine w_X7_term_25 (d1 := 1) hG (by omega) ?_
    rw [if_neg (by decide)]
    refine tail ?_
    unfold opMul
    rw [if_pos y42]
    exact fun z => by cases z
theorem c_opAdd {ex : sm_O} {n : Nat} {y : sm_Y} {I : Nat → Nat → Int32} {L : Nat → Nat → Int64} {R : Nat → Nat → Option Nat} {Q : sm_Q} {d p pt P i : Nat} {o : Bool} {t : Tp} {w1 w4 : Option Value} (hd : 2 ≤ d) (hi : i < 400) (hG : sm_G y R) (hs : rS t o P I R p pt) (k0 : opAdd t p = none → Q (some (.int 1)) (n, y, I, L, R))
    (k1 : ∀ (I' : Nat → Nat → Int32) (st : Nat), opAdd t p = some st → rFa I I' → rS t o P I' R (nx t p) pt → sm_W ex d 0 0 45 57 [some (.ref 120), w1, some (.int 1), some (.int (nI i)), some (.int (nI st))] [] (n, y, I', L, R) Q) :
    sm_W ex d 0 0 45 8 [some (.ref 120), w1, some (.int 1), some (.int (nI i)), w4] [] (n, y, I, L, R) Q := by
  refine w_X7_sum_8 (d1 := 1) hG (by omega) ?_
  rw [if_neg (show ¬ (400 : Int32) ≤ nI i from fun z => by have := (nI_leI (a := 400) (by decide) (by omega)).mp z; omega), if_neg (show ¬ (1 : Int32) = 0 by decide)]
  have tail : opAdd t p ≠ none → sm_W ex 1 0 0 52 0 [some (.ref 120), some (.int (nI 43))] [] (n, y, I, L, R) (fun r μ1 => sm_W ex d 0 0 45 43 [some (.ref 120), w1, some (.int 1), some (.int (nI i)), w4] (r.toList ++ []) μ1 Q) := by
    intro h
    refine c_sign (c := 43) hG hs (by decide) (fun n43 => ?_) (fun y43 => ?_)
    · refine w_X7_sum_43 (d1 := 1) hG (by omega) ?_
      rw [if_pos rfl]
      refine c_adv (Nat.le_refl 1) hG hs ?_
      intro I' f s
      refine k1 I' 4 ?_ f s
      unfold opAdd at h ⊢
      rw [if_neg n43] at h ⊢
      by_cases e : isG t p 45
      · rw [if_pos e]
      · rw [if_neg e] at h; exact absurd rfl h
    · refine w_X7_sum_43 (d1 := 1) hG (by omega) ?_
      rw [if_neg (by decide)]
      refine c_adv (Nat.le_refl 1) hG hs ?_
      intro I' f s
      refine k1 I' 3 ?_ f s
      unfold opAdd
      rw [if_pos y43]
  refine c_sign (c := 43) hG hs (by decide) (fun n43 => ?_) (fun y43 => ?_)
  · refine w_X7_sum_25 (d1 := 1) hG (by omega) ?_
    rw [if_pos rfl]
    refine c_sign (c := 45) hG hs (by decide) (fun n45 => ?_) (fun y45 => ?_)
    · refine w_X7_sum_34 (d1 := 1) hG (by omega) ?_
      rw [if_pos rfl]
      refine ⟨Or.inr rfl, k0 ?_⟩
      unfold opAdd
      rw [if_neg n43, if_neg n45]
    · refine w_X7_sum_34 (d1 := 1) hG (by omega) ?_
      rw [if_neg (by decide)]
      refine tail ?_
      unfold opAdd
      rw [if_neg n43, if_pos y45]
      exact fun z => by cases z
  · refine w_X7_sum_25 (d1 := 1) hG (by omega) ?_
    rw [if_neg (by decide)]
    refine tail ?_
    unfold opAdd
    rw [if_pos y43]
    exact fun z => by cases z
theorem opMul_st {t : Tp} {p st : Nat} (h : opMul t p = some st) : 3 ≤ st ∧ st ≤ 10 ∧ tkK t p = 3 := by
  unfold opMul at h
  split at h
  · rename_i e; cases h; exact ⟨by omega, by omega, e.1⟩
  · split at h
    · rename_i e; cases h; exact ⟨by omega, by omega, e.1⟩
    · split at h
      · rename_i e; cases h; exact ⟨by omega, by omega, e.1⟩
      · cases h
theorem opAdd_st {t : Tp} {p st : Nat} (h : opAdd t p = some st) : 3 ≤ st ∧ st ≤ 10 ∧ tkK t p = 3 := by
  unfold opAdd at h
  split at h
  · rename_i e; cases h; exact ⟨by omega, by omega, e.1⟩
  · split at h
    · rename_i e; cases h; exact ⟨by omega, by omega, e.1⟩
    · cases h
theorem dCo_bin {st : Nat} (h : 3 ≤ st ∧ st ≤ 10) (A B : DD) : dCo st A B = dBin st A B := by
  unfold dCo
  rw [if_neg (by omega), if_neg (by omega)]

set_option maxHeartbeats 1000000 in
theorem lp_term {ex : sm_O} {t : Tp} {o : Bool} {P d d1 dep hh : Nat} {sub : Nat → Nat → Rr} {n : Nat} {y : sm_Y} {L : Nat → Nat → Int64} {R : Nat → Nat → Option Nat} {Q : sm_Q} {I0 : Nat → Nat → Int32} {cd0 : Nat → Nat × Nat} {p0 pt0 a0 : Nat} (hd : 2 ≤ d) (hd1 : d1 < d) (hsub : cOk ex t o P d1 47 dep [] hh dR sub) (hG : sm_G y R) (hP : ok6 y R P 200 12) (hb0 : 3 * a0 ≤ 4 * pt0 + p0) :
    ∀ (f i : Nat) (I : Nat → Nat → Int32) (p pt len : Nat) (cd : Nat → Nat × Nat) (D : DD) (w4 : Option Value), i + f = 400 → rF P I0 I → rS t o P I R p pt → cPr I P cd len → (∀ k, k < a0 → cd k = cd0 k) → cSX (nN o) cd a0 len (hh + 1) D → dR D → 3 * len + 2 + 4 * pt0 + p0 ≤ 4 * pt + p + 3 * a0 →
    (∀ (I' : Nat → Nat → Int32) (q : Nat), rLoop t (opMul t) sub f p pt D = .inl q → rF P I0 I' → I' 120 4 = nI q → (∃ l, l ≤ 200 ∧ I' P 6 = nI l) → Q (some (.int 0)) (n, y, I', L, R)) →
    (∀ (I' : Nat → Nat → Int32) (q pt' : Nat) (D' : DD) (cd' : Nat → Nat × Nat) (len' : Nat), rLoop t (opMul t) sub f p pt D = .inr (q, pt', D') → rF P I0 I' → rS t o P I' R q pt' → cPr I' P cd' len' → (∀ k, k < a0 → cd' k = cd0 k) → cSX (nN o) cd' a0 len' (hh + 1) D' → dR D' → 3 * len' + 2 + 4 * pt0 + p0 ≤ 4 * pt' + q + 3 * a0 → Q (some (.int 1)) (n, y, I', L, R)) →
    sm_W ex d 0 0 46 8 [some (.ref 120), some (.int (nI dep)), some (.int 1), some (.int (nI i)), w4] [] (n, y, I, L, R) Q := by
  intro f
  induction f with
  | zero =>
    intro i I p pt len cd D w4 hi fr hs hc ag sg dr bd k0 k1
    refine w_X7_term_8 (d1 := 1) hG (by omega) ?_
    rw [if_pos (show (400 : Int32) ≤ nI i from (nI_leI (a := 400) (by decide) (by omega)).mpr (by omega))]
    exact ⟨Or.inr rfl, k1 I p pt D cd len rfl fr hs hc ag sg dr bd⟩
  | succ f ih =>
    intro i I p pt len cd D w4 hi fr hs hc ag sg dr bd k0 k1
    have hpP := hs.2.2.2.2.2.2.2.2.2
    refine c_opMul hd (by omega) hG hs (fun e => ?_) (fun I1 st e f1 s1 => ?_)
    · refine k1 I p pt D cd len ?_ fr hs hc ag sg dr bd
      unfold rLoop
      rw [e]
    · have hst := opMul_st e
      have hpn : p < nx t p := nx_lt (by omega)
      refine w_X7_term_81 (d1 := d1) hG hd1 ?_
      have hal := sg.le
      refine hsub n y I1 L R _ (nx t p) pt len cd hG hP s1 (f1.P hpP hc) (by omega) (fun I' q e1 g e4 el => ?_) (fun I' q pt' D' cd' len' e1 g s c ag' sg' pr bd' => ?_)
      · refine w_X7_term_86 (d1 := 0) (q0 := P) hG hP hs.2.2.1 (by omega) ?_
        rw [if_pos rfl]
        have fin : Q (some (.int 0)) (n, y, I', L, R) := by
          refine k0 I' q ?_ ((fr.trans (f1.F P)).trans g) e4 el
          unfold rLoop
          rw [e]
          dsimp only
          rw [e1]
        refine w_X7_term_8 (d1 := 1) hG (by omega) ?_
        by_cases z : (400 : Int32) ≤ nI i + 1
        · rw [if_pos z]; exact ⟨Or.inl rfl, fin⟩
        · rw [if_neg z, if_pos rfl]; exact ⟨Or.inl rfl, fin⟩
      · refine w_X7_term_86 (d1 := 0) (q0 := P) hG hP hs.2.2.1 (by omega) ?_
        rw [if_neg (by decide)]
        have hll := sg'.le
        have hpt' := s.2.2.2.2.2.2.2.2.1
        have hq4 := lt_of_nx s
        refine c_put (st := st) (v := 0) hP c (by omega) (by omega) (by decide) ?_
        intro I2 f2 c2
        refine w_X7_term_99 ?_
        rw [if_neg (by decide), sm_n1]
        have hco : dCo st D D' = dBin st D D' := dCo_bin ⟨hst.1, hst.2.1⟩ D D'
        have hrl : rLoop t (opMul t) sub (f + 1) p pt D = rLoop t (opMul t) sub f q pt' (dBin st D D') := by
          rw [← hco]
          show (match opMul t p with
            | none => Sum.inr (p, pt, D)
            | some st => _) = _
          rw [e]
          dsimp only
          rw [e1]
        rw [hrl] at k0 k1
        refine ih (i + 1) I2 q pt' (len' + 1) _ (dBin st D D') _ (by omega) (((fr.trans (f1.F P)).trans g).trans f2.F) (f2.S s) c2 (fun k hk => ?_) ?_ (dBin_R st D D') (by omega) k0 k1
        · rw [cdU_o _ _ (by omega), ag' k (by omega)]
          exact ag k hk
        · exact cs_bin (sg.mono (fun k q1 q2 => by rw [cdU_o _ _ (by omega)]; exact ag' k q2)) (sg'.mono (fun k q1 q2 => cdU_o _ _ (by omega))) dr pr ⟨hst.1, hst.2.1⟩ (cdU_s _ _ _) (Nat.le_refl _) (Nat.le_refl _)
theorem cOk_term {ex : sm_O} {t : Tp} {o : Bool} {P d d1 dep hh : Nat} {sub : Nat → Nat → Rr} (hd : 2 ≤ d) (hd1 : d1 < d) (hsub : cOk ex t o P d1 47 dep [] hh dR sub) : cOk ex t o P d 46 dep [none, none, none] (hh + 1) dR (rSeq t (opMul t) sub) := by
  intro n y I L R Q p pt len cd hG hP hs hc hb k0 k1
  refine w_X7_term_0 (d1 := d1) hG hd1 ?_
  refine hsub n y I L R _ p pt len cd hG hP hs hc hb (fun I' q e1 g e4 el => ?_) (fun I' q pt' D' cd' len' e1 g s c ag' sg' pr bd' => ?_)
  · refine w_X7_term_5 ?_
    refine w_X7_term_8 (d1 := 1) hG (by omega) ?_
    rw [if_neg (by decide), if_pos rfl]
    refine ⟨Or.inl rfl, k0 I' q ?_ g e4 el⟩
    unfold rSeq
    rw [e1]
  · refine w_X7_term_5 ?_
    have hrs : rSeq t (opMul t) sub p pt = rLoop t (opMul t) sub 400 q pt' D' := by
      unfold rSeq
      rw [e1]
    rw [hrs] at k0 k1
    exact lp_term (p0 := p) (pt0 := pt) (a0 := len) (cd0 := cd) (I0 := I) hd hd1 hsub hG hP hb 400 0 I' q pt' len' cd' D' _ rfl g s c ag' (sg'.up (by omega)) pr bd' k0 k1

set_option maxHeartbeats 1000000 in
theorem lp_sum {ex : sm_O} {t : Tp} {o : Bool} {P d d1 dep hh : Nat} {sub : Nat → Nat → Rr} {n : Nat} {y : sm_Y} {L : Nat → Nat → Int64} {R : Nat → Nat → Option Nat} {Q : sm_Q} {I0 : Nat → Nat → Int32} {cd0 : Nat → Nat × Nat} {p0 pt0 a0 : Nat} (hd : 2 ≤ d) (hd1 : d1 < d) (hsub : cOk ex t o P d1 46 dep [none, none, none] hh dR sub) (hG : sm_G y R) (hP : ok6 y R P 200 12) (hb0 : 3 * a0 ≤ 4 * pt0 + p0) :
    ∀ (f i : Nat) (I : Nat → Nat → Int32) (p pt len : Nat) (cd : Nat → Nat × Nat) (D : DD) (w4 : Option Value), i + f = 400 → rF P I0 I → rS t o P I R p pt → cPr I P cd len → (∀ k, k < a0 → cd k = cd0 k) → cSX (nN o) cd a0 len (hh + 1) D → dR D → 3 * len + 2 + 4 * pt0 + p0 ≤ 4 * pt + p + 3 * a0 →
    (∀ (I' : Nat → Nat → Int32) (q : Nat), rLoop t (opAdd t) sub f p pt D = .inl q → rF P I0 I' → I' 120 4 = nI q → (∃ l, l ≤ 200 ∧ I' P 6 = nI l) → Q (some (.int 0)) (n, y, I', L, R)) →
    (∀ (I' : Nat → Nat → Int32) (q pt' : Nat) (D' : DD) (cd' : Nat → Nat × Nat) (len' : Nat), rLoop t (opAdd t) sub f p pt D = .inr (q, pt', D') → rF P I0 I' → rS t o P I' R q pt' → cPr I' P cd' len' → (∀ k, k < a0 → cd' k = cd0 k) → cSX (nN o) cd' a0 len' (hh + 1) D' → dR D' → 3 * len' + 2 + 4 * pt0 + p0 ≤ 4 * pt' + q + 3 * a0 → Q (some (.int 1)) (n, y, I', L, R)) →
    sm_W ex d 0 0 45 8 [some (.ref 120), some (.int (nI dep)), some (.int 1), some (.int (nI i)), w4] [] (n, y, I, L, R) Q := by
  intro f
  induction f with
  | zero =>
    intro i I p pt len cd D w4 hi fr hs hc ag sg dr bd k0 k1
    refine w_X7_sum_8 (d1 := 1) hG (by omega) ?_
    rw [if_pos (show (400 : Int32) ≤ nI i from (nI_leI (a := 400) (by decide) (by omega)).mpr (by omega))]
    exact ⟨Or.inr rfl, k1 I p pt D cd len rfl fr hs hc ag sg dr bd⟩
  | succ f ih =>
    intro i I p pt len cd D w4 hi fr hs hc ag sg dr bd k0 k1
    have hpP := hs.2.2.2.2.2.2.2.2.2
    refine c_opAdd hd (by omega) hG hs (fun e => ?_) (fun I1 st e f1 s1 => ?_)
    · refine k1 I p pt D cd len ?_ fr hs hc ag sg dr bd
      unfold rLoop
      rw [e]
    · have hst := opAdd_st e
      have hpn : p < nx t p := nx_lt (by omega)
      refine w_X7_sum_57 (d1 := d1) hG hd1 ?_
      have hal := sg.le
      refine hsub n y I1 L R _ (nx t p) pt len cd hG hP s1 (f1.P hpP hc) (by omega) (fun I' q e1 g e4 el => ?_) (fun I' q pt' D' cd' len' e1 g s c ag' sg' pr bd' => ?_)
      · refine w_X7_sum_62 (d1 := 0) (q0 := P) hG hP hs.2.2.1 (by omega) ?_
        rw [if_pos rfl]
        have fin : Q (some (.int 0)) (n, y, I', L, R) := by
          refine k0 I' q ?_ ((fr.trans (f1.F P)).trans g) e4 el
          unfold rLoop
          rw [e]
          dsimp only
          rw [e1]
        refine w_X7_sum_8 (d1 := 1) hG (by omega) ?_
        by_cases z : (400 : Int32) ≤ nI i + 1
        · rw [if_pos z]; exact ⟨Or.inl rfl, fin⟩
        · rw [if_neg z, if_pos rfl]; exact ⟨Or.inl rfl, fin⟩
      · refine w_X7_sum_62 (d1 := 0) (q0 := P) hG hP hs.2.2.1 (by omega) ?_
        rw [if_neg (by decide)]
        have hll := sg'.le
        have hpt' := s.2.2.2.2.2.2.2.2.1
        have hq4 := lt_of_nx s
        refine c_put (st := st) (v := 0) hP c (by omega) (by omega) (by decide) ?_
        intro I2 f2 c2
        refine w_X7_sum_75 ?_
        rw [if_neg (by decide), sm_n1]
        have hco : dCo st D D' = dBin st D D' := dCo_bin ⟨hst.1, hst.2.1⟩ D D'
        have hrl : rLoop t (opAdd t) sub (f + 1) p pt D = rLoop t (opAdd t) sub f q pt' (dBin st D D') := by
          rw [← hco]
          show (match opAdd t p with
            | none => Sum.inr (p, pt, D)
            | some st => _) = _
          rw [e]
          dsimp only
          rw [e1]
        rw [hrl] at k0 k1
        refine ih (i + 1) I2 q pt' (len' + 1) _ (dBin st D D') _ (by omega) (((fr.trans (f1.F P)).trans g).trans f2.F) (f2.S s) c2 (fun k hk => ?_) ?_ (dBin_R st D D') (by omega) k0 k1
        · rw [cdU_o _ _ (by omega), ag' k (by omega)]
          exact ag k hk
        · exact cs_bin (sg.mono (fun k q1 q2 => by rw [cdU_o _ _ (by omega)]; exact ag' k q2)) (sg'.mono (fun k q1 q2 => cdU_o _ _ (by omega))) dr pr ⟨hst.1, hst.2.1⟩ (cdU_s _ _ _) (Nat.le_refl _) (Nat.le_refl _)
theorem cOk_sum {ex : sm_O} {t : Tp} {o : Bool} {P d d1 dep hh : Nat} {sub : Nat → Nat → Rr} (hd : 2 ≤ d) (hd1 : d1 < d) (hsub : cOk ex t o P d1 46 dep [none, none, none] hh dR sub) : cOk ex t o P d 45 dep [none, none, none] (hh + 1) dR (rSeq t (opAdd t) sub) := by
  intro n y I L R Q p pt len cd hG hP hs hc hb k0 k1
  refine w_X7_sum_0 (d1 := d1) hG hd1 ?_
  refine hsub n y I L R _ p pt len cd hG hP hs hc hb (fun I' q e1 g e4 el => ?_) (fun I' q pt' D' cd' len' e1 g s c ag' sg' pr bd' => ?_)
  · refine w_X7_sum_5 ?_
    refine w_X7_sum_8 (d1 := 1) hG (by omega) ?_
    rw [if_neg (by decide), if_pos rfl]
    refine ⟨Or.inl rfl, k0 I' q ?_ g e4 el⟩
    unfold rSeq
    rw [e1]
  · refine w_X7_sum_5 ?_
    have hrs : rSeq t (opAdd t) sub p pt = rLoop t (opAdd t) sub 400 q pt' D' := by
      unfold rSeq
      rw [e1]
    rw [hrs] at k0 k1
    exact lp_sum (p0 := p) (pt0 := pt) (a0 := len) (cd0 := cd) (I0 := I) hd hd1 hsub hG hP hb 400 0 I' q pt' len' cd' D' _ rfl g s c ag' (sg'.up (by omega)) pr bd' k0 k1

