set_option maxRecDepth 100000 in
theorem w_X7_plain_0 {ex : sm_O} {d n : Nat} {y : sm_Y} {I : Nat → Nat → Int32} {L : Nat → Nat → Int64} {R : Nat → Nat → Option Nat} {Q : sm_Q} {w0 : Option Value} {w2 : Option Value} {w3 : Option Value} {a1 : Int32} (k : sm_W ex d 0 0 44 4 [w0, some (.int a1), some (.int 0), some (.int 0)] [] (n, y, I, L, R) Q) : sm_W ex d 0 0 44 0 [w0, some (.int a1), w2, w3] [] (n, y, I, L, R) Q := sm_in (sm_in (And.intro (Nat.le_of_ble_eq_true rfl) (sm_in (sm_in (And.intro (Nat.le_of_ble_eq_true rfl) (k))))))
set_option maxRecDepth 100000 in
theorem w_X7_plain_4 {ex : sm_O} {d n : Nat} {y : sm_Y} {I : Nat → Nat → Int32} {L : Nat → Nat → Int64} {R : Nat → Nat → Option Nat} {Q : sm_Q} {w1 : Option Value} {w2 : Option Value} {a3 : Int32} {d1 : Nat} (hG : sm_G y R) (h1 : d1 < d) (k : if 400 ≤ a3 then (sm_W ex d1 0 0 52 0 [some (.ref 120), some (.int 40)] [] (n, y, I, L, R) (fun r μ1 => sm_W ex d 0 0 44 46 [some (.ref 120), w1, w2, some (.int a3)] (r.toList ++ []) μ1 Q)) else (sm_W ex d1 0 0 53 0 [some (.ref 120), some (.retAddr 8), none, none, none, none, none] [] (n, y, I, L, R) (fun r μ1 => sm_W ex d 0 0 44 17 [some (.ref 120), w1, w2, some (.int a3)] (r.toList ++ []) μ1 Q))) : sm_W ex d 0 0 44 4 [some (.ref 120), w1, w2, some (.int a3)] [] (n, y, I, L, R) Q := sm_in (sm_in (sm_in (And.intro (fun c1 => have k1t := Eq.mp (if_pos c1) k; sm_in (sm_in (sm_in (Exists.intro 7 (And.intro (hG.1 120 (Nat.le_of_ble_eq_true rfl)) (And.intro rfl (sm_calln h1 (Nat.le_of_ble_eq_true rfl) (Nat.le_of_ble_eq_true rfl) k1t))))))) (fun c1 => have k1f := Eq.mp (if_neg c1) k; sm_in (sm_in (sm_in (Exists.intro 7 (And.intro (hG.1 120 (Nat.le_of_ble_eq_true rfl)) (And.intro rfl (sm_calln h1 (Nat.le_of_ble_eq_true rfl) (Nat.le_of_ble_eq_true rfl) k1f))))))))))
set_option maxRecDepth 100000 in
theorem w_X7_plain_17 {ex : sm_O} {d n : Nat} {y : sm_Y} {I : Nat → Nat → Int32} {L : Nat → Nat → Int64} {R : Nat → Nat → Option Nat} {Q : sm_Q} {w3 : Option Value} {a1 : Int32} {a2 : Int32} {s0 : Int32} {d1 : Nat} (hG : sm_G y R) (h1 : d1 < d) (k : if s0 = 0 then (if a2 = 0 then (sm_W ex d1 0 0 50 0 [some (.ref 120)] [] (n, y, I, L, R) (fun r μ1 => sm_W ex d 0 0 44 34 [some (.ref 120), some (.int a1), some (.int 1), w3] (r.toList ++ []) μ1 Q)) else (sm_W ex d1 0 0 50 0 [some (.ref 120)] [] (n, y, I, L, R) (fun r μ1 => sm_W ex d 0 0 44 34 [some (.ref 120), some (.int a1), some (.int 0), w3] (r.toList ++ []) μ1 Q))) else (sm_W ex d1 0 0 52 0 [some (.ref 120), some (.int 40)] [] (n, y, I, L, R) (fun r μ1 => sm_W ex d 0 0 44 46 [some (.ref 120), some (.int a1), some (.int a2), w3] (r.toList ++ []) μ1 Q))) : sm_W ex d 0 0 44 17 [some (.ref 120), some (.int a1), some (.int a2), w3] [.int s0] (n, y, I, L, R) Q := sm_in (And.intro (fun c1 => have k1f := Eq.mp (if_neg c1) k; sm_in (sm_in (sm_in (Exists.intro 7 (And.intro (hG.1 120 (Nat.le_of_ble_eq_true rfl)) (And.intro rfl (sm_calln h1 (Nat.le_of_ble_eq_true rfl) (Nat.le_of_ble_eq_true rfl) k1f))))))) (fun c1 => have k1t := Eq.mp (if_pos c1) k; sm_in (sm_in (And.intro (fun c2 => have k2f := Eq.mp (if_neg c2) k1t; sm_in (sm_in (And.intro (Nat.le_of_ble_eq_true rfl) (sm_in (sm_in (Exists.intro 7 (And.intro (hG.1 120 (Nat.le_of_ble_eq_true rfl)) (And.intro rfl (sm_calln h1 (Nat.le_of_ble_eq_true rfl) (Nat.le_of_ble_eq_true rfl) k2f))))))))) (fun c2 => have k2t := Eq.mp (if_pos c2) k1t; sm_in (sm_in (sm_in (And.intro (Nat.le_of_ble_eq_true rfl) (sm_in (sm_in (Exists.intro 7 (And.intro (hG.1 120 (Nat.le_of_ble_eq_true rfl)) (And.intro rfl (sm_calln h1 (Nat.le_of_ble_eq_true rfl) (Nat.le_of_ble_eq_true rfl) k2t))))))))))))))
set_option maxRecDepth 100000 in
theorem w_X7_plain_34 {ex : sm_O} {d n : Nat} {y : sm_Y} {I : Nat → Nat → Int32} {L : Nat → Nat → Int64} {R : Nat → Nat → Option Nat} {Q : sm_Q} {w0 : Option Value} {w1 : Option Value} {a2 : Int32} {a3 : Int32} (k : sm_W ex d 0 0 44 4 [w0, w1, some (.int a2), some (.int (a3 + 1))] [] (n, y, I, L, R) Q) : sm_W ex d 0 0 44 34 [w0, w1, some (.int a2), some (.int a3)] [] (n, y, I, L, R) Q := sm_in (And.intro (Nat.le_of_ble_eq_true rfl) (sm_in (k)))
set_option maxRecDepth 100000 in
theorem w_X7_plain_46 {ex : sm_O} {d n : Nat} {y : sm_Y} {I : Nat → Nat → Int32} {L : Nat → Nat → Int64} {R : Nat → Nat → Option Nat} {Q : sm_Q} {w2 : Option Value} {w3 : Option Value} {a1 : Int32} {s0 : Int32} {d1 : Nat} (hG : sm_G y R) (h1 : d1 < d) (k : if s0 = 0 then (sm_W ex d1 0 0 45 0 [some (.ref 120), some (.int a1), none, none, none] [] (n, y, I, L, R) (fun r μ1 => sm_W ex d 0 0 44 94 [some (.ref 120), some (.int a1), w2, w3] (r.toList ++ []) μ1 Q)) else (if a1 < 8 then (sm_W ex d1 0 0 50 0 [some (.ref 120)] [] (n, y, I, L, R) (fun r μ1 => sm_W ex d 0 0 44 61 [some (.ref 120), some (.int a1), w2, w3] (r.toList ++ []) μ1 Q)) else (Q (some (.int 0)) (n, y, I, L, R)))) : sm_W ex d 0 0 44 46 [some (.ref 120), some (.int a1), w2, w3] [.int s0] (n, y, I, L, R) Q := sm_in (And.intro (fun c1 => have k1t := Eq.mp (if_pos c1) k; sm_in (sm_in (sm_in (Exists.intro 7 (And.intro (hG.1 120 (Nat.le_of_ble_eq_true rfl)) (And.intro rfl (sm_calln h1 (Nat.le_of_ble_eq_true rfl) (Nat.le_of_ble_eq_true rfl) k1t))))))) (fun c1 => have k1f := Eq.mp (if_neg c1) k; sm_in (sm_in (sm_in (And.intro (fun c2 => have k2t := Eq.mp (if_pos c2) k1f; sm_in (sm_in (Exists.intro 7 (And.intro (hG.1 120 (Nat.le_of_ble_eq_true rfl)) (And.intro rfl (sm_calln h1 (Nat.le_of_ble_eq_true rfl) (Nat.le_of_ble_eq_true rfl) k2t)))))) (fun c2 => have k2f := Eq.mp (if_neg c2) k1f; sm_in (sm_in (And.intro rfl (And.intro (Or.inl rfl) k2f)))))))))
set_option maxRecDepth 100000 in
theorem w_X7_plain_61 {ex : sm_O} {d n : Nat} {y : sm_Y} {I : Nat → Nat → Int32} {L : Nat → Nat → Int64} {R : Nat → Nat → Option Nat} {Q : sm_Q} {w2 : Option Value} {w3 : Option Value} {a1 : Int32} {d1 : Nat} (hG : sm_G y R) (h1 : d1 < d) (k : sm_W ex d1 0 0 42 0 [some (.ref 120), some (.int (a1 + 1)), none, none, none] [] (n, y, I, L, R) (fun r μ1 => sm_W ex d 0 0 44 68 [some (.ref 120), some (.int a1), w2, w3] (r.toList ++ []) μ1 Q)) : sm_W ex d 0 0 44 61 [some (.ref 120), some (.int a1), w2, w3] [] (n, y, I, L, R) Q := sm_in (sm_in (sm_in (sm_in (sm_in (Exists.intro 7 (And.intro (hG.1 120 (Nat.le_of_ble_eq_true rfl)) (And.intro rfl (sm_calln h1 (Nat.le_of_ble_eq_true rfl) (Nat.le_of_ble_eq_true rfl) k))))))))
set_option maxRecDepth 100000 in
theorem w_X7_plain_68 {ex : sm_O} {d n : Nat} {y : sm_Y} {I : Nat → Nat → Int32} {L : Nat → Nat → Int64} {R : Nat → Nat → Option Nat} {Q : sm_Q} {w1 : Option Value} {w2 : Option Value} {w3 : Option Value} {s0 : Int32} {d1 : Nat} (hG : sm_G y R) (h1 : d1 < d) (k : if s0 = 0 then (Q (some (.int 0)) (n, y, I, L, R)) else (sm_W ex d1 0 0 52 0 [some (.ref 120), some (.int 41)] [] (n, y, I, L, R) (fun r μ1 => sm_W ex d 0 0 44 77 [some (.ref 120), w1, w2, w3] (r.toList ++ []) μ1 Q))) : sm_W ex d 0 0 44 68 [some (.ref 120), w1, w2, w3] [.int s0] (n, y, I, L, R) Q := sm_in (And.intro (fun c1 => have k1t := Eq.mp (if_pos c1) k; sm_in (sm_in (And.intro rfl (And.intro (Or.inl rfl) k1t)))) (fun c1 => have k1f := Eq.mp (if_neg c1) k; sm_in (sm_in (sm_in (Exists.intro 7 (And.intro (hG.1 120 (Nat.le_of_ble_eq_true rfl)) (And.intro rfl (sm_calln h1 (Nat.le_of_ble_eq_true rfl) (Nat.le_of_ble_eq_true rfl) k1f))))))))
set_option maxRecDepth 100000 in
theorem w_X7_plain_77 {ex : sm_O} {d n : Nat} {y : sm_Y} {I : Nat → Nat → Int32} {L : Nat → Nat → Int64} {R : Nat → Nat → Option Nat} {Q : sm_Q} {w1 : Option Value} {w2 : Option Value} {w3 : Option Value} {s0 : Int32} {d1 : Nat} (hG : sm_G y R) (h1 : d1 < d) (k : if s0 = 0 then (Q (some (.int 0)) (n, y, I, L, R)) else (sm_W ex d1 0 0 50 0 [some (.ref 120)] [] (n, y, I, L, R) (fun r μ1 => sm_W ex d 0 0 44 86 [some (.ref 120), w1, w2, w3] (r.toList ++ []) μ1 Q))) : sm_W ex d 0 0 44 77 [some (.ref 120), w1, w2, w3] [.int s0] (n, y, I, L, R) Q := sm_in (And.intro (fun c1 => have k1f := Eq.mp (if_neg c1) k; sm_in (sm_in (Exists.intro 7 (And.intro (hG.1 120 (Nat.le_of_ble_eq_true rfl)) (And.intro rfl (sm_calln h1 (Nat.le_of_ble_eq_true rfl) (Nat.le_of_ble_eq_true rfl) k1f)))))) (fun c1 => have k1t := Eq.mp (if_pos c1) k; sm_in (sm_in (And.intro rfl (And.intro (Or.inl rfl) k1t)))))
set_option maxRecDepth 100000 in
theorem w_X7_plain_86 {ex : sm_O} {d n : Nat} {y : sm_Y} {I : Nat → Nat → Int32} {L : Nat → Nat → Int64} {R : Nat → Nat → Option Nat} {Q : sm_Q} {w1 : Option Value} {w3 : Option Value} {a2 : Int32} {q0 : Nat} {ns0 nc0 : Nat} {d1 : Nat} (hG : sm_G y R) (ho0 : ok6 y R q0 ns0 nc0) (h1 : R 120 3 = some q0) (h2 : d1 < d) (k : if a2 = 0 then (Q (some (.int 1)) (n, y, I, L, R)) else (sm_W ex d1 0 0 37 0 [some (.ref q0), some (.int 11), some (.int 0)] [] (n, y, I, L, R) (fun r μ1 => sm_W ex d 0 0 44 190 [some (.ref 120), w1, some (.int a2), w3] (r.toList ++ []) μ1 Q))) : sm_W ex d 0 0 44 86 [some (.ref 120), w1, some (.int a2), w3] [] (n, y, I, L, R) Q := sm_in (sm_in (sm_in (And.intro (fun c1 => have k1t := Eq.mp (if_pos c1) k; sm_in (sm_in (sm_in (And.intro rfl (And.intro (Or.inr rfl) k1t))))) (fun c1 => have k1f := Eq.mp (if_neg c1) k; sm_in (sm_in (And.intro (hG.1 120 (Nat.le_of_ble_eq_true rfl)) (sm_gfr rfl h1 (sm_in (sm_in (sm_in (Exists.intro 6 (And.intro (ok6_y0 ho0) (And.intro rfl (sm_calln h2 (Nat.le_of_ble_eq_true rfl) (Nat.le_of_ble_eq_true rfl) k1f))))))))))))))
set_option maxRecDepth 100000 in
theorem w_X7_plain_94 {ex : sm_O} {d n : Nat} {y : sm_Y} {I : Nat → Nat → Int32} {L : Nat → Nat → Int64} {R : Nat → Nat → Option Nat} {Q : sm_Q} {w1 : Option Value} {w2 : Option Value} {w3 : Option Value} {s0 : Int32} {d1 : Nat} (hG : sm_G y R) (h1 : d1 < d) (k : if s0 = 0 then (Q (some (.int 0)) (n, y, I, L, R)) else (sm_W ex d1 0 0 52 0 [some (.ref 120), some (.int 60)] [] (n, y, I, L, R) (fun r μ1 => sm_W ex d 0 0 44 105 [some (.ref 120), w1, w2, w3] (r.toList ++ []) μ1 Q))) : sm_W ex d 0 0 44 94 [some (.ref 120), w1, w2, w3] [.int s0] (n, y, I, L, R) Q := sm_in (And.intro (fun c1 => have k1f := Eq.mp (if_neg c1) k; sm_in (sm_in (sm_in (Exists.intro 7 (And.intro (hG.1 120 (Nat.le_of_ble_eq_true rfl)) (And.intro rfl (sm_calln h1 (Nat.le_of_ble_eq_true rfl) (Nat.le_of_ble_eq_true rfl) k1f))))))) (fun c1 => have k1t := Eq.mp (if_pos c1) k; sm_in (sm_in (And.intro rfl (And.intro (Or.inl rfl) k1t)))))
set_option maxRecDepth 100000 in
theorem w_X7_plain_105 {ex : sm_O} {d n : Nat} {y : sm_Y} {I : Nat → Nat → Int32} {L : Nat → Nat → Int64} {R : Nat → Nat → Option Nat} {Q : sm_Q} {w1 : Option Value} {w3 : Option Value} {a2 : Int32} {s0 : Int32} {d1 : Nat} (hG : sm_G y R) (h1 : d1 < d) (k : if s0 = 0 then (sm_W ex d1 0 0 52 0 [some (.ref 120), some (.int 62)] [] (n, y, I, L, R) (fun r μ1 => sm_W ex d 0 0 44 119 [some (.ref 120), w1, some (.int a2), w3] (r.toList ++ []) μ1 Q)) else (sm_W ex d1 0 0 50 0 [some (.ref 120)] [] (n, y, I, L, R) (fun r μ1 => sm_W ex d 0 0 44 154 [some (.ref 120), w1, some (.int a2), some (.int 8)] (r.toList ++ []) μ1 Q))) : sm_W ex d 0 0 44 105 [some (.ref 120), w1, some (.int a2), w3] [.int s0] (n, y, I, L, R) Q := sm_in (And.intro (fun c1 => have k1t := Eq.mp (if_pos c1) k; sm_in (sm_in (sm_in (Exists.intro 7 (And.intro (hG.1 120 (Nat.le_of_ble_eq_true rfl)) (And.intro rfl (sm_calln h1 (Nat.le_of_ble_eq_true rfl) (Nat.le_of_ble_eq_true rfl) k1t))))))) (fun c1 => have k1f := Eq.mp (if_neg c1) k; sm_in (sm_in (sm_in (And.intro (Nat.le_of_ble_eq_true rfl) (sm_in (sm_in (sm_in (And.intro (fun _ => sm_in (sm_in (Exists.intro 7 (And.intro (hG.1 120 (Nat.le_of_ble_eq_true rfl)) (And.intro rfl (sm_calln h1 (Nat.le_of_ble_eq_true rfl) (Nat.le_of_ble_eq_true rfl) k1f)))))) (fun c => absurd c (by decide : ¬ (8 : Int32) = (-1))))))))))))
set_option maxRecDepth 100000 in
theorem w_X7_plain_119 {ex : sm_O} {d n : Nat} {y : sm_Y} {I : Nat → Nat → Int32} {L : Nat → Nat → Int64} {R : Nat → Nat → Option Nat} {Q : sm_Q} {w1 : Option Value} {w3 : Option Value} {a2 : Int32} {s0 : Int32} {d1 : Nat} (hG : sm_G y R) (h1 : d1 < d) (k : if s0 = 0 then (sm_W ex d1 0 0 52 0 [some (.ref 120), some (.int 61)] [] (n, y, I, L, R) (fun r μ1 => sm_W ex d 0 0 44 133 [some (.ref 120), w1, some (.int a2), w3] (r.toList ++ []) μ1 Q)) else (sm_W ex d1 0 0 50 0 [some (.ref 120)] [] (n, y, I, L, R) (fun r μ1 => sm_W ex d 0 0 44 154 [some (.ref 120), w1, some (.int a2), some (.int 9)] (r.toList ++ []) μ1 Q))) : sm_W ex d 0 0 44 119 [some (.ref 120), w1, some (.int a2), w3] [.int s0] (n, y, I, L, R) Q := sm_in (And.intro (fun c1 => have k1t := Eq.mp (if_pos c1) k; sm_in (sm_in (sm_in (Exists.intro 7 (And.intro (hG.1 120 (Nat.le_of_ble_eq_true rfl)) (And.intro rfl (sm_calln h1 (Nat.le_of_ble_eq_true rfl) (Nat.le_of_ble_eq_true rfl) k1t))))))) (fun c1 => have k1f := Eq.mp (if_neg c1) k; sm_in (sm_in (sm_in (And.intro (Nat.le_of_ble_eq_true rfl) (sm_in (sm_in (sm_in (And.intro (fun _ => sm_in (sm_in (Exists.intro 7 (And.intro (hG.1 120 (Nat.le_of_ble_eq_true rfl)) (And.intro rfl (sm_calln h1 (Nat.le_of_ble_eq_true rfl) (Nat.le_of_ble_eq_true rfl) k1f)))))) (fun c => absurd c (by decide : ¬ (9 : Int32) = (-1))))))))))))
set_option maxRecDepth 100000 in
theorem w_X7_plain_133 {ex : sm_O} {d n : Nat} {y : sm_Y} {I : Nat → Nat → Int32} {L : Nat → Nat → Int64} {R : Nat → Nat → Option Nat} {Q : sm_Q} {w1 : Option Value} {w3 : Option Value} {a2 : Int32} {s0 : Int32} {d1 : Nat} (hG : sm_G y R) (h1 : d1 < d) (k : if s0 = 0 then (if ((-1) : Int32) = (-1) then (Q (some (.int 0)) (n, y, I, L, R)) else (sm_W ex d1 0 0 50 0 [some (.ref 120)] [] (n, y, I, L, R) (fun r μ1 => sm_W ex d 0 0 44 154 [some (.ref 120), w1, some (.int a2), some (.int (-1))] (r.toList ++ []) μ1 Q))) else (sm_W ex d1 0 0 50 0 [some (.ref 120)] [] (n, y, I, L, R) (fun r μ1 => sm_W ex d 0 0 44 154 [some (.ref 120), w1, some (.int a2), some (.int 10)] (r.toList ++ []) μ1 Q))) : sm_W ex d 0 0 44 133 [some (.ref 120), w1, some (.int a2), w3] [.int s0] (n, y, I, L, R) Q := sm_in (And.intro (fun c1 => have k1t := Eq.mp (if_pos c1) k; sm_in (sm_in (And.intro (Nat.le_of_ble_eq_true rfl) (sm_in (sm_in (sm_in (And.intro (fun c2 => have k2f := Eq.mp (if_neg c2) k1t; sm_in (sm_in (Exists.intro 7 (And.intro (hG.1 120 (Nat.le_of_ble_eq_true rfl)) (And.intro rfl (sm_calln h1 (Nat.le_of_ble_eq_true rfl) (Nat.le_of_ble_eq_true rfl) k2f)))))) (fun c2 => have k2t := Eq.mp (if_pos c2) k1t; sm_in (sm_in (And.intro rfl (And.intro (Or.inl rfl) k2t))))))))))) (fun c1 => have k1f := Eq.mp (if_neg c1) k; sm_in (sm_in (sm_in (And.intro (Nat.le_of_ble_eq_true rfl) (sm_in (sm_in (sm_in (And.intro (fun _ => sm_in (sm_in (Exists.intro 7 (And.intro (hG.1 120 (Nat.le_of_ble_eq_true rfl)) (And.intro rfl (sm_calln h1 (Nat.le_of_ble_eq_true rfl) (Nat.le_of_ble_eq_true rfl) k1f)))))) (fun c => absurd c (by decide : ¬ (10 : Int32) = (-1))))))))))))
set_option maxRecDepth 100000 in
theorem w_X7_plain_154 {ex : sm_O} {d n : Nat} {y : sm_Y} {I : Nat → Nat → Int32} {L : Nat → Nat → Int64} {R : Nat → Nat → Option Nat} {Q : sm_Q} {w2 : Option Value} {w3 : Option Value} {a1 : Int32} {d1 : Nat} (hG : sm_G y R) (h1 : d1 < d) (k : sm_W ex d1 0 0 45 0 [some (.ref 120), some (.int a1), none, none, none] [] (n, y, I, L, R) (fun r μ1 => sm_W ex d 0 0 44 159 [some (.ref 120), some (.int a1), w2, w3] (r.toList ++ []) μ1 Q)) : sm_W ex d 0 0 44 154 [some (.ref 120), some (.int a1), w2, w3] [] (n, y, I, L, R) Q := sm_in (sm_in (sm_in (Exists.intro 7 (And.intro (hG.1 120 (Nat.le_of_ble_eq_true rfl)) (And.intro rfl (sm_calln h1 (Nat.le_of_ble_eq_true rfl) (Nat.le_of_ble_eq_true rfl) k))))))
set_option maxRecDepth 100000 in
theorem w_X7_plain_159 {ex : sm_O} {d n : Nat} {y : sm_Y} {I : Nat → Nat → Int32} {L : Nat → Nat → Int64} {R : Nat → Nat → Option Nat} {Q : sm_Q} {w1 : Option Value} {w2 : Option Value} {a3 : Int32} {s0 : Int32} {q0 : Nat} {ns0 nc0 : Nat} {d1 : Nat} (hG : sm_G y R) (ho0 : ok6 y R q0 ns0 nc0) (h1 : R 120 3 = some q0) (h2 : d1 < d) (k : if s0 = 0 then (Q (some (.int 0)) (n, y, I, L, R)) else (sm_W ex d1 0 0 37 0 [some (.ref q0), some (.int a3), some (.int 0)] [] (n, y, I, L, R) (fun r μ1 => sm_W ex d 0 0 44 171 [some (.ref 120), w1, w2, some (.int a3)] (r.toList ++ []) μ1 Q))) : sm_W ex d 0 0 44 159 [some (.ref 120), w1, w2, some (.int a3)] [.int s0] (n, y, I, L, R) Q := sm_in (And.intro (fun c1 => have k1t := Eq.mp (if_pos c1) k; sm_in (sm_in (And.intro rfl (And.intro (Or.inl rfl) k1t)))) (fun c1 => have k1f := Eq.mp (if_neg c1) k; sm_in (sm_in (And.intro (hG.1 120 (Nat.le_of_ble_eq_true rfl)) (sm_gfr rfl h1 (sm_in (sm_in (sm_in (Exists.intro 6 (And.intro (ok6_y0 ho0) (And.intro rfl (sm_calln h2 (Nat.le_of_ble_eq_true rfl) (Nat.le_of_ble_eq_true rfl) k1f))))))))))))
set_option maxRecDepth 100000 in
theorem w_X7_plain_171 {ex : sm_O} {d n : Nat} {y : sm_Y} {I : Nat → Nat → Int32} {L : Nat → Nat → Int64} {R : Nat → Nat → Option Nat} {Q : sm_Q} {w1 : Option Value} {w3 : Option Value} {a2 : Int32} {s0 : Int32} {q0 : Nat} {ns0 nc0 : Nat} {d1 : Nat} (hG : sm_G y R) (ho0 : ok6 y R q0 ns0 nc0) (h1 : R 120 3 = some q0) (h2 : d1 < d) (k : if s0 = 0 then (Q (some (.int 0)) (n, y, I, L, R)) else (if a2 = 0 then (Q (some (.int 1)) (n, y, I, L, R)) else (sm_W ex d1 0 0 37 0 [some (.ref q0), some (.int 11), some (.int 0)] [] (n, y, I, L, R) (fun r μ1 => sm_W ex d 0 0 44 190 [some (.ref 120), w1, some (.int a2), w3] (r.toList ++ []) μ1 Q)))) : sm_W ex d 0 0 44 171 [some (.ref 120), w1, some (.int a2), w3] [.int s0] (n, y, I, L, R) Q := sm_in (And.intro (fun c1 => have k1f := Eq.mp (if_neg c1) k; sm_in (sm_in (And.intro (fun c2 => have k2t := Eq.mp (if_pos c2) k1f; sm_in (sm_in (sm_in (And.intro rfl (And.intro (Or.inr rfl) k2t))))) (fun c2 => have k2f := Eq.mp (if_neg c2) k1f; sm_in (sm_in (And.intro (hG.1 120 (Nat.le_of_ble_eq_true rfl)) (sm_gfr rfl h1 (sm_in (sm_in (sm_in (Exists.intro 6 (And.intro (ok6_y0 ho0) (And.intro rfl (sm_calln h2 (Nat.le_of_ble_eq_true rfl) (Nat.le_of_ble_eq_true rfl) k2f)))))))))))))) (fun c1 => have k1t := Eq.mp (if_pos c1) k; sm_in (sm_in (And.intro rfl (And.intro (Or.inl rfl) k1t)))))
set_option maxRecDepth 100000 in
theorem w_X7_plain_190 {ex : sm_O} {d n : Nat} {y : sm_Y} {I : Nat → Nat → Int32} {L : Nat → Nat → Int64} {R : Nat → Nat → Option Nat} {Q : sm_Q} {w0 : Option Value} {w1 : Option Value} {w2 : Option Value} {w3 : Option Value} {s0 : Int32} (k : if s0 = 0 then (Q (some (.int 0)) (n, y, I, L, R)) else (Q (some (.int 1)) (n, y, I, L, R))) : sm_W ex d 0 0 44 190 [w0, w1, w2, w3] [.int s0] (n, y, I, L, R) Q := sm_in (And.intro (fun c1 => have k1t := Eq.mp (if_pos c1) k; sm_in (sm_in (And.intro rfl (And.intro (Or.inl rfl) k1t)))) (fun c1 => have k1f := Eq.mp (if_neg c1) k; sm_in (sm_in (sm_in (And.intro rfl (And.intro (Or.inr rfl) k1f))))))
set_option maxRecDepth 100000 in
theorem w_X7_both_0 {ex : sm_O} {d n : Nat} {y : sm_Y} {I : Nat → Nat → Int32} {L : Nat → Nat → Int64} {R : Nat → Nat → Option Nat} {Q : sm_Q} {w2 : Option Value} {w3 : Option Value} {w4 : Option Value} {a1 : Int32} {d1 : Nat} (hG : sm_G y R) (h1 : d1 < d) (k : sm_W ex d1 0 0 44 0 [some (.ref 120), some (.int a1), none, none] [] (n, y, I, L, R) (fun r μ1 => sm_W ex d 0 0 43 5 [some (.ref 120), some (.int a1), w2, w3, w4] (r.toList ++ []) μ1 Q)) : sm_W ex d 0 0 43 0 [some (.ref 120), some (.int a1), w2, w3, w4] [] (n, y, I, L, R) Q := sm_in (sm_in (sm_in (Exists.intro 7 (And.intro (hG.1 120 (Nat.le_of_ble_eq_true rfl)) (And.intro rfl (sm_calln h1 (Nat.le_of_ble_eq_true rfl) (Nat.le_of_ble_eq_true rfl) k))))))
set_option maxRecDepth 100000 in
theorem w_X7_both_5 {ex : sm_O} {d n : Nat} {y : sm_Y} {I : Nat → Nat → Int32} {L : Nat → Nat → Int64} {R : Nat → Nat → Option Nat} {Q : sm_Q} {w0 : Option Value} {w2 : Option Value} {w3 : Option Value} {w4 : Option Value} {a1 : Int32} {s0 : Int32} (k : sm_W ex d 0 0 43 8 [w0, some (.int a1), some (.int s0), some (.int 0), w4] [] (n, y, I, L, R) Q) : sm_W ex d 0 0 43 5 [w0, some (.int a1), w2, w3, w4] [.int s0] (n, y, I, L, R) Q := sm_in (And.intro (Nat.le_of_ble_eq_true rfl) (sm_in (sm_in (And.intro (Nat.le_of_ble_eq_true rfl) (k)))))
set_option maxRecDepth 100000 in
theorem w_X7_both_8 {ex : sm_O} {d n : Nat} {y : sm_Y} {I : Nat → Nat → Int32} {L : Nat → Nat → Int64} {R : Nat → Nat → Option Nat} {Q : sm_Q} {w1 : Option Value} {w4 : Option Value} {a2 : Int32} {a3 : Int32} {d1 : Nat} (hG : sm_G y R) (h1 : d1 < d) (k : if 400 ≤ a3 then ((a2 = 0 ∨ a2 = 1) ∧ Q (some (.int a2)) (n, y, I, L, R)) else (if a2 = 0 then ((a2 = 0 ∨ a2 = 1) ∧ Q (some (.int a2)) (n, y, I, L, R)) else (sm_W ex d1 0 0 53 0 [some (.ref 120), some (.retAddr 7), none, none, none, none, none] [] (n, y, I, L, R) (fun r μ1 => sm_W ex d 0 0 43 25 [some (.ref 120), w1, some (.int a2), some (.int a3), w4] (r.toList ++ []) μ1 Q)))) : sm_W ex d 0 0 43 8 [some (.ref 120), w1, some (.int a2), some (.int a3), w4] [] (n, y, I, L, R) Q := sm_in (sm_in (sm_in (And.intro (fun c1 => have k1t := Eq.mp (if_pos c1) k; sm_in ((have e2 := k1t.1; have k2 := k1t.2; sm_in (And.intro rfl (And.intro e2 k2))))) (fun c1 => have k1f := Eq.mp (if_neg c1) k; sm_in (sm_in (And.intro (fun c3 => have k3t := Eq.mp (if_pos c3) k1f; sm_in ((have e4 := k3t.1; have k4 := k3t.2; sm_in (And.intro rfl (And.intro e4 k4))))) (fun c3 => have k3f := Eq.mp (if_neg c3) k1f; sm_in (sm_in (sm_in (Exists.intro 7 (And.intro (hG.1 120 (Nat.le_of_ble_eq_true rfl)) (And.intro rfl (sm_calln h1 (Nat.le_of_ble_eq_true rfl) (Nat.le_of_ble_eq_true rfl) k3f)))))))))))))
set_option maxRecDepth 100000 in
theorem w_X7_both_25 {ex : sm_O} {d n : Nat} {y : sm_Y} {I : Nat → Nat → Int32} {L : Nat → Nat → Int64} {R : Nat → Nat → Option Nat} {Q : sm_Q} {w1 : Option Value} {w3 : Option Value} {w4 : Option Value} {a2 : Int32} {s0 : Int32} {d1 : Nat} (hG : sm_G y R) (h1 : d1 < d) (k : if s0 = 0 then (sm_W ex d1 0 0 50 0 [some (.ref 120)] [] (n, y, I, L, R) (fun r μ1 => sm_W ex d 0 0 43 32 [some (.ref 120), w1, some (.int a2), w3, w4] (r.toList ++ []) μ1 Q)) else ((a2 = 0 ∨ a2 = 1) ∧ Q (some (.int a2)) (n, y, I, L, R))) : sm_W ex d 0 0 43 25 [some (.ref 120), w1, some (.int a2), w3, w4] [.int s0] (n, y, I, L, R) Q := sm_in (And.intro (fun c1 => have k1f := Eq.mp (if_neg c1) k; sm_in ((have e2 := k1f.1; have k2 := k1f.2; sm_in (And.intro rfl (And.intro e2 k2))))) (fun c1 => have k1t := Eq.mp (if_pos c1) k; sm_in (sm_in (Exists.intro 7 (And.intro (hG.1 120 (Nat.le_of_ble_eq_true rfl)) (And.intro rfl (sm_calln h1 (Nat.le_of_ble_eq_true rfl) (Nat.le_of_ble_eq_true rfl) k1t)))))))
set_option maxRecDepth 100000 in
theorem w_X7_both_32 {ex : sm_O} {d n : Nat} {y : sm_Y} {I : Nat → Nat → Int32} {L : Nat → Nat → Int64} {R : Nat → Nat → Option Nat} {Q : sm_Q} {w1 : Option Value} {w2 : Option Value} {w4 : Option Value} {a3 : Int32} {q0 : Nat} {ns0 nc0 : Nat} {q1 : Nat} {ns1 nc1 : Nat} {d1 : Nat} (hG : sm_G y R) (ho0 : ok6 y R q0 ns0 nc0) (ho1 : ok6 y R q1 ns1 nc1) (h1 : R 120 3 = some q0) (h2 : R 120 3 = some q1) (h3 : d1 < d) (k : sm_W ex d1 0 0 37 0 [some (.ref q1), some (.int 13), some (.int 0)] [] (n, y, I, L, R) (fun r μ1 => sm_W ex d 0 0 43 51 [some (.ref 120), w1, w2, some (.int a3), some (.int (I q0 6))] (r.toList ++ []) μ1 Q)) : sm_W ex d 0 0 43 32 [some (.ref 120), w1, w2, some (.int a3), w4] [] (n, y, I, L, R) Q := sm_in (sm_in (And.intro (hG.1 120 (Nat.le_of_ble_eq_true rfl)) (sm_gfr rfl h1 (sm_in (And.intro (ok6_y0 ho0) (sm_in (And.intro (Nat.le_of_ble_eq_true rfl) (sm_in (sm_in (And.intro (hG.1 120 (Nat.le_of_ble_eq_true rfl)) (sm_gfr rfl h2 (sm_in (sm_in (sm_in (Exists.intro 6 (And.intro (ok6_y0 ho1) (And.intro rfl (sm_calln h3 (Nat.le_of_ble_eq_true rfl) (Nat.le_of_ble_eq_true rfl) k))))))))))))))))))
set_option maxRecDepth 100000 in
theorem w_X7_both_51 {ex : sm_O} {d n : Nat} {y : sm_Y} {I : Nat → Nat → Int32} {L : Nat → Nat → Int64} {R : Nat → Nat → Option Nat} {Q : sm_Q} {w2 : Option Value} {w3 : Option Value} {a1 : Int32} {a4 : Int32} {s0 : Int32} {q0 : Nat} {ns0 nc0 : Nat} {d1 : Nat} (hG : sm_G y R) (ho0 : ok6 y R q0 ns0 nc0) (h1 : R 120 3 = some q0) (h2 : d1 < d) (k : if s0 = 0 then (sm_W ex d1 0 0 38 0 [some (.ref q0), some (.int a4)] [] (n, y, I, L, R) (fun r μ1 => sm_W ex d 0 0 43 77 [some (.ref 120), some (.int a1), some (.int 0), w3, some (.int a4)] (r.toList ++ []) μ1 Q)) else (sm_W ex d1 0 0 44 0 [some (.ref 120), some (.int a1), none, none] [] (n, y, I, L, R) (fun r μ1 => sm_W ex d 0 0 43 59 [some (.ref 120), some (.int a1), w2, w3, some (.int a4)] (r.toList ++ []) μ1 Q))) : sm_W ex d 0 0 43 51 [some (.ref 120), some (.int a1), w2, w3, some (.int a4)] [.int s0] (n, y, I, L, R) Q := sm_in (And.intro (fun c1 => have k1t := Eq.mp (if_pos c1) k; sm_in (sm_in (And.intro (Nat.le_of_ble_eq_true rfl) (sm_in (sm_in (And.intro (hG.1 120 (Nat.le_of_ble_eq_true rfl)) (sm_gfr rfl h1 (sm_in (sm_in (Exists.intro 6 (And.intro (ok6_y0 ho0) (And.intro rfl (sm_calln h2 (Nat.le_of_ble_eq_true rfl) (Nat.le_of_ble_eq_true rfl) k1t))))))))))))) (fun c1 => have k1f := Eq.mp (if_neg c1) k; sm_in (sm_in (sm_in (Exists.intro 7 (And.intro (hG.1 120 (Nat.le_of_ble_eq_true rfl)) (And.intro rfl (sm_calln h2 (Nat.le_of_ble_eq_true rfl) (Nat.le_of_ble_eq_true rfl) k1f))))))))
set_option maxRecDepth 100000 in
theorem w_X7_both_59 {ex : sm_O} {d n : Nat} {y : sm_Y} {I : Nat → Nat → Int32} {L : Nat → Nat → Int64} {R : Nat → Nat → Option Nat} {Q : sm_Q} {w2 : Option Value} {w3 : Option Value} {a1 : Int32} {a4 : Int32} {s0 : Int32} {q0 : Nat} {ns0 nc0 : Nat} {d1 : Nat} {q1 : Nat} {ns1 nc1 : Nat} (hG : sm_G y R) (ho0 : ok6 y R q0 ns0 nc0) (ho1 : ok6 y R q1 ns1 nc1) (h1 : R 120 3 = some q0) (h2 : d1 < d) (h3 : R 120 3 = some q1) (k : if s0 = 0 then (sm_W ex d1 0 0 38 0 [some (.ref q0), some (.int a4)] [] (n, y, I, L, R) (fun r μ1 => sm_W ex d 0 0 43 77 [some (.ref 120), some (.int a1), some (.int 0), w3, some (.int a4)] (r.toList ++ []) μ1 Q)) else (sm_W ex d1 0 0 38 0 [some (.ref q1), some (.int a4)] [] (n, y, I, L, R) (fun r μ1 => sm_W ex d 0 0 43 77 [some (.ref 120), some (.int a1), some (.int 1), w3, some (.int a4)] (r.toList ++ []) μ1 Q))) : sm_W ex d 0 0 43 59 [some (.ref 120), some (.int a1), w2, w3, some (.int a4)] [.int s0] (n, y, I, L, R) Q := sm_in (And.intro (fun c1 => have k1t := Eq.mp (if_pos c1) k; sm_in (sm_in (And.intro (Nat.le_of_ble_eq_true rfl) (sm_in (sm_in (And.intro (hG.1 120 (Nat.le_of_ble_eq_true rfl)) (sm_gfr rfl h1 (sm_in (sm_in (Exists.intro 6 (And.intro (ok6_y0 ho0) (And.intro rfl (sm_calln h2 (Nat.le_of_ble_eq_true rfl) (Nat.le_of_ble_eq_true rfl) k1t))))))))))))) (fun c1 => have k1f := Eq.mp (if_neg c1) k; sm_in (sm_in (sm_in (And.intro (Nat.le_of_ble_eq_true rfl) (sm_in (sm_in (And.intro (hG.1 120 (Nat.le_of_ble_eq_true rfl)) (sm_gfr rfl h3 (sm_in (sm_in (Exists.intro 6 (And.intro (ok6_y0 ho1) (And.intro rfl (sm_calln h2 (Nat.le_of_ble_eq_true rfl) (Nat.le_of_ble_eq_true rfl) k1f)))))))))))))))
set_option maxRecDepth 100000 in
theorem w_X7_both_77 {ex : sm_O} {d n : Nat} {y : sm_Y} {I : Nat → Nat → Int32} {L : Nat → Nat → Int64} {R : Nat → Nat → Option Nat} {Q : sm_Q} {w0 : Option Value} {w1 : Option Value} {w4 : Option Value} {a2 : Int32} {a3 : Int32} (k : sm_W ex d 0 0 43 8 [w0, w1, some (.int a2), some (.int (a3 + 1)), w4] [] (n, y, I, L, R) Q) : sm_W ex d 0 0 43 77 [w0, w1, some (.int a2), some (.int a3), w4] [] (n, y, I, L, R) Q := sm_in (And.intro (Nat.le_of_ble_eq_true rfl) (sm_in (k)))
set_option maxRecDepth 100000 in
theorem w_X7_test_0 {ex : sm_O} {d n : Nat} {y : sm_Y} {I : Nat → Nat → Int32} {L : Nat → Nat → Int64} {R : Nat → Nat → Option Nat} {Q : sm_Q} {w2 : Option Value} {w3 : Option Value} {w4 : Option Value} {a1 : Int32} {d1 : Nat} (hG : sm_G y R) (h1 : d1 < d) (k : sm_W ex d1 0 0 43 0 [some (.ref 120), some (.int a1), none, none, none] [] (n, y, I, L, R) (fun r μ1 => sm_W ex d 0 0 42 5 [some (.ref 120), some (.int a1), w2, w3, w4] (r.toList ++ []) μ1 Q)) : sm_W ex d 0 0 42 0 [some (.ref 120), some (.int a1), w2, w3, w4] [] (n, y, I, L, R) Q := sm_in (sm_in (sm_in (Exists.intro 7 (And.intro (hG.1 120 (Nat.le_of_ble_eq_true rfl)) (And.intro rfl (sm_calln h1 (Nat.le_of_ble_eq_true rfl) (Nat.le_of_ble_eq_true rfl) k))))))
set_option maxRecDepth 100000 in
theorem w_X7_test_5 {ex : sm_O} {d n : Nat} {y : sm_Y} {I : Nat → Nat → Int32} {L : Nat → Nat → Int64} {R : Nat → Nat → Option Nat} {Q : sm_Q} {w0 : Option Value} {w2 : Option Value} {w3 : Option Value} {w4 : Option Value} {a1 : Int32} {s0 : Int32} (k : sm_W ex d 0 0 42 8 [w0, some (.int a1), some (.int s0), some (.int 0), w4] [] (n, y, I, L, R) Q) : sm_W ex d 0 0 42 5 [w0, some (.int a1), w2, w3, w4] [.int s0] (n, y, I, L, R) Q := sm_in (And.intro (Nat.le_of_ble_eq_true rfl) (sm_in (sm_in (And.intro (Nat.le_of_ble_eq_true rfl) (k)))))
set_option maxRecDepth 100000 in
theorem w_X7_test_8 {ex : sm_O} {d n : Nat} {y : sm_Y} {I : Nat → Nat → Int32} {L : Nat → Nat → Int64} {R : Nat → Nat → Option Nat} {Q : sm_Q} {w1 : Option Value} {w4 : Option Value} {a2 : Int32} {a3 : Int32} {d1 : Nat} (hG : sm_G y R) (h1 : d1 < d) (k : if 400 ≤ a3 then ((a2 = 0 ∨ a2 = 1) ∧ Q (some (.int a2)) (n, y, I, L, R)) else (if a2 = 0 then ((a2 = 0 ∨ a2 = 1) ∧ Q (some (.int a2)) (n, y, I, L, R)) else (sm_W ex d1 0 0 53 0 [some (.ref 120), some (.retAddr 6), none, none, none, none, none] [] (n, y, I, L, R) (fun r μ1 => sm_W ex d 0 0 42 25 [some (.ref 120), w1, some (.int a2), some (.int a3), w4] (r.toList ++ []) μ1 Q)))) : sm_W ex d 0 0 42 8 [some (.ref 120), w1, some (.int a2), some (.int a3), w4] [] (n, y, I, L, R) Q := sm_in (sm_in (sm_in (And.intro (fun c1 => have k1t := Eq.mp (if_pos c1) k; sm_in ((have e2 := k1t.1; have k2 := k1t.2; sm_in (And.intro rfl (And.intro e2 k2))))) (fun c1 => have k1f := Eq.mp (if_neg c1) k; sm_in (sm_in (And.intro (fun c3 => have k3t := Eq.mp (if_pos c3) k1f; sm_in ((have e4 := k3t.1; have k4 := k3t.2; sm_in (And.intro rfl (And.intro e4 k4))))) (fun c3 => have k3f := Eq.mp (if_neg c3) k1f; sm_in (sm_in (sm_in (Exists.intro 7 (And.intro (hG.1 120 (Nat.le_of_ble_eq_true rfl)) (And.intro rfl (sm_calln h1 (Nat.le_of_ble_eq_true rfl) (Nat.le_of_ble_eq_true rfl) k3f)))))))))))))
set_option maxRecDepth 100000 in
theorem w_X7_test_25 {ex : sm_O} {d n : Nat} {y : sm_Y} {I : Nat → Nat → Int32} {L : Nat → Nat → Int64} {R : Nat → Nat → Option Nat} {Q : sm_Q} {w1 : Option Value} {w3 : Option Value} {w4 : Option Value} {a2 : Int32} {s0 : Int32} {d1 : Nat} (hG : sm_G y R) (h1 : d1 < d) (k : if s0 = 0 then (sm_W ex d1 0 0 50 0 [some (.ref 120)] [] (n, y, I, L, R) (fun r μ1 => sm_W ex d 0 0 42 32 [some (.ref 120), w1, some (.int a2), w3, w4] (r.toList ++ []) μ1 Q)) else ((a2 = 0 ∨ a2 = 1) ∧ Q (some (.int a2)) (n, y, I, L, R))) : sm_W ex d 0 0 42 25 [some (.ref 120), w1, some (.int a2), w3, w4] [.int s0] (n, y, I, L, R) Q := sm_in (And.intro (fun c1 => have k1f := Eq.mp (if_neg c1) k; sm_in ((have e2 := k1f.1; have k2 := k1f.2; sm_in (And.intro rfl (And.intro e2 k2))))) (fun c1 => have k1t := Eq.mp (if_pos c1) k; sm_in (sm_in (Exists.intro 7 (And.intro (hG.1 120 (Nat.le_of_ble_eq_true rfl)) (And.intro rfl (sm_calln h1 (Nat.le_of_ble_eq_true rfl) (Nat.le_of_ble_eq_true rfl) k1t)))))))
set_option maxRecDepth 100000 in
theorem w_X7_test_32 {ex : sm_O} {d n : Nat} {y : sm_Y} {I : Nat → Nat → Int32} {L : Nat → Nat → Int64} {R : Nat → Nat → Option Nat} {Q : sm_Q} {w1 : Option Value} {w2 : Option Value} {w4 : Option Value} {a3 : Int32} {q0 : Nat} {ns0 nc0 : Nat} {q1 : Nat} {ns1 nc1 : Nat} {d1 : Nat} (hG : sm_G y R) (ho0 : ok6 y R q0 ns0 nc0) (ho1 : ok6 y R q1 ns1 nc1) (h1 : R 120 3 = some q0) (h2 : R 120 3 = some q1) (h3 : d1 < d) (k : sm_W ex d1 0 0 37 0 [some (.ref q1), some (.int 12), some (.int 0)] [] (n, y, I, L, R) (fun r μ1 => sm_W ex d 0 0 42 51 [some (.ref 120), w1, w2, some (.int a3), some (.int (I q0 6))] (r.toList ++ []) μ1 Q)) : sm_W ex d 0 0 42 32 [some (.ref 120), w1, w2, some (.int a3), w4] [] (n, y, I, L, R) Q := sm_in (sm_in (And.intro (hG.1 120 (Nat.le_of_ble_eq_true rfl)) (sm_gfr rfl h1 (sm_in (And.intro (ok6_y0 ho0) (sm_in (And.intro (Nat.le_of_ble_eq_true rfl) (sm_in (sm_in (And.intro (hG.1 120 (Nat.le_of_ble_eq_true rfl)) (sm_gfr rfl h2 (sm_in (sm_in (sm_in (Exists.intro 6 (And.intro (ok6_y0 ho1) (And.intro rfl (sm_calln h3 (Nat.le_of_ble_eq_true rfl) (Nat.le_of_ble_eq_true rfl) k))))))))))))))))))
set_option maxRecDepth 100000 in
theorem w_X7_test_51 {ex : sm_O} {d n : Nat} {y : sm_Y} {I : Nat → Nat → Int32} {L : Nat → Nat → Int64} {R : Nat → Nat → Option Nat} {Q : sm_Q} {w2 : Option Value} {w3 : Option Value} {a1 : Int32} {a4 : Int32} {s0 : Int32} {q0 : Nat} {ns0 nc0 : Nat} {d1 : Nat} (hG : sm_G y R) (ho0 : ok6 y R q0 ns0 nc0) (h1 : R 120 3 = some q0) (h2 : d1 < d) (k : if s0 = 0 then (sm_W ex d1 0 0 38 0 [some (.ref q0), some (.int a4)] [] (n, y, I, L, R) (fun r μ1 => sm_W ex d 0 0 42 77 [some (.ref 120), some (.int a1), some (.int 0), w3, some (.int a4)] (r.toList ++ []) μ1 Q)) else (sm_W ex d1 0 0 43 0 [some (.ref 120), some (.int a1), none, none, none] [] (n, y, I, L, R) (fun r μ1 => sm_W ex d 0 0 42 59 [some (.ref 120), some (.int a1), w2, w3, some (.int a4)] (r.toList ++ []) μ1 Q))) : sm_W ex d 0 0 42 51 [some (.ref 120), some (.int a1), w2, w3, some (.int a4)] [.int s0] (n, y, I, L, R) Q := sm_in (And.intro (fun c1 => have k1t := Eq.mp (if_pos c1) k; sm_in (sm_in (And.intro (Nat.le_of_ble_eq_true rfl) (sm_in (sm_in (And.intro (hG.1 120 (Nat.le_of_ble_eq_true rfl)) (sm_gfr rfl h1 (sm_in (sm_in (Exists.intro 6 (And.intro (ok6_y0 ho0) (And.intro rfl (sm_calln h2 (Nat.le_of_ble_eq_true rfl) (Nat.le_of_ble_eq_true rfl) k1t))))))))))))) (fun c1 => have k1f := Eq.mp (if_neg c1) k; sm_in (sm_in (sm_in (Exists.intro 7 (And.intro (hG.1 120 (Nat.le_of_ble_eq_true rfl)) (And.intro rfl (sm_calln h2 (Nat.le_of_ble_eq_true rfl) (Nat.le_of_ble_eq_true rfl) k1f))))))))
set_option maxRecDepth 100000 in
theorem w_X7_test_59 {ex : sm_O} {d n : Nat} {y : sm_Y} {I : Nat → Nat → Int32} {L : Nat → Nat → Int64} {R : Nat → Nat → Option Nat} {Q : sm_Q} {w2 : Option Value} {w3 : Option Value} {a1 : Int32} {a4 : Int32} {s0 : Int32} {q0 : Nat} {ns0 nc0 : Nat} {d1 : Nat} {q1 : Nat} {ns1 nc1 : Nat} (hG : sm_G y R) (ho0 : ok6 y R q0 ns0 nc0) (ho1 : ok6 y R q1 ns1 nc1) (h1 : R 120 3 = some q0) (h2 : d1 < d) (h3 : R 120 3 = some q1) (k : if s0 = 0 then (sm_W ex d1 0 0 38 0 [some (.ref q0), some (.int a4)] [] (n, y, I, L, R) (fun r μ1 => sm_W ex d 0 0 42 77 [some (.ref 120), some (.int a1), some (.int 0), w3, some (.int a4)] (r.toList ++ []) μ1 Q)) else (sm_W ex d1 0 0 38 0 [some (.ref q1), some (.int a4)] [] (n, y, I, L, R) (fun r μ1 => sm_W ex d 0 0 42 77 [some (.ref 120), some (.int a1), some (.int 1), w3, some (.int a4)] (r.toList ++ []) μ1 Q))) : sm_W ex d 0 0 42 59 [some (.ref 120), some (.int a1), w2, w3, some (.int a4)] [.int s0] (n, y, I, L, R) Q := sm_in (And.intro (fun c1 => have k1t := Eq.mp (if_pos c1) k; sm_in (sm_in (And.intro (Nat.le_of_ble_eq_true rfl) (sm_in (sm_in (And.intro (hG.1 120 (Nat.le_of_ble_eq_true rfl)) (sm_gfr rfl h1 (sm_in (sm_in (Exists.intro 6 (And.intro (ok6_y0 ho0) (And.intro rfl (sm_calln h2 (Nat.le_of_ble_eq_true rfl) (Nat.le_of_ble_eq_true rfl) k1t))))))))))))) (fun c1 => have k1f := Eq.mp (if_neg c1) k; sm_in (sm_in (sm_in (And.intro (Nat.le_of_ble_eq_true rfl) (sm_in (sm_in (And.intro (hG.1 120 (Nat.le_of_ble_eq_true rfl)) (sm_gfr rfl h3 (sm_in (sm_in (Exists.intro 6 (And.intro (ok6_y0 ho1) (And.intro rfl (sm_calln h2 (Nat.le_of_ble_eq_true rfl) (Nat.le_of_ble_eq_true rfl) k1f)))))))))))))))
set_option maxRecDepth 100000 in
theorem w_X7_test_77 {ex : sm_O} {d n : Nat} {y : sm_Y} {I : Nat → Nat → Int32} {L : Nat → Nat → Int64} {R : Nat → Nat → Option Nat} {Q : sm_Q} {w0 : Option Value} {w1 : Option Value} {w4 : Option Value} {a2 : Int32} {a3 : Int32} (k : sm_W ex d 0 0 42 8 [w0, w1, some (.int a2), some (.int (a3 + 1)), w4] [] (n, y, I, L, R) Q) : sm_W ex d 0 0 42 77 [w0, w1, some (.int a2), some (.int a3), w4] [] (n, y, I, L, R) Q := sm_in (And.intro (Nat.le_of_ble_eq_true rfl) (sm_in (k)))
-- TESTS OF THE CLASS
theorem c_isW {ex : sm_O} {n : Nat} {y : sm_Y} {I : Nat → Nat → Int32} {L : Nat → Nat → Int64} {R : Nat → Nat → Option Nat} {Q : sm_Q} {d p pt P j : Nat} {o : Bool} {t : Tp} {w : List Nat} (hd : 5 ≤ d) (hG : sm_G y R) (hs : rS t o P I R p pt) (hj : 2 ≤ j ∧ j < 11) (htx : ex.2 j = w.map nI) (hw : w.length ≤ 1000 ∧ (∀ c ∈ w, c < 256) ∧ w ≠ [] ∧ ∀ c ∈ w, c ≠ 32) (k0 : ¬ tkWd t p = w → Q (some (.int (-1))) (n, y, I, L, R)) (k1 : tkWd t p = w → Q (some (.int 0)) (n, y, I, L, R)) : sm_W ex d 0 0 53 0 [some (.ref 120), some (.retAddr j), none, none, none, none, none] [] (n, y, I, L, R) Q := by
  refine c_X7_wordIn (ws := [w]) hd hG hs hj htx hw.1 hw.2.1 (by simp) (by intro x hx; rw [List.mem_singleton] at hx; rw [hx]; exact hw.2.2.1) (by intro x hx; rw [List.mem_singleton] at hx; rw [hx]; exact hw.2.2.2) ?_
  show Q (some (.int (oI (if tkWd t p = w then some 0 else (none : Option Nat).map (· + 1))))) (n, y, I, L, R)
  by_cases e : tkWd t p = w
  · rw [if_pos e]; exact k1 e
  · rw [if_neg e]; exact k0 e
theorem wd_ok : (wdNot.length ≤ 1000 ∧ (∀ c ∈ wdNot, c < 256) ∧ wdNot ≠ [] ∧ ∀ c ∈ wdNot, c ≠ 32) ∧ (wdAnd.length ≤ 1000 ∧ (∀ c ∈ wdAnd, c < 256) ∧ wdAnd ≠ [] ∧ ∀ c ∈ wdAnd, c ≠ 32) ∧ (wdOr.length ≤ 1000 ∧ (∀ c ∈ wdOr, c < 256) ∧ wdOr ≠ [] ∧ ∀ c ∈ wdOr, c ≠ 32) ∧ (wdIf.length ≤ 1000 ∧ (∀ c ∈ wdIf, c < 256) ∧ wdIf ≠ [] ∧ ∀ c ∈ wdIf, c ≠ 32) ∧ (wdTimes.length ≤ 1000 ∧ (∀ c ∈ wdTimes, c < 256) ∧ wdTimes ≠ [] ∧ ∀ c ∈ wdTimes, c ≠ 32) := by decide
theorem rNots_b (t : Tp) : ∀ (f p : Nat) (b : Bool), p ≤ (rNots t f p b).1 ∧ ((rNots t f p b).2 ≠ b → p + 3 ≤ (rNots t f p b).1)
  | 0, p, b => ⟨Nat.le_refl _, fun h => absurd rfl h⟩
  | f + 1, p, b => by
    unfold rNots
    by_cases e : tkWd t p = wdNot
    · rw [if_pos e]
      have h := rNots_b t f (nx t p) (!b)
      have h2 := (tkW_k e (by decide)).2.2.1
      have h3 : wdNot.length = 3 := rfl
      exact ⟨by omega, fun _ => by omega⟩
    · rw [if_neg e]
      exact ⟨Nat.le_refl _, fun h => absurd rfl h⟩
theorem lp_nots {ex : sm_O} {t : Tp} {o : Bool} {P d pt n : Nat} {y : sm_Y} {L : Nat → Nat → Int64} {R : Nat → Nat → Option Nat} {Q : sm_Q} {a1 : Int32} (htx : txOK ex) (hd : 6 ≤ d) (hG : sm_G y R) :
    ∀ (f i : Nat) (I : Nat → Nat → Int32) (p : Nat) (b : Bool), i + f = 400 → rS t o P I R p pt →
    (∀ (I' : Nat → Nat → Int32) (u3 : Option Value), rFa I I' → rS t o P I' R (rNots t f p b).1 pt → sm_W ex 5 0 0 52 0 [some (.ref 120), some (.int (nI 40))] [] (n, y, I', L, R) (fun r μ1 => sm_W ex d 0 0 44 46 [some (.ref 120), some (.int a1), some (.int (if (rNots t f p b).2 = true then 1 else 0)), u3] (r.toList ++ []) μ1 Q)) →
    sm_W ex d 0 0 44 4 [some (.ref 120), some (.int a1), some (.int (if b = true then 1 else 0)), some (.int (nI i))] [] (n, y, I, L, R) Q := by
  intro f
  induction f with
  | zero =>
    intro i I p b hi hs k
    refine w_X7_plain_4 (d1 := 5) hG (by omega) ?_
    rw [if_pos (show (400 : Int32) ≤ nI i from (nI_leI (a := 400) (by decide) (by omega)).mpr (by omega))]
    exact k I _ (fun _ _ _ => rfl) hs
  | succ f ih =>
    intro i I p b hi hs k
    refine w_X7_plain_4 (d1 := 5) hG (by omega) ?_
    rw [if_neg (show ¬ (400 : Int32) ≤ nI i from fun z => by have := (nI_leI (a := 400) (by decide) (by omega)).mp z; omega)]
    refine c_isW (Nat.le_refl 5) hG hs (by decide) htx.2.2.2.2.2.2.1 wd_ok.1 (fun e => ?_) (fun e => ?_)
    · refine w_X7_plain_17 (d1 := 5) hG (by omega) ?_
      rw [if_neg (by decide)]
      have hr : rNots t (f + 1) p b = (p, b) := by
        show (if tkWd t p = wdNot then _ else (p, b)) = (p, b)
        rw [if_neg e]
      rw [hr] at k
      exact k I _ (fun _ _ _ => rfl) hs
    · refine w_X7_plain_17 (d1 := 5) hG (by omega) ?_
      rw [if_pos rfl]
      have hr : rNots t (f + 1) p b = rNots t f (nx t p) (!b) := by
        show (if tkWd t p = wdNot then rNots t f (nx t p) (!b) else (p, b)) = _
        rw [if_pos e]
      rw [hr] at k
      have go : ∀ v : Int32, v = (if (!b) = true then 1 else 0) → sm_W ex 5 0 0 50 0 [some (.ref 120)] [] (n, y, I, L, R) (fun r μ1 => sm_W ex d 0 0 44 34 [some (.ref 120), some (.int a1), some (.int v), some (.int (nI i))] (r.toList ++ []) μ1 Q) := fun v hv => by
        refine c_adv (by omega) hG hs ?_
        intro I1 f1 s1
        refine w_X7_plain_34 ?_
        rw [sm_n1, hv]
        exact ih (i + 1) I1 (nx t p) (!b) (by omega) s1 (fun I' u3 f2 s2 => k I' u3 (fun a j q => (f2 a j q).trans (f1 a j q)) s2)
      cases b with
      | false =>
        rw [if_pos (by decide)]
        exact go 1 rfl
      | true =>
        rw [if_neg (by decide)]
        exact go 0 rfl
theorem c_opCmp {ex : sm_O} {n : Nat} {y : sm_Y} {I : Nat → Nat → Int32} {L : Nat → Nat → Int64} {R : Nat → Nat → Option Nat} {Q : sm_Q} {d p pt P : Nat} {o : Bool} {t : Tp} {w1 w3 : Option Value} {a2 : Int32} (hd : 2 ≤ d) (hG : sm_G y R) (hs : rS t o P I R p pt) (k0 : opCmp t p = none → Q (some (.int 0)) (n, y, I, L, R))
    (k1 : ∀ (I' : Nat → Nat → Int32) (st : Nat), opCmp t p = some st → rFa I I' → rS t o P I' R (nx t p) pt → sm_W ex d 0 0 44 154 [some (.ref 120), w1, some (.int a2), some (.int (nI st))] [] (n, y, I', L, R) Q) :
    sm_W ex 1 0 0 52 0 [some (.ref 120), some (.int (nI 60))] [] (n, y, I, L, R) (fun r μ1 => sm_W ex d 0 0 44 105 [some (.ref 120), w1, some (.int a2), w3] (r.toList ++ []) μ1 Q) := by
  refine c_sign (c := 60) hG hs (by decide) (fun n60 => ?_) (fun y60 => ?_)
  · refine w_X7_plain_105 (d1 := 1) hG (by omega) ?_
    rw [if_pos rfl]
    refine c_sign (c := 62) hG hs (by decide) (fun n62 => ?_) (fun y62 => ?_)
    · refine w_X7_plain_119 (d1 := 1) hG (by omega) ?_
      rw [if_pos rfl]
      refine c_sign (c := 61) hG hs (by decide) (fun n61 => ?_) (fun y61 => ?_)
      · refine w_X7_plain_133 (d1 := 1) hG (by omega) ?_
        rw [if_pos rfl, if_pos rfl]
        refine k0 ?_
        unfold opCmp
        rw [if_neg n60, if_neg n62, if_neg n61]
      · refine w_X7_plain_133 (d1 := 1) hG (by omega) ?_
        rw [if_neg (by decide)]
        refine c_adv (Nat.le_refl 1) hG hs ?_
        intro I' f s
        refine k1 I' 10 ?_ f s
        unfold opCmp
        rw [if_neg n60, if_neg n62, if_pos y61]
    · refine w_X7_plain_119 (d1 := 1) hG (by omega) ?_
      rw [if_neg (by decide)]
      refine c_adv (Nat.le_refl 1) hG hs ?_
      intro I' f s
      refine k1 I' 9 ?_ f s
      unfold opCmp
      rw [if_neg n60, if_pos y62]
  · refine w_X7_plain_105 (d1 := 1) hG (by omega) ?_
    rw [if_neg (by decide)]
    refine c_adv (Nat.le_refl 1) hG hs ?_
    intro I' f s
    refine k1 I' 8 ?_ f s
    unfold opCmp
    rw [if_pos y60]
theorem opCmp_st {t : Tp} {p st : Nat} (h : opCmp t p = some st) : 8 ≤ st ∧ st ≤ 10 ∧ tkK t p = 3 := by
  unfold opCmp at h
  split at h
  · rename_i e; cases h; exact ⟨by omega, by omega, e.1⟩
  · split at h
    · rename_i e; cases h; exact ⟨by omega, by omega, e.1⟩
    · split at h
      · rename_i e; cases h; exact ⟨by omega, by omega, e.1⟩
      · cases h
set_option maxHeartbeats 2000000 in
theorem cOk_plain {ex : sm_O} {t : Tp} {o : Bool} {P d d2 dep hh hs0 : Nat} {inn : Option (Nat → Nat → Rr)} {sum : Nat → Nat → Rr} (htx : txOK ex) (hd : 7 ≤ d) (hdep : dep ≤ 8) (hi : match inn with
    | none => dep = 8
    | some f => dep < 8 ∧ ∃ d1, d1 < d ∧ cOk ex t o P d1 42 (dep + 1) [none, none, none] hh sp_01 f) (hd2 : d2 < d) (hsum : cOk ex t o P d2 45 dep [none, none, none] hs0 dR sum) (hh1 : hs0 + 1 ≤ hh) : cOk ex t o P d 44 dep [none, none] hh sp_01 (rPlain t inn sum) := by
  intro n y I L R Q p pt len cd hG hP hs hc hb k0 k1
  have hpP := hs.2.2.2.2.2.2.2.2.2
  have hnb := rNots_b t 400 p false
  refine w_X7_plain_0 ?_
  refine lp_nots htx (by omega) hG 400 0 I p false rfl hs ?_
  intro I1 u3 f1 s1
  have hrp : rPlain t inn sum p pt = match rBare t inn sum (rNots t 400 p false).1 pt with
    | .inl q => .inl q
    | .inr (q, pt', D) => .inr (q, pt', (if (rNots t 400 p false).2 = true then dNot D else D)) := rfl
  generalize rNots t 400 p false = nn at *
  obtain ⟨q0, b0⟩ := nn
  dsimp only at *
  have c1 := f1.P hpP hc
  have fr1 := f1.F P
  -- behind the bare one: the fault, the end
  have bad : ∀ (I2 : Nat → Nat → Int32) (q : Nat), rBare t inn sum q0 pt = .inl q → rF P I I2 → I2 120 4 = nI q → (∃ l, l ≤ 200 ∧ I2 P 6 = nI l) → Q (some (.int 0)) (n, y, I2, L, R) := by
    intro I2 q e f2 e4 el
    refine k0 I2 q ?_ f2 e4 el
    rw [hrp, e]
  have fin : ∀ (I2 : Nat → Nat → Int32) (q pt' len' : Nat) (D : DD) (cd' : Nat → Nat × Nat), rBare t inn sum q0 pt = .inr (q, pt', D) → rF P I I2 → rS t o P I2 R q pt' → cPr I2 P cd' len' → (∀ k, k < len → cd' k = cd k) → cSX (nN o) cd' len len' hh D → sp_01 D → 3 * len' + 2 + 4 * pt + q0 ≤ 4 * pt' + q + 3 * len → (b0 = false → Q (some (.int 1)) (n, y, I2, L, R)) ∧ (b0 = true → ∀ (v1 v2 v3 : Option Value), sm_W ex 0 0 0 37 0 [some (.ref P), some (.int (nI 11)), some (.int (nI 0))] [] (n, y, I2, L, R) (fun r μ1 => sm_W ex d 0 0 44 190 [some (.ref 120), v1, v2, v3] (r.toList ++ []) μ1 Q)) := by
    intro I2 q pt' len' D cd' e f2 s2 c2 ag sg d01 bd
    refine ⟨fun hb0 => ?_, fun hb0 v1 v2 v3 => ?_⟩
    · refine k1 I2 q pt' D cd' len' ?_ f2 s2 c2 ag sg d01 (by omega)
      rw [hrp, e, hb0]
      rfl
    · have h3 := hnb.2 (by rw [hb0]; decide)
      have hpt' := s2.2.2.2.2.2.2.2.2.1
      have hq4 := lt_of_nx s2
      have hll := sg.le
      refine c_put (st := 11) (v := 0) hP c2 (by omega) (by decide) (by decide) ?_
      intro I3 f3 c3
      refine w_X7_plain_190 ?_
      rw [if_neg (by decide)]
      refine k1 I3 q pt' (dNot D) _ _ ?_ (f2.trans f3.F) (f3.S s2) c3 (fun k hk => by rw [cdU_o _ _ (by omega)]; exact ag k hk) (cs_not (sg.mono (fun k q1 q2 => cdU_o _ _ (by omega))) (cdU_s _ _ _)) (dNot_01 d01) (by omega)
      rw [hrp, e, hb0]
      rfl
  have hbI : ∀ {b : Bool}, (if b = true then (1 : Int32) else 0) = 0 ↔ b = false := by intro b; cases b <;> decide
  refine c_sign (c := 40) hG s1 (by decide) (fun hn => ?_) (fun hy => ?_)
  · -- two sums
    have hr : rBare t inn sum q0 pt = rCmp t sum q0 pt := by unfold rBare; rw [if_neg hn]
    refine w_X7_plain_46 (d1 := d2) hG hd2 ?_
    rw [if_pos rfl]
    refine hsum n y I1 L R _ q0 pt len cd hG hP s1 c1 (by omega) (fun I' q e1 g e4 el => ?_) (fun I' q pt' D cd' len' e1 g s c ag sg dr bd => ?_)
    · refine w_X7_plain_94 (d1 := 1) hG (by omega) ?_
      rw [if_pos rfl]
      refine bad I' q ?_ (fr1.trans g) e4 el
      rw [hr]
      unfold rCmp
      rw [e1]
    · refine w_X7_plain_94 (d1 := 1) hG (by omega) ?_
      rw [if_neg (by decide)]
      refine c_opCmp (by omega) hG s (fun e => ?_) (fun I2 st e f2 s2 => ?_)
      · refine bad I' q ?_ (fr1.trans g) s.2.2.2.1 ⟨len', c.2.1, c.1⟩
        rw [hr]
        unfold rCmp
        rw [e1]
        dsimp only
        rw [e]
      · have hst := opCmp_st e
        have hqn : q < nx t q := nx_lt (by omega)
        have hll := sg.le
        refine w_X7_plain_154 (d1 := d2) hG hd2 ?_
        refine hsum n y I2 L R _ (nx t q) pt' len' cd' hG hP s2 (f2.P hpP c) (by omega) (fun I3 q3 e3 g3 e43 el3 => ?_) (fun I3 q3 pt3 D3 cd3 len3 e3 g3 s3 c3 ag3 sg3 dr3 bd3 => ?_)
        · refine w_X7_plain_159 (d1 := 0) (q0 := P) hG hP s2.2.2.1 (by omega) ?_
          rw [if_pos rfl]
          refine bad I3 q3 ?_ (((fr1.trans g).trans (f2.F P)).trans g3) e43 el3
          rw [hr]
          unfold rCmp
          rw [e1]
          dsimp only
          rw [e]
          dsimp only
          rw [e3]
        · refine w_X7_plain_159 (d1 := 0) (q0 := P) hG hP s2.2.2.1 (by omega) ?_
          rw [if_neg (by decide)]
          have hpt3 := s3.2.2.2.2.2.2.2.2.1
          have hq4 := lt_of_nx s3
          have hll3 := sg3.le
          refine c_put (st := st) (v := 0) hP c3 (by omega) (by omega) (by decide) ?_
          intro I4 f4 c4
          have F := fin I4 q3 pt3 (len3 + 1) (dBin st D D3) _ (by
            rw [hr]
            unfold rCmp
            rw [e1]
            dsimp only
            rw [e]
            dsimp only
            rw [e3]) ((((fr1.trans g).trans (f2.F P)).trans g3).trans f4.F) (f4.S s3) c4 (fun k hk => by rw [cdU_o _ _ (by omega), ag3 k (by omega)]; exact ag k hk) (cs_bin (sg.mono (fun k q1 q2 => by rw [cdU_o _ _ (by omega)]; exact ag3 k q2)) (sg3.mono (fun k q1 q2 => cdU_o _ _ (by omega))) dr dr3 ⟨by omega, by omega⟩ (cdU_s _ _ _) (by omega) hh1) (dCmp_01 ⟨hst.1, hst.2.1⟩ D D3) (by omega)
          refine w_X7_plain_171 (d1 := 0) (q0 := P) hG hP s2.2.2.1 (by omega) ?_
          rw [if_neg (by decide)]
          by_cases hb0 : b0 = false
          · rw [if_pos (hbI.mpr hb0)]
            exact F.1 hb0
          · rw [if_neg (fun z => hb0 (hbI.mp z))]
            exact F.2 (by cases b0 <;> simp_all) _ _ _
  · -- a test in brackets
    cases inn with
    | none =>
      have hr : rBare t none sum q0 pt = .inl q0 := by unfold rBare; rw [if_pos hy]
      refine w_X7_plain_46 (d1 := 6) hG (by omega) ?_
      rw [if_neg (by decide), if_neg (show ¬ nI dep < 8 from fun z => by have := (nI_ltI (b := 8) (by omega) (by decide)).mp z; have hi : dep = 8 := hi; omega)]
      exact bad I1 q0 hr fr1 s1.2.2.2.1 ⟨len, c1.2.1, c1.1⟩
    | some f =>
      obtain ⟨h8, d1, hd1, hf⟩ := hi
      have hr : rBare t (some f) sum q0 pt = rIn t 41 f q0 pt := by unfold rBare; rw [if_pos hy]
      have hpn := isG_lt hy
      refine w_X7_plain_46 (d1 := 6) hG (by omega) ?_
      rw [if_neg (by decide), if_pos (show nI dep < 8 from (nI_ltI (b := 8) (by omega) (by decide)).mpr h8)]
      refine c_adv (by omega) hG s1 ?_
      intro I2 f2 s2
      refine w_X7_plain_61 (d1 := d1) hG hd1 ?_
      rw [sm_n1]
      refine hf n y I2 L R _ (nx t q0) pt len cd hG hP s2 (f2.P hpP c1) (by omega) (fun I' q e1 g e4 el => ?_) (fun I' q pt' D cd' len' e1 g s c ag sg pr bd => ?_)
      · refine w_X7_plain_68 (d1 := 6) hG (by omega) ?_
        rw [if_pos rfl]
        refine bad I' q ?_ ((fr1.trans (f2.F P)).trans g) e4 el
        rw [hr]
        unfold rIn
        rw [e1]
      · refine w_X7_plain_68 (d1 := 6) hG (by omega) ?_
        rw [if_neg (by decide)]
        refine c_sign (c := 41) hG s (by decide) (fun hn => ?_) (fun hy2 => ?_)
        · refine w_X7_plain_77 (d1 := 6) hG (by omega) ?_
          rw [if_pos rfl]
          refine bad I' q ?_ ((fr1.trans (f2.F P)).trans g) s.2.2.2.1 ⟨len', c.2.1, c.1⟩
          rw [hr]
          unfold rIn
          rw [e1]
          exact if_neg hn
        · refine w_X7_plain_77 (d1 := 6) hG (by omega) ?_
          rw [if_neg (by decide)]
          refine c_adv (by omega) hG s ?_
          intro I3 f3 s3
          have hqn := isG_lt hy2
          have F := fin I3 (nx t q) pt' len' D cd' (by
            rw [hr]
            unfold rIn
            rw [e1]
            exact if_pos hy2) (((fr1.trans (f2.F P)).trans g).trans (f3.F P)) s3 (f3.P hpP c) ag sg pr (by omega)
          refine w_X7_plain_86 (d1 := 0) (q0 := P) hG hP s3.2.2.1 (by omega) ?_
          by_cases hb0 : b0 = false
          · rw [if_pos (hbI.mpr hb0)]
            exact F.1 hb0
          · rw [if_neg (fun z => hb0 (hbI.mp z))]
            exact F.2 (by cases b0 <;> simp_all) _ _ _

theorem opAnd_st {t : Tp} {p st : Nat} (h : opAnd t p = some st) : st = 13 ∧ tkWd t p = wdAnd := by
  unfold opAnd at h
  split at h
  · rename_i e; cases h; exact ⟨rfl, e⟩
  · cases h
set_option maxHeartbeats 1000000 in
theorem lp_both {ex : sm_O} {t : Tp} {o : Bool} {P d d1 dep hh : Nat} {sub : Nat → Nat → Rr} {n : Nat} {y : sm_Y} {L : Nat → Nat → Int64} {R : Nat → Nat → Option Nat} {Q : sm_Q} {I0 : Nat → Nat → Int32} {cd0 : Nat → Nat × Nat} {p0 pt0 a0 : Nat} (htx : txOK ex) (hd : 6 ≤ d) (hd1 : d1 < d) (hsub : cOk ex t o P d1 44 dep [none, none] hh sp_01 sub) (hG : sm_G y R) (hP : ok6 y R P 200 12) (hb0 : 3 * a0 ≤ 4 * pt0 + p0) :
    ∀ (f i : Nat) (I : Nat → Nat → Int32) (p pt len : Nat) (cd : Nat → Nat × Nat) (D : DD) (w4 : Option Value), i + f = 400 → rF P I0 I → rS t o P I R p pt → cPr I P cd len → (∀ k, k < a0 → cd k = cd0 k) → cSX (nN o) cd a0 len hh D → sp_01 D → 3 * len + 2 + 4 * pt0 + p0 ≤ 4 * pt + p + 3 * a0 →
    (∀ (I' : Nat → Nat → Int32) (q : Nat), rLoop t (opAnd t) sub f p pt D = .inl q → rF P I0 I' → I' 120 4 = nI q → (∃ l, l ≤ 200 ∧ I' P 6 = nI l) → Q (some (.int 0)) (n, y, I', L, R)) →
    (∀ (I' : Nat → Nat → Int32) (q pt' : Nat) (D' : DD) (cd' : Nat → Nat × Nat) (len' : Nat), rLoop t (opAnd t) sub f p pt D = .inr (q, pt', D') → rF P I0 I' → rS t o P I' R q pt' → cPr I' P cd' len' → (∀ k, k < a0 → cd' k = cd0 k) → cSX (nN o) cd' a0 len' hh D' → sp_01 D' → 3 * len' + 2 + 4 * pt0 + p0 ≤ 4 * pt' + q + 3 * a0 → Q (some (.int 1)) (n, y, I', L, R)) →
    sm_W ex d 0 0 43 8 [some (.ref 120), some (.int (nI dep)), some (.int 1), some (.int (nI i)), w4] [] (n, y, I, L, R) Q := by
  intro f
  induction f with
  | zero =>
    intro i I p pt len cd D w4 hi fr hs hc ag sg dr bd k0 k1
    refine w_X7_both_8 (d1 := 5) hG (by omega) ?_
    rw [if_pos (show (400 : Int32) ≤ nI i from (nI_leI (a := 400) (by decide) (by omega)).mpr (by omega))]
    exact ⟨Or.inr rfl, k1 I p pt D cd len rfl fr hs hc ag sg dr bd⟩
  | succ f ih =>
    intro i I p pt len cd D w4 hi fr hs hc ag sg dr bd k0 k1
    have hpP := hs.2.2.2.2.2.2.2.2.2
    refine w_X7_both_8 (d1 := 5) hG (by omega) ?_
    rw [if_neg (show ¬ (400 : Int32) ≤ nI i from fun z => by have := (nI_leI (a := 400) (by decide) (by omega)).mp z; omega), if_neg (show ¬ (1 : Int32) = 0 by decide)]
    refine c_isW (Nat.le_refl 5) hG hs (by decide) htx.2.2.2.2.2.1 wd_ok.2.1 (fun e => ?_) (fun e => ?_)
    · refine w_X7_both_25 (d1 := 5) hG (by omega) ?_
      rw [if_neg (by decide)]
      refine ⟨Or.inr rfl, k1 I p pt D cd len ?_ fr hs hc ag sg dr bd⟩
      have eo : opAnd t p = none := by unfold opAnd; rw [if_neg e]
      unfold rLoop
      rw [eo]
    · have eo : opAnd t p = some 13 := by unfold opAnd; rw [if_pos e]
      have hpn : p + 2 ≤ nx t p := by
        have := (tkW_k e (by decide)).2.2.1
        have h2 : 2 ≤ wdAnd.length := by decide
        omega
      refine w_X7_both_25 (d1 := 5) hG (by omega) ?_
      rw [if_pos rfl]
      refine c_adv (by omega) hG hs ?_
      intro I1 f1 s1
      have c1 := f1.P hpP hc
      have hal := sg.le
      have hp4 := lt_of_nx hs
      have hp4n := lt_of_nx s1
      have hpt50 := hs.2.2.2.2.2.2.2.2.1
      refine w_X7_both_32 (d1 := 0) (q0 := P) (q1 := P) hG hP hP s1.2.2.1 s1.2.2.1 (by omega) ?_
      rw [c1.1]
      refine c_put (st := 13) (v := 0) hP c1 (by omega) (by decide) (by decide) ?_
      intro I2 f2 c2
      have s2 := f2.S s1
      refine w_X7_both_51 (d1 := d1) (q0 := P) hG hP s1.2.2.1 hd1 ?_
      rw [if_neg (by decide)]
      have fr2 := (fr.trans (f1.F P)).trans f2.F
      refine hsub n y I2 L R _ (nx t p) pt (len + 1) _ hG hP s2 c2 (by omega) (fun I' q e1 g e4 el => ?_) (fun I' q pt' D' cd' len' e1 g s c ag' sg' pr bd' => ?_)
      · refine w_X7_both_59 (d1 := 0) (q0 := P) (q1 := P) hG hP hP s1.2.2.1 (by omega) s1.2.2.1 ?_
        rw [if_pos rfl]
        obtain ⟨l, hl, el⟩ := el
        refine c_skipF hP el hl (by omega) ?_
        intro I3 f3'
        have f3 : rFp P I' I3 := fun a j _ q => f3' a j q
        refine w_X7_both_77 ?_
        have fin : Q (some (.int 0)) (n, y, I3, L, R) := by
          refine k0 I3 q ?_ ((fr2.trans g).trans f3.F) ((f3 120 4 (by omega) (by omega)).trans e4) ?_
          · unfold rLoop
            rw [eo]
            dsimp only
            rw [e1]
          · exact ⟨l, hl, (f3' P 6 (by omega)).trans el⟩
        refine w_X7_both_8 (d1 := 5) hG (by omega) ?_
        by_cases z : (400 : Int32) ≤ nI i + 1
        · rw [if_pos z]; exact ⟨Or.inl rfl, fin⟩
        · rw [if_neg z, if_pos rfl]; exact ⟨Or.inl rfl, fin⟩
      · refine w_X7_both_59 (d1 := 0) (q0 := P) (q1 := P) hG hP hP s1.2.2.1 (by omega) s1.2.2.1 ?_
        rw [if_neg (by decide)]
        have hll := sg'.le
        have hpt' := s.2.2.2.2.2.2.2.2.1
        have hq4 := lt_of_nx s
        refine c_skip (st := 13) hP c (by omega) (by decide) ((ag' len (by omega)).trans (cdU_s _ _ _)) ?_
        intro I3 f3 c3
        refine w_X7_both_77 ?_
        rw [sm_n1]
        have hrl : rLoop t (opAnd t) sub (f + 1) p pt D = rLoop t (opAnd t) sub f q pt' (dCo 13 D D') := by
          show (match opAnd t p with
            | none => Sum.inr (p, pt, D)
            | some st => _) = _
          rw [eo]
          dsimp only
          rw [e1]
        rw [hrl] at k0 k1
        refine ih (i + 1) I3 q pt' len' _ (dCo 13 D D') _ (by omega) ((fr2.trans g).trans f3.F) (f3.S s) c3 (fun k hk => ?_) ?_ (dAnd_01 pr) (by omega) k0 k1
        · rw [cdU_o _ _ (by omega), ag' k (by omega), cdU_o _ _ (by omega)]
          exact ag k hk
        · exact cs_skip (b := len) (sg.mono (fun k q1 q2 => by rw [cdU_o _ _ (by omega), ag' k (by omega), cdU_o _ _ (by omega)])) (sg'.mono (fun k q1 q2 => cdU_o _ _ (by omega))) dr (by decide) (cdU_s _ _ _)
theorem cOk_both {ex : sm_O} {t : Tp} {o : Bool} {P d d1 dep hh : Nat} {sub : Nat → Nat → Rr} (htx : txOK ex) (hd : 6 ≤ d) (hd1 : d1 < d) (hsub : cOk ex t o P d1 44 dep [none, none] hh sp_01 sub) : cOk ex t o P d 43 dep [none, none, none] hh sp_01 (rSeq t (opAnd t) sub) := by
  intro n y I L R Q p pt len cd hG hP hs hc hb k0 k1
  refine w_X7_both_0 (d1 := d1) hG hd1 ?_
  refine hsub n y I L R _ p pt len cd hG hP hs hc hb (fun I' q e1 g e4 el => ?_) (fun I' q pt' D' cd' len' e1 g s c ag' sg' pr bd' => ?_)
  · refine w_X7_both_5 ?_
    refine w_X7_both_8 (d1 := 5) hG (by omega) ?_
    rw [if_neg (by decide), if_pos rfl]
    refine ⟨Or.inl rfl, k0 I' q ?_ g e4 el⟩
    unfold rSeq
    rw [e1]
  · refine w_X7_both_5 ?_
    have hrs : rSeq t (opAnd t) sub p pt = rLoop t (opAnd t) sub 400 q pt' D' := by
      unfold rSeq
      rw [e1]
    rw [hrs] at k0 k1
    exact lp_both (p0 := p) (pt0 := pt) (a0 := len) (cd0 := cd) (I0 := I) htx hd hd1 hsub hG hP hb 400 0 I' q pt' len' cd' D' _ rfl g s c ag' sg' pr bd' k0 k1

theorem opOr_st {t : Tp} {p st : Nat} (h : opOr t p = some st) : st = 12 ∧ tkWd t p = wdOr := by
  unfold opOr at h
  split at h
  · rename_i e; cases h; exact ⟨rfl, e⟩
  · cases h
set_option maxHeartbeats 1000000 in
theorem lp_test {ex : sm_O} {t : Tp} {o : Bool} {P d d1 dep hh : Nat} {sub : Nat → Nat → Rr} {n : Nat} {y : sm_Y} {L : Nat → Nat → Int64} {R : Nat → Nat → Option Nat} {Q : sm_Q} {I0 : Nat → Nat → Int32} {cd0 : Nat → Nat × Nat} {p0 pt0 a0 : Nat} (htx : txOK ex) (hd : 6 ≤ d) (hd1 : d1 < d) (hsub : cOk ex t o P d1 43 dep [none, none, none] hh sp_01 sub) (hG : sm_G y R) (hP : ok6 y R P 200 12) (hb0 : 3 * a0 ≤ 4 * pt0 + p0) :
    ∀ (f i : Nat) (I : Nat → Nat → Int32) (p pt len : Nat) (cd : Nat → Nat × Nat) (D : DD) (w4 : Option Value), i + f = 400 → rF P I0 I → rS t o P I R p pt → cPr I P cd len → (∀ k, k < a0 → cd k = cd0 k) → cSX (nN o) cd a0 len hh D → sp_01 D → 3 * len + 2 + 4 * pt0 + p0 ≤ 4 * pt + p + 3 * a0 →
    (∀ (I' : Nat → Nat → Int32) (q : Nat), rLoop t (opOr t) sub f p pt D = .inl q → rF P I0 I' → I' 120 4 = nI q → (∃ l, l ≤ 200 ∧ I' P 6 = nI l) → Q (some (.int 0)) (n, y, I', L, R)) →
    (∀ (I' : Nat → Nat → Int32) (q pt' : Nat) (D' : DD) (cd' : Nat → Nat × Nat) (len' : Nat), rLoop t (opOr t) sub f p pt D = .inr (q, pt', D') → rF P I0 I' → rS t o P I' R q pt' → cPr I' P cd' len' → (∀ k, k < a0 → cd' k = cd0 k) → cSX (nN o) cd' a0 len' hh D' → sp_01 D' → 3 * len' + 2 + 4 * pt0 + p0 ≤ 4 * pt' + q + 3 * a0 → Q (some (.int 1)) (n, y, I', L, R)) →
    sm_W ex d 0 0 42 8 [some (.ref 120), some (.int (nI dep)), some (.int 1), some (.int (nI i)), w4] [] (n, y, I, L, R) Q := by
  intro f
  induction f with
  | zero =>
    intro i I p pt len cd D w4 hi fr hs hc ag sg dr bd k0 k1
    refine w_X7_test_8 (d1 := 5) hG (by omega) ?_
    rw [if_pos (show (400 : Int32) ≤ nI i from (nI_leI (a := 400) (by decide) (by omega)).mpr (by omega))]
    exact ⟨Or.inr rfl, k1 I p pt D cd len rfl fr hs hc ag sg dr bd⟩
  | succ f ih =>
    intro i I p pt len cd D w4 hi fr hs hc ag sg dr bd k0 k1
    have hpP := hs.2.2.2.2.2.2.2.2.2
    refine w_X7_test_8 (d1 := 5) hG (by omega) ?_
    rw [if_neg (show ¬ (400 : Int32) ≤ nI i from fun z => by have := (nI_leI (a := 400) (by decide) (by omega)).mp z; omega), if_neg (show ¬ (1 : Int32) = 0 by decide)]
    refine c_isW (Nat.le_refl 5) hG hs (by decide) htx.2.2.2.2.1 wd_ok.2.2.1 (fun e => ?_) (fun e => ?_)
    · refine w_X7_test_25 (d1 := 5) hG (by omega) ?_
      rw [if_neg (by decide)]
      refine ⟨Or.inr rfl, k1 I p pt D cd len ?_ fr hs hc ag sg dr bd⟩
      have eo : opOr t p = none := by unfold opOr; rw [if_neg e]
      unfold rLoop
      rw [eo]
    · have eo : opOr t p = some 12 := by unfold opOr; rw [if_pos e]
      have hpn : p + 2 ≤ nx t p := by
        have := (tkW_k e (by decide)).2.2.1
        have h2 : 2 ≤ wdOr.length := by decide
        omega
      refine w_X7_test_25 (d1 := 5) hG (by omega) ?_
      rw [if_pos rfl]
      refine c_adv (by omega) hG hs ?_
      intro I1 f1 s1
      have c1 := f1.P hpP hc
      have hal := sg.le
      have hp4 := lt_of_nx hs
      have hp4n := lt_of_nx s1
      have hpt50 := hs.2.2.2.2.2.2.2.2.1
      refine w_X7_test_32 (d1 := 0) (q0 := P) (q1 := P) hG hP hP s1.2.2.1 s1.2.2.1 (by omega) ?_
      rw [c1.1]
      refine c_put (st := 12) (v := 0) hP c1 (by omega) (by decide) (by decide) ?_
      intro I2 f2 c2
      have s2 := f2.S s1
      refine w_X7_test_51 (d1 := d1) (q0 := P) hG hP s1.2.2.1 hd1 ?_
      rw [if_neg (by decide)]
      have fr2 := (fr.trans (f1.F P)).trans f2.F
      refine hsub n y I2 L R _ (nx t p) pt (len + 1) _ hG hP s2 c2 (by omega) (fun I' q e1 g e4 el => ?_) (fun I' q pt' D' cd' len' e1 g s c ag' sg' pr bd' => ?_)
      · refine w_X7_test_59 (d1 := 0) (q0 := P) (q1 := P) hG hP hP s1.2.2.1 (by omega) s1.2.2.1 ?_
        rw [if_pos rfl]
        obtain ⟨l, hl, el⟩ := el
        refine c_skipF hP el hl (by omega) ?_
        intro I3 f3'
        have f3 : rFp P I' I3 := fun a j _ q => f3' a j q
        refine w_X7_test_77 ?_
        have fin : Q (some (.int 0)) (n, y, I3, L, R) := by
          refine k0 I3 q ?_ ((fr2.trans g).trans f3.F) ((f3 120 4 (by omega) (by omega)).trans e4) ?_
          · unfold rLoop
            rw [eo]
            dsimp only
            rw [e1]
          · exact ⟨l, hl, (f3' P 6 (by omega)).trans el⟩
        refine w_X7_test_8 (d1 := 5) hG (by omega) ?_
        by_cases z : (400 : Int32) ≤ nI i + 1
        · rw [if_pos z]; exact ⟨Or.inl rfl, fin⟩
        · rw [if_neg z, if_pos rfl]; exact ⟨Or.inl rfl, fin⟩
      · refine w_X7_test_59 (d1 := 0) (q0 := P) (q1 := P) hG hP hP s1.2.2.1 (by omega) s1.2.2.1 ?_
        rw [if_neg (by decide)]
        have hll := sg'.le
        have hpt' := s.2.2.2.2.2.2.2.2.1
        have hq4 := lt_of_nx s
        refine c_skip (st := 12) hP c (by omega) (by decide) ((ag' len (by omega)).trans (cdU_s _ _ _)) ?_
        intro I3 f3 c3
        refine w_X7_test_77 ?_
        rw [sm_n1]
        have hrl : rLoop t (opOr t) sub (f + 1) p pt D = rLoop t (opOr t) sub f q pt' (dCo 12 D D') := by
          show (match opOr t p with
            | none => Sum.inr (p, pt, D)
            | some st => _) = _
          rw [eo]
          dsimp only
          rw [e1]
        rw [hrl] at k0 k1
        refine ih (i + 1) I3 q pt' len' _ (dCo 12 D D') _ (by omega) ((fr2.trans g).trans f3.F) (f3.S s) c3 (fun k hk => ?_) ?_ (dOr_01 pr) (by omega) k0 k1
        · rw [cdU_o _ _ (by omega), ag' k (by omega), cdU_o _ _ (by omega)]
          exact ag k hk
        · exact cs_skip (b := len) (sg.mono (fun k q1 q2 => by rw [cdU_o _ _ (by omega), ag' k (by omega), cdU_o _ _ (by omega)])) (sg'.mono (fun k q1 q2 => cdU_o _ _ (by omega))) dr (by decide) (cdU_s _ _ _)
theorem cOk_test {ex : sm_O} {t : Tp} {o : Bool} {P d d1 dep hh : Nat} {sub : Nat → Nat → Rr} (htx : txOK ex) (hd : 6 ≤ d) (hd1 : d1 < d) (hsub : cOk ex t o P d1 43 dep [none, none, none] hh sp_01 sub) : cOk ex t o P d 42 dep [none, none, none] hh sp_01 (rSeq t (opOr t) sub) := by
  intro n y I L R Q p pt len cd hG hP hs hc hb k0 k1
  refine w_X7_test_0 (d1 := d1) hG hd1 ?_
  refine hsub n y I L R _ p pt len cd hG hP hs hc hb (fun I' q e1 g e4 el => ?_) (fun I' q pt' D' cd' len' e1 g s c ag' sg' pr bd' => ?_)
  · refine w_X7_test_5 ?_
    refine w_X7_test_8 (d1 := 5) hG (by omega) ?_
    rw [if_neg (by decide), if_pos rfl]
    refine ⟨Or.inl rfl, k0 I' q ?_ g e4 el⟩
    unfold rSeq
    rw [e1]
  · refine w_X7_test_5 ?_
    have hrs : rSeq t (opOr t) sub p pt = rLoop t (opOr t) sub 400 q pt' D' := by
      unfold rSeq
      rw [e1]
    rw [hrs] at k0 k1
    exact lp_test (p0 := p) (pt0 := pt) (a0 := len) (cd0 := cd) (I0 := I) htx hd hd1 hsub hG hP hb 400 0 I' q pt' len' cd' D' _ rfl g s c ag' sg' pr bd' k0 k1


theorem cOk_sumAll {ex : sm_O} {t : Tp} {o : Bool} {P : Nat} (htx : txOK ex) : ∀ r d, r ≤ 8 → 9 + 3 * r ≤ d → cOk ex t o P d 45 (8 - r) [none, none, none] (3 + 2 * r) dR (rSum t o r)
  | 0, d, _, _ => cOk_sum (d1 := 8) (by omega) (by omega) (cOk_term (d1 := 7) (by omega) (by omega) (cOk_part (hh := 1) htx (by omega) (by omega) (by omega) rfl))
  | r + 1, d, h, hd => by
    have ih := cOk_sumAll (o := o) (t := t) (P := P) htx r (9 + 3 * r) (by omega) (by omega)
    rw [show 8 - r = 8 - (r + 1) + 1 by omega] at ih
    exact cOk_sum (d := d) (d1 := 9 + 3 * r + 2) (by omega) (by omega) (cOk_term (d1 := 9 + 3 * r + 1) (by omega) (by omega) (cOk_part (hh := 3 + 2 * r) (inn := some (rSum t o r)) htx (by omega) (by omega) (by omega) ⟨by omega, _, by omega, ih⟩))
theorem cOk_testAll {ex : sm_O} {t : Tp} {o : Bool} {P : Nat} (htx : txOK ex) : ∀ r d, r ≤ 8 → 12 + 3 * r ≤ d → cOk ex t o P d 42 (8 - r) [none, none, none] (4 + 2 * r) sp_01 (rTest t o r)
  | 0, d, _, _ => cOk_test (d1 := 11) htx (by omega) (by omega) (cOk_both (d1 := 10) htx (by omega) (by omega) (cOk_plain (d2 := 9) htx (by omega) (by omega) rfl (by omega) (cOk_sumAll htx 0 9 (by omega) (by omega)) (by omega)))
  | r + 1, d, h, hd => by
    have ih := cOk_testAll (o := o) (t := t) (P := P) htx r (12 + 3 * r) (by omega) (by omega)
    rw [show 8 - r = 8 - (r + 1) + 1 by omega] at ih
    have ih2 : cOk ex t o P (12 + 3 * r) 42 (8 - (r + 1) + 1) [none, none, none] (4 + 2 * (r + 1)) sp_01 (rTest t o r) := fun n y I L R Q p pt len cd hG hP hs hc hb k0 k1 => ih n y I L R Q p pt len cd hG hP hs hc hb k0 (fun I' q pt' D cd' len' e1 g s c ag sg pr bd => k1 I' q pt' D cd' len' e1 g s c ag (sg.up (by omega)) pr bd)
    exact cOk_test (d := d) (d1 := 12 + 3 * r + 2) htx (by omega) (by omega) (cOk_both (d1 := 12 + 3 * r + 1) htx (by omega) (by omega) (cOk_plain (d2 := 9 + 3 * (r + 1)) (inn := some (rTest t o r)) htx (by omega) (by omega) ⟨by omega, _, by omega, ih2⟩ (by omega) (cOk_sumAll htx (r + 1) (9 + 3 * (r + 1)) h (by omega)) (by omega)))

