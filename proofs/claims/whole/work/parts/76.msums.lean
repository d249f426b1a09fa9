set_option maxRecDepth 100000 in
theorem w_X11_behindSum_0 {ex : sm_O} {d n : Nat} {y : sm_Y} {I : Nat → Nat → Int32} {L : Nat → Nat → Int64} {R : Nat → Nat → Option Nat} {Q : sm_Q} {w1 : Option Value} {w2 : Option Value} {w3 : Option Value} {d1 : Nat} (hG : sm_G y R) (h1 : d1 < d) (k : sm_W ex d1 0 0 156 0 [some (.ref 123), some (.int 43)] [] (n, y, I, L, R) (fun r μ1 => sm_W ex d 0 0 172 6 [some (.ref 123), w1, w2, w3] (r.toList ++ []) μ1 Q)) : sm_W ex d 0 0 172 0 [some (.ref 123), w1, w2, w3] [] (n, y, I, L, R) Q := sm_in (sm_in (sm_in (Exists.intro 11 (And.intro (hG.1 123 (Nat.le_of_ble_eq_true rfl)) (And.intro rfl (sm_calln h1 (Nat.le_of_ble_eq_true rfl) (Nat.le_of_ble_eq_true rfl) k))))))
set_option maxRecDepth 100000 in
theorem w_X11_behindSum_6 {ex : sm_O} {d n : Nat} {y : sm_Y} {I : Nat → Nat → Int32} {L : Nat → Nat → Int64} {R : Nat → Nat → Option Nat} {Q : sm_Q} {w2 : Option Value} {w3 : Option Value} {a1 : Int32} {s0 : Int32} {d1 : Nat} (hG : sm_G y R) (h1 : d1 < d) (k : if s0 = 0 then (sm_W ex d1 0 0 156 0 [some (.ref 123), some (.int 45)] [] (n, y, I, L, R) (fun r μ1 => sm_W ex d 0 0 172 20 [some (.ref 123), some (.int a1), w2, w3] (r.toList ++ []) μ1 Q)) else (sm_W ex d1 0 0 162 0 [some (.int 20)] [] (n, y, I, L, R) (fun r μ1 => sm_W ex d 0 0 172 82 [some (.ref 123), some (.int a1), some (.int 20), w3] (r.toList ++ [.ref 123]) μ1 Q))) : sm_W ex d 0 0 172 6 [some (.ref 123), some (.int a1), w2, w3] [.int s0] (n, y, I, L, R) Q := sm_in (And.intro (fun c1 => have k1t := Eq.mp (if_pos c1) k; sm_in (sm_in (sm_in (Exists.intro 11 (And.intro (hG.1 123 (Nat.le_of_ble_eq_true rfl)) (And.intro rfl (sm_calln h1 (Nat.le_of_ble_eq_true rfl) (Nat.le_of_ble_eq_true rfl) k1t))))))) (fun c1 => have k1f := Eq.mp (if_neg c1) k; sm_in (sm_in (sm_in (And.intro (Nat.le_of_ble_eq_true rfl) (sm_in (sm_in (sm_in (And.intro (fun c => absurd c (by decide : ¬ (20 : Int32) = (-1))) (fun _ => sm_in (sm_in (sm_in (And.intro (Nat.le_of_ble_eq_true rfl) (sm_calln h1 (Nat.le_of_ble_eq_true rfl) (Nat.le_of_ble_eq_true rfl) k1f))))))))))))))
set_option maxRecDepth 100000 in
theorem w_X11_behindSum_20 {ex : sm_O} {d n : Nat} {y : sm_Y} {I : Nat → Nat → Int32} {L : Nat → Nat → Int64} {R : Nat → Nat → Option Nat} {Q : sm_Q} {w2 : Option Value} {w3 : Option Value} {a1 : Int32} {s0 : Int32} {d1 : Nat} (hG : sm_G y R) (h1 : d1 < d) (k : if s0 = 0 then (sm_W ex d1 0 0 156 0 [some (.ref 123), some (.int 42)] [] (n, y, I, L, R) (fun r μ1 => sm_W ex d 0 0 172 34 [some (.ref 123), some (.int a1), w2, w3] (r.toList ++ []) μ1 Q)) else (sm_W ex d1 0 0 162 0 [some (.int 21)] [] (n, y, I, L, R) (fun r μ1 => sm_W ex d 0 0 172 82 [some (.ref 123), some (.int a1), some (.int 21), w3] (r.toList ++ [.ref 123]) μ1 Q))) : sm_W ex d 0 0 172 20 [some (.ref 123), some (.int a1), w2, w3] [.int s0] (n, y, I, L, R) Q := sm_in (And.intro (fun c1 => have k1t := Eq.mp (if_pos c1) k; sm_in (sm_in (sm_in (Exists.intro 11 (And.intro (hG.1 123 (Nat.le_of_ble_eq_true rfl)) (And.intro rfl (sm_calln h1 (Nat.le_of_ble_eq_true rfl) (Nat.le_of_ble_eq_true rfl) k1t))))))) (fun c1 => have k1f := Eq.mp (if_neg c1) k; sm_in (sm_in (sm_in (And.intro (Nat.le_of_ble_eq_true rfl) (sm_in (sm_in (sm_in (And.intro (fun c => absurd c (by decide : ¬ (21 : Int32) = (-1))) (fun _ => sm_in (sm_in (sm_in (And.intro (Nat.le_of_ble_eq_true rfl) (sm_calln h1 (Nat.le_of_ble_eq_true rfl) (Nat.le_of_ble_eq_true rfl) k1f))))))))))))))
set_option maxRecDepth 100000 in
theorem w_X11_behindSum_34 {ex : sm_O} {d n : Nat} {y : sm_Y} {I : Nat → Nat → Int32} {L : Nat → Nat → Int64} {R : Nat → Nat → Option Nat} {Q : sm_Q} {w2 : Option Value} {w3 : Option Value} {a1 : Int32} {s0 : Int32} {d1 : Nat} (hG : sm_G y R) (h1 : d1 < d) (k : if s0 = 0 then (sm_W ex d1 0 0 156 0 [some (.ref 123), some (.int 47)] [] (n, y, I, L, R) (fun r μ1 => sm_W ex d 0 0 172 48 [some (.ref 123), some (.int a1), w2, w3] (r.toList ++ []) μ1 Q)) else (sm_W ex d1 0 0 162 0 [some (.int 22)] [] (n, y, I, L, R) (fun r μ1 => sm_W ex d 0 0 172 82 [some (.ref 123), some (.int a1), some (.int 22), w3] (r.toList ++ [.ref 123]) μ1 Q))) : sm_W ex d 0 0 172 34 [some (.ref 123), some (.int a1), w2, w3] [.int s0] (n, y, I, L, R) Q := sm_in (And.intro (fun c1 => have k1t := Eq.mp (if_pos c1) k; sm_in (sm_in (sm_in (Exists.intro 11 (And.intro (hG.1 123 (Nat.le_of_ble_eq_true rfl)) (And.intro rfl (sm_calln h1 (Nat.le_of_ble_eq_true rfl) (Nat.le_of_ble_eq_true rfl) k1t))))))) (fun c1 => have k1f := Eq.mp (if_neg c1) k; sm_in (sm_in (sm_in (And.intro (Nat.le_of_ble_eq_true rfl) (sm_in (sm_in (sm_in (And.intro (fun c => absurd c (by decide : ¬ (22 : Int32) = (-1))) (fun _ => sm_in (sm_in (sm_in (And.intro (Nat.le_of_ble_eq_true rfl) (sm_calln h1 (Nat.le_of_ble_eq_true rfl) (Nat.le_of_ble_eq_true rfl) k1f))))))))))))))
set_option maxRecDepth 100000 in
theorem w_X11_behindSum_48 {ex : sm_O} {d n : Nat} {y : sm_Y} {I : Nat → Nat → Int32} {L : Nat → Nat → Int64} {R : Nat → Nat → Option Nat} {Q : sm_Q} {w2 : Option Value} {w3 : Option Value} {a1 : Int32} {s0 : Int32} {d1 : Nat} (hG : sm_G y R) (h1 : d1 < d) (k : if s0 = 0 then (sm_W ex d1 0 0 156 0 [some (.ref 123), some (.int 37)] [] (n, y, I, L, R) (fun r μ1 => sm_W ex d 0 0 172 62 [some (.ref 123), some (.int a1), w2, w3] (r.toList ++ []) μ1 Q)) else (sm_W ex d1 0 0 162 0 [some (.int 23)] [] (n, y, I, L, R) (fun r μ1 => sm_W ex d 0 0 172 82 [some (.ref 123), some (.int a1), some (.int 23), w3] (r.toList ++ [.ref 123]) μ1 Q))) : sm_W ex d 0 0 172 48 [some (.ref 123), some (.int a1), w2, w3] [.int s0] (n, y, I, L, R) Q := sm_in (And.intro (fun c1 => have k1t := Eq.mp (if_pos c1) k; sm_in (sm_in (sm_in (Exists.intro 11 (And.intro (hG.1 123 (Nat.le_of_ble_eq_true rfl)) (And.intro rfl (sm_calln h1 (Nat.le_of_ble_eq_true rfl) (Nat.le_of_ble_eq_true rfl) k1t))))))) (fun c1 => have k1f := Eq.mp (if_neg c1) k; sm_in (sm_in (sm_in (And.intro (Nat.le_of_ble_eq_true rfl) (sm_in (sm_in (sm_in (And.intro (fun c => absurd c (by decide : ¬ (23 : Int32) = (-1))) (fun _ => sm_in (sm_in (sm_in (And.intro (Nat.le_of_ble_eq_true rfl) (sm_calln h1 (Nat.le_of_ble_eq_true rfl) (Nat.le_of_ble_eq_true rfl) k1f))))))))))))))
set_option maxRecDepth 100000 in
theorem w_X11_behindSum_62 {ex : sm_O} {d n : Nat} {y : sm_Y} {I : Nat → Nat → Int32} {L : Nat → Nat → Int64} {R : Nat → Nat → Option Nat} {Q : sm_Q} {w2 : Option Value} {w3 : Option Value} {a1 : Int32} {s0 : Int32} {d1 : Nat} (hG : sm_G y R) (h1 : d1 < d) (k : if s0 = 0 then (if ((-1) : Int32) = (-1) then (sm_W ex d1 0 0 164 0 [some (.ref 123), none, none] [] (n, y, I, L, R) (fun r μ1 => sm_W ex d 0 0 172 101 [some (.ref 123), some (.int a1), some (.int (-1)), w3] (r.toList ++ []) μ1 Q)) else (sm_W ex d1 0 0 162 0 [some (.int (-1))] [] (n, y, I, L, R) (fun r μ1 => sm_W ex d 0 0 172 82 [some (.ref 123), some (.int a1), some (.int (-1)), w3] (r.toList ++ [.ref 123]) μ1 Q))) else (sm_W ex d1 0 0 162 0 [some (.int 24)] [] (n, y, I, L, R) (fun r μ1 => sm_W ex d 0 0 172 82 [some (.ref 123), some (.int a1), some (.int 24), w3] (r.toList ++ [.ref 123]) μ1 Q))) : sm_W ex d 0 0 172 62 [some (.ref 123), some (.int a1), w2, w3] [.int s0] (n, y, I, L, R) Q := sm_in (And.intro (fun c1 => have k1t := Eq.mp (if_pos c1) k; sm_in (sm_in (And.intro (Nat.le_of_ble_eq_true rfl) (sm_in (sm_in (sm_in (And.intro (fun c2 => have k2t := Eq.mp (if_pos c2) k1t; sm_in (sm_in (Exists.intro 11 (And.intro (hG.1 123 (Nat.le_of_ble_eq_true rfl)) (And.intro rfl (sm_calln h1 (Nat.le_of_ble_eq_true rfl) (Nat.le_of_ble_eq_true rfl) k2t)))))) (fun c2 => have k2f := Eq.mp (if_neg c2) k1t; sm_in (sm_in (sm_in (And.intro (Nat.le_of_ble_eq_true rfl) (sm_calln h1 (Nat.le_of_ble_eq_true rfl) (Nat.le_of_ble_eq_true rfl) k2f)))))))))))) (fun c1 => have k1f := Eq.mp (if_neg c1) k; sm_in (sm_in (sm_in (And.intro (Nat.le_of_ble_eq_true rfl) (sm_in (sm_in (sm_in (And.intro (fun c => absurd c (by decide : ¬ (24 : Int32) = (-1))) (fun _ => sm_in (sm_in (sm_in (And.intro (Nat.le_of_ble_eq_true rfl) (sm_calln h1 (Nat.le_of_ble_eq_true rfl) (Nat.le_of_ble_eq_true rfl) k1f))))))))))))))
set_option maxRecDepth 100000 in
theorem w_X11_behindSum_82 {ex : sm_O} {d n : Nat} {y : sm_Y} {I : Nat → Nat → Int32} {L : Nat → Nat → Int64} {R : Nat → Nat → Option Nat} {Q : sm_Q} {w0 : Option Value} {w1 : Option Value} {w2 : Option Value} {w3 : Option Value} {s0 : Int32} {d1 : Nat} (hG : sm_G y R) (h1 : d1 < d) (k : sm_W ex d1 0 0 163 0 [some (.ref 123), some (.int s0)] [] (n, y, I, L, R) (fun r μ1 => sm_W ex d 0 0 172 85 [w0, w1, w2, w3] (r.toList ++ []) μ1 Q)) : sm_W ex d 0 0 172 82 [w0, w1, w2, w3] [.int s0, .ref 123] (n, y, I, L, R) Q := sm_in (Exists.intro 11 (And.intro (hG.1 123 (Nat.le_of_ble_eq_true rfl)) (And.intro rfl (sm_calln h1 (Nat.le_of_ble_eq_true rfl) (Nat.le_of_ble_eq_true rfl) k))))
set_option maxRecDepth 100000 in
theorem w_X11_behindSum_85 {ex : sm_O} {d n : Nat} {y : sm_Y} {I : Nat → Nat → Int32} {L : Nat → Nat → Int64} {R : Nat → Nat → Option Nat} {Q : sm_Q} {w1 : Option Value} {w3 : Option Value} {a2 : Int32} {d1 : Nat} (hG : sm_G y R) (h1 : d1 < d) (k : sm_W ex d1 0 0 161 0 [some (.ref 123), some (.int a2), some (.int 0)] [] (n, y, I, L, R) (fun r μ1 => sm_W ex d 0 0 172 91 [some (.ref 123), w1, some (.int a2), w3] (r.toList ++ []) μ1 Q)) : sm_W ex d 0 0 172 85 [some (.ref 123), w1, some (.int a2), w3] [] (n, y, I, L, R) Q := sm_in (sm_in (sm_in (sm_in (Exists.intro 11 (And.intro (hG.1 123 (Nat.le_of_ble_eq_true rfl)) (And.intro rfl (sm_calln h1 (Nat.le_of_ble_eq_true rfl) (Nat.le_of_ble_eq_true rfl) k)))))))
set_option maxRecDepth 100000 in
theorem w_X11_behindSum_91 {ex : sm_O} {d n : Nat} {y : sm_Y} {I : Nat → Nat → Int32} {L : Nat → Nat → Int64} {R : Nat → Nat → Option Nat} {Q : sm_Q} {w1 : Option Value} {w2 : Option Value} {w3 : Option Value} {d1 : Nat} (hG : sm_G y R) (h1 : d1 < d) (k : sm_W ex d1 0 0 154 0 [some (.ref 123)] [] (n, y, I, L, R) (fun r μ1 => sm_W ex d 0 0 172 95 [some (.ref 123), w1, w2, w3] (r.toList ++ []) μ1 Q)) : sm_W ex d 0 0 172 91 [some (.ref 123), w1, w2, w3] [] (n, y, I, L, R) Q := sm_in (sm_in (Exists.intro 11 (And.intro (hG.1 123 (Nat.le_of_ble_eq_true rfl)) (And.intro rfl (sm_calln h1 (Nat.le_of_ble_eq_true rfl) (Nat.le_of_ble_eq_true rfl) k)))))
set_option maxRecDepth 100000 in
theorem w_X11_behindSum_95 {ex : sm_O} {d n : Nat} {y : sm_Y} {I : Nat → Nat → Int32} {L : Nat → Nat → Int64} {R : Nat → Nat → Option Nat} {Q : sm_Q} {w0 : Option Value} {w1 : Option Value} {w2 : Option Value} {w3 : Option Value} (k : Q (some (.int 1)) (n, y, I, L, R)) : sm_W ex d 0 0 172 95 [w0, w1, w2, w3] [] (n, y, I, L, R) Q := sm_in (sm_in (And.intro rfl k))
set_option maxRecDepth 100000 in
theorem w_X11_behindSum_101 {ex : sm_O} {d n : Nat} {y : sm_Y} {I : Nat → Nat → Int32} {L : Nat → Nat → Int64} {R : Nat → Nat → Option Nat} {Q : sm_Q} {w3 : Option Value} {a1 : Int32} {a2 : Int32} {s0 : Int32} {d1 : Nat} (hG : sm_G y R) (h1 : d1 < d) (k : if s0 = 32 then (sm_W ex d1 0 0 156 0 [some (.ref 123), some (.int 93)] [] (n, y, I, L, R) (fun r μ1 => sm_W ex d 0 0 172 115 [some (.ref 123), some (.int a1), some (.int a2), some (.int s0)] (r.toList ++ [.ref 123]) μ1 Q)) else (if s0 = (-1) then (if a1 = 0 then (Q (some (.int 4)) (n, y, I, L, R)) else (sm_W ex d1 0 0 165 0 [some (.ref 123), none] [] (n, y, I, L, R) (fun r μ1 => sm_W ex d 0 0 172 167 [some (.ref 123), some (.int a1), some (.int a2), some (.int s0)] (r.toList ++ []) μ1 Q))) else (sm_W ex d1 0 0 165 0 [some (.ref 123), none] [] (n, y, I, L, R) (fun r μ1 => sm_W ex d 0 0 172 167 [some (.ref 123), some (.int a1), some (.int a2), some (.int s0)] (r.toList ++ []) μ1 Q)))) : sm_W ex d 0 0 172 101 [some (.ref 123), some (.int a1), some (.int a2), w3] [.int s0] (n, y, I, L, R) Q := sm_in (And.intro (Nat.le_of_ble_eq_true rfl) (sm_in (sm_in (sm_in (And.intro (fun c1 => have k1f := Eq.mp (if_neg c1) k; sm_in (sm_in (sm_in (And.intro (fun c2 => have k2f := Eq.mp (if_neg c2) k1f; sm_in (sm_in (Exists.intro 11 (And.intro (hG.1 123 (Nat.le_of_ble_eq_true rfl)) (And.intro rfl (sm_calln h1 (Nat.le_of_ble_eq_true rfl) (Nat.le_of_ble_eq_true rfl) k2f)))))) (fun c2 => have k2t := Eq.mp (if_pos c2) k1f; sm_in (sm_in (And.intro (fun c3 => have k3f := Eq.mp (if_neg c3) k2t; sm_in (sm_in (Exists.intro 11 (And.intro (hG.1 123 (Nat.le_of_ble_eq_true rfl)) (And.intro rfl (sm_calln h1 (Nat.le_of_ble_eq_true rfl) (Nat.le_of_ble_eq_true rfl) k3f)))))) (fun c3 => have k3t := Eq.mp (if_pos c3) k2t; sm_in (sm_in (And.intro rfl k3t)))))))))) (fun c1 => have k1t := Eq.mp (if_pos c1) k; sm_in (sm_in (sm_in (sm_in (Exists.intro 11 (And.intro (hG.1 123 (Nat.le_of_ble_eq_true rfl)) (And.intro rfl (sm_calln h1 (Nat.le_of_ble_eq_true rfl) (Nat.le_of_ble_eq_true rfl) k1t)))))))))))))
set_option maxRecDepth 100000 in
theorem w_X11_behindSum_115 {ex : sm_O} {d n : Nat} {y : sm_Y} {I : Nat → Nat → Int32} {L : Nat → Nat → Int64} {R : Nat → Nat → Option Nat} {Q : sm_Q} {w0 : Option Value} {w1 : Option Value} {w2 : Option Value} {w3 : Option Value} {s0 : Int32} {d1 : Nat} (hG : sm_G y R) (h1 : d1 < d) (k : sm_W ex d1 0 0 157 0 [some (.ref 123), some (.int s0)] [] (n, y, I, L, R) (fun r μ1 => sm_W ex d 0 0 172 118 [w0, w1, w2, w3] (r.toList ++ []) μ1 Q)) : sm_W ex d 0 0 172 115 [w0, w1, w2, w3] [.int s0, .ref 123] (n, y, I, L, R) Q := sm_in (Exists.intro 11 (And.intro (hG.1 123 (Nat.le_of_ble_eq_true rfl)) (And.intro rfl (sm_calln h1 (Nat.le_of_ble_eq_true rfl) (Nat.le_of_ble_eq_true rfl) k))))
set_option maxRecDepth 100000 in
theorem w_X11_behindSum_118 {ex : sm_O} {d n : Nat} {y : sm_Y} {I : Nat → Nat → Int32} {L : Nat → Nat → Int64} {R : Nat → Nat → Option Nat} {Q : sm_Q} {w1 : Option Value} {w2 : Option Value} {w3 : Option Value} {d1 : Nat} (hG : sm_G y R) (h1 : d1 < d) (k : if (I 123 19) = 0 then (sm_W ex d1 0 0 163 0 [some (.ref 123), some (.int 5)] [] (n, y, I, L, R) (fun r μ1 => sm_W ex d 0 0 172 130 [some (.ref 123), w1, w2, w3] (r.toList ++ []) μ1 Q)) else (Q (some (.int 3)) (n, y, I, L, R))) : sm_W ex d 0 0 172 118 [some (.ref 123), w1, w2, w3] [] (n, y, I, L, R) Q := sm_in (sm_in (And.intro (hG.1 123 (Nat.le_of_ble_eq_true rfl)) (sm_in (And.intro (fun c1 => have k1f := Eq.mp (if_neg c1) k; sm_in (sm_in (And.intro rfl k1f))) (fun c1 => have k1t := Eq.mp (if_pos c1) k; sm_in (sm_in (sm_in (Exists.intro 11 (And.intro (hG.1 123 (Nat.le_of_ble_eq_true rfl)) (And.intro rfl (sm_calln h1 (Nat.le_of_ble_eq_true rfl) (Nat.le_of_ble_eq_true rfl) k1t)))))))))))
set_option maxRecDepth 100000 in
theorem w_X11_behindSum_130 {ex : sm_O} {d n : Nat} {y : sm_Y} {I : Nat → Nat → Int32} {L : Nat → Nat → Int64} {R : Nat → Nat → Option Nat} {Q : sm_Q} {w1 : Option Value} {w2 : Option Value} {w3 : Option Value} (hG : sm_G y R) (k : Q (some (.int 3)) (n, y, sm_st (sm_st I 123 29 ((I 123 29) - 1)) 123 30 ((I 123 30) - 1), L, R)) : sm_W ex d 0 0 172 130 [some (.ref 123), w1, w2, w3] [] (n, y, I, L, R) Q := sm_in (sm_in (And.intro rfl (sm_in (And.intro (hG.1 123 (Nat.le_of_ble_eq_true rfl)) (sm_in (sm_in (sm_in (And.intro (hG.1 123 (Nat.le_of_ble_eq_true rfl)) (sm_in (sm_in (And.intro rfl (sm_in (And.intro (hG.1 123 (Nat.le_of_ble_eq_true rfl)) (sm_in (sm_in (sm_in (And.intro (hG.1 123 (Nat.le_of_ble_eq_true rfl)) (sm_in (sm_in (And.intro rfl k))))))))))))))))))))
set_option maxRecDepth 100000 in
theorem w_X11_behindSum_167 {ex : sm_O} {d n : Nat} {y : sm_Y} {I : Nat → Nat → Int32} {L : Nat → Nat → Int64} {R : Nat → Nat → Option Nat} {Q : sm_Q} {w1 : Option Value} {w2 : Option Value} {w3 : Option Value} {s0 : Int32} {d1 : Nat} (hG : sm_G y R) (h1 : d1 < d) (k : if s0 = 0 then (sm_W ex d1 0 0 156 0 [some (.ref 123), some (.int 60)] [] (n, y, I, L, R) (fun r μ1 => sm_W ex d 0 0 172 178 [some (.ref 123), w1, w2, w3] (r.toList ++ []) μ1 Q)) else (Q (some (.int 2)) (n, y, I, L, R))) : sm_W ex d 0 0 172 167 [some (.ref 123), w1, w2, w3] [.int s0] (n, y, I, L, R) Q := sm_in (And.intro (fun c1 => have k1t := Eq.mp (if_pos c1) k; sm_in (sm_in (sm_in (Exists.intro 11 (And.intro (hG.1 123 (Nat.le_of_ble_eq_true rfl)) (And.intro rfl (sm_calln h1 (Nat.le_of_ble_eq_true rfl) (Nat.le_of_ble_eq_true rfl) k1t))))))) (fun c1 => have k1f := Eq.mp (if_neg c1) k; sm_in (sm_in (And.intro rfl k1f))))
set_option maxRecDepth 100000 in
theorem w_X11_behindSum_178 {ex : sm_O} {d n : Nat} {y : sm_Y} {I : Nat → Nat → Int32} {L : Nat → Nat → Int64} {R : Nat → Nat → Option Nat} {Q : sm_Q} {w2 : Option Value} {w3 : Option Value} {a1 : Int32} {s0 : Int32} {d1 : Nat} (hG : sm_G y R) (h1 : d1 < d) (k : if s0 = 0 then (sm_W ex d1 0 0 156 0 [some (.ref 123), some (.int 62)] [] (n, y, I, L, R) (fun r μ1 => sm_W ex d 0 0 172 192 [some (.ref 123), some (.int a1), w2, w3] (r.toList ++ []) μ1 Q)) else (sm_W ex d1 0 0 157 0 [some (.ref 123), some (.int 1)] [] (n, y, I, L, R) (fun r μ1 => sm_W ex d 0 0 172 227 [some (.ref 123), some (.int a1), some (.int 25), w3] (r.toList ++ []) μ1 Q))) : sm_W ex d 0 0 172 178 [some (.ref 123), some (.int a1), w2, w3] [.int s0] (n, y, I, L, R) Q := sm_in (And.intro (fun c1 => have k1t := Eq.mp (if_pos c1) k; sm_in (sm_in (sm_in (Exists.intro 11 (And.intro (hG.1 123 (Nat.le_of_ble_eq_true rfl)) (And.intro rfl (sm_calln h1 (Nat.le_of_ble_eq_true rfl) (Nat.le_of_ble_eq_true rfl) k1t))))))) (fun c1 => have k1f := Eq.mp (if_neg c1) k; sm_in (sm_in (sm_in (And.intro (Nat.le_of_ble_eq_true rfl) (sm_in (sm_in (sm_in (sm_in (And.intro (fun _ => sm_in (sm_in (sm_in (Exists.intro 11 (And.intro (hG.1 123 (Nat.le_of_ble_eq_true rfl)) (And.intro rfl (sm_calln h1 (Nat.le_of_ble_eq_true rfl) (Nat.le_of_ble_eq_true rfl) k1f))))))) (fun c => absurd c (by decide : ¬ (25 : Int32) = 27))))))))))))
set_option maxRecDepth 100000 in
theorem w_X11_behindSum_192 {ex : sm_O} {d n : Nat} {y : sm_Y} {I : Nat → Nat → Int32} {L : Nat → Nat → Int64} {R : Nat → Nat → Option Nat} {Q : sm_Q} {w2 : Option Value} {w3 : Option Value} {a1 : Int32} {s0 : Int32} {d1 : Nat} (hG : sm_G y R) (h1 : d1 < d) (k : if s0 = 0 then (sm_W ex d1 0 0 156 0 [some (.ref 123), some (.int 61)] [] (n, y, I, L, R) (fun r μ1 => sm_W ex d 0 0 172 216 [some (.ref 123), some (.int a1), some (.int 27), w3] (r.toList ++ [.ref 123]) μ1 Q)) else (sm_W ex d1 0 0 157 0 [some (.ref 123), some (.int 1)] [] (n, y, I, L, R) (fun r μ1 => sm_W ex d 0 0 172 227 [some (.ref 123), some (.int a1), some (.int 26), w3] (r.toList ++ []) μ1 Q))) : sm_W ex d 0 0 172 192 [some (.ref 123), some (.int a1), w2, w3] [.int s0] (n, y, I, L, R) Q := sm_in (And.intro (fun c1 => have k1t := Eq.mp (if_pos c1) k; sm_in (sm_in (And.intro (Nat.le_of_ble_eq_true rfl) (sm_in (sm_in (sm_in (sm_in (And.intro (fun c => absurd (by decide : (27 : Int32) = 27) c) (fun _ => sm_in (sm_in (sm_in (Exists.intro 11 (And.intro (hG.1 123 (Nat.le_of_ble_eq_true rfl)) (And.intro rfl (sm_calln h1 (Nat.le_of_ble_eq_true rfl) (Nat.le_of_ble_eq_true rfl) k1t))))))))))))))) (fun c1 => have k1f := Eq.mp (if_neg c1) k; sm_in (sm_in (sm_in (And.intro (Nat.le_of_ble_eq_true rfl) (sm_in (sm_in (sm_in (sm_in (And.intro (fun _ => sm_in (sm_in (sm_in (Exists.intro 11 (And.intro (hG.1 123 (Nat.le_of_ble_eq_true rfl)) (And.intro rfl (sm_calln h1 (Nat.le_of_ble_eq_true rfl) (Nat.le_of_ble_eq_true rfl) k1f))))))) (fun c => absurd c (by decide : ¬ (26 : Int32) = 27))))))))))))
set_option maxRecDepth 100000 in
theorem w_X11_behindSum_216 {ex : sm_O} {d n : Nat} {y : sm_Y} {I : Nat → Nat → Int32} {L : Nat → Nat → Int64} {R : Nat → Nat → Option Nat} {Q : sm_Q} {w0 : Option Value} {w1 : Option Value} {w2 : Option Value} {w3 : Option Value} {s0 : Int32} {d1 : Nat} (hG : sm_G y R) (h1 : d1 < d) (k : if s0 = 0 then (sm_W ex d1 0 0 157 0 [some (.ref 123), some (.int 0)] [] (n, y, I, L, R) (fun r μ1 => sm_W ex d 0 0 172 227 [w0, w1, w2, w3] (r.toList ++ []) μ1 Q)) else (sm_W ex d1 0 0 157 0 [some (.ref 123), some (.int 1)] [] (n, y, I, L, R) (fun r μ1 => sm_W ex d 0 0 172 227 [w0, w1, w2, w3] (r.toList ++ []) μ1 Q))) : sm_W ex d 0 0 172 216 [w0, w1, w2, w3] [.int s0, .ref 123] (n, y, I, L, R) Q := sm_in (And.intro (fun c1 => have k1t := Eq.mp (if_pos c1) k; sm_in (sm_in (Exists.intro 11 (And.intro (hG.1 123 (Nat.le_of_ble_eq_true rfl)) (And.intro rfl (sm_calln h1 (Nat.le_of_ble_eq_true rfl) (Nat.le_of_ble_eq_true rfl) k1t)))))) (fun c1 => have k1f := Eq.mp (if_neg c1) k; sm_in (sm_in (sm_in (Exists.intro 11 (And.intro (hG.1 123 (Nat.le_of_ble_eq_true rfl)) (And.intro rfl (sm_calln h1 (Nat.le_of_ble_eq_true rfl) (Nat.le_of_ble_eq_true rfl) k1f))))))))
set_option maxRecDepth 100000 in
theorem w_X11_behindSum_227 {ex : sm_O} {d n : Nat} {y : sm_Y} {I : Nat → Nat → Int32} {L : Nat → Nat → Int64} {R : Nat → Nat → Option Nat} {Q : sm_Q} {w1 : Option Value} {w2 : Option Value} {w3 : Option Value} {d1 : Nat} (hG : sm_G y R) (h1 : d1 < d) (k : if (I 123 19) = 0 then (sm_W ex d1 0 0 163 0 [some (.ref 123), some (.int 5)] [] (n, y, I, L, R) (fun r μ1 => sm_W ex d 0 0 172 239 [some (.ref 123), w1, w2, w3] (r.toList ++ []) μ1 Q)) else (sm_W ex d 0 0 172 245 [some (.ref 123), w1, w2, w3] [] (n, y, I, L, R) Q)) : sm_W ex d 0 0 172 227 [some (.ref 123), w1, w2, w3] [] (n, y, I, L, R) Q := sm_in (sm_in (And.intro (hG.1 123 (Nat.le_of_ble_eq_true rfl)) (sm_in (And.intro (fun c1 => have k1f := Eq.mp (if_neg c1) k; k1f) (fun c1 => have k1t := Eq.mp (if_pos c1) k; sm_in (sm_in (sm_in (Exists.intro 11 (And.intro (hG.1 123 (Nat.le_of_ble_eq_true rfl)) (And.intro rfl (sm_calln h1 (Nat.le_of_ble_eq_true rfl) (Nat.le_of_ble_eq_true rfl) k1t)))))))))))
set_option maxRecDepth 100000 in
theorem w_X11_behindSum_239 {ex : sm_O} {d n : Nat} {y : sm_Y} {I : Nat → Nat → Int32} {L : Nat → Nat → Int64} {R : Nat → Nat → Option Nat} {Q : sm_Q} {w1 : Option Value} {w3 : Option Value} {a2 : Int32} {d1 : Nat} (hG : sm_G y R) (h1 : d1 < d) (k : sm_W ex d1 0 0 161 0 [some (.ref 123), some (.int a2), some (.int 0)] [] (n, y, I, L, R) (fun r μ1 => sm_W ex d 0 0 172 245 [some (.ref 123), w1, some (.int a2), w3] (r.toList ++ []) μ1 Q)) : sm_W ex d 0 0 172 239 [some (.ref 123), w1, some (.int a2), w3] [] (n, y, I, L, R) Q := sm_in (sm_in (sm_in (sm_in (Exists.intro 11 (And.intro (hG.1 123 (Nat.le_of_ble_eq_true rfl)) (And.intro rfl (sm_calln h1 (Nat.le_of_ble_eq_true rfl) (Nat.le_of_ble_eq_true rfl) k)))))))
set_option maxRecDepth 100000 in
theorem w_X11_behindSum_245 {ex : sm_O} {d n : Nat} {y : sm_Y} {I : Nat → Nat → Int32} {L : Nat → Nat → Int64} {R : Nat → Nat → Option Nat} {Q : sm_Q} {w0 : Option Value} {w1 : Option Value} {w2 : Option Value} {w3 : Option Value} (k : Q (some (.int 1)) (n, y, I, L, R)) : sm_W ex d 0 0 172 245 [w0, w1, w2, w3] [] (n, y, I, L, R) Q := sm_in (sm_in (And.intro rfl k))
-- SUMS OF THE MODEL
theorem mX_settle {t : Tp} {o : Bool} {I I' : Nat → Nat → Int32} {L : Nat → Nat → Int64} {p pt len len' : Nat} {q B : Pl} {dep : Nat} (h : mX t o I L p pt len (q ++ B) dep) (f : mFs I I') (h23 : I' 123 23 = nI len') (h29 : I' 123 29 = nI B.length) (hp : mPl I' B) (hl : len' ≤ len + q.length) : mX t o I' L p pt len' B dep := by
  obtain ⟨s1, s2, s3, s4, s5, s6, s7, s8, s9, s10, s11, s12, s13⟩ := h
  rw [List.length_append] at s10
  exact ⟨mR_kept (fun j q1 q2 => f 123 j (by omega) (by decide) (by decide)) (fun j => f 132 j (by omega) (by decide) (by decide)) rfl s1, s2, (f 123 20 (by omega) (by decide) (by decide)).trans s3, (f 123 19 (by omega) (by decide) (by decide)).trans s4, (f 123 26 (by omega) (by decide) (by decide)).trans s5, h23, h29, hp, (f 123 30 (by omega) (by decide) (by decide)).trans s9, by omega, fun x hx => s11 x (List.mem_append_right _ hx), s12, s13⟩
theorem mX_push {t : Tp} {o : Bool} {I I' : Nat → Nat → Int32} {L : Nat → Nat → Int64} {p pt len op at_ : Nat} {B : Pl} {dep : Nat} (h : mX t o I L p pt len B dep) (f : ∀ c j, ¬ (c = 123 ∧ j = 29) → c ≠ 136 → c ≠ 137 → I' c j = I c j) (h29 : I' 123 29 = nI ((op, at_) :: B).length) (hp : mPl I' ((op, at_) :: B)) {q : Nat} (hb : len + B.length < q) (hv : vX (op, at_)) : mR t I' L p → (∀ (I2 : Nat → Nat → Int32) (L2 : Nat → Nat → Int64), mF1 I' I2 → mL1 L L2 → mR t I2 L2 q → mX t o I2 L2 q pt len ((op, at_) :: B) dep) := by
  intro _ I2 L2 f2 g2 r2
  obtain ⟨s1, s2, s3, s4, s5, s6, s7, s8, s9, s10, s11, s12, s13⟩ := h
  have e : ∀ j, ¬ (14 ≤ j ∧ j ≤ 16) → j ≠ 29 → I2 123 j = I 123 j := fun j q1 q2 => by rw [f2 123 j (by omega), f 123 j (by omega) (by decide) (by decide)]
  exact ⟨r2, g2.W s2, (e 20 (by omega) (by decide)).trans s3, (e 19 (by omega) (by decide)).trans s4, (e 26 (by omega) (by decide)).trans s5, (e 23 (by omega) (by decide)).trans s6, (f2 123 29 (by omega)).trans h29, mPl_kept _ (fun j _ => ⟨f2 136 j (by omega), f2 137 j (by omega)⟩) hp, (e 30 (by omega) (by decide)).trans s9, by simp only [List.length_cons]; omega, fun x hx => by
    rcases List.mem_cons.mp hx with hx | hx
    · rw [hx]; exact hv
    · exact s11 x hx, s12, s13⟩
theorem clo_len (q : Pl) (s : Cd × Nat) : s.2 ≤ (clo q s).2 ∧ (clo q s).2 ≤ s.2 + q.length := (clo_low (a := 0) q s (Nat.zero_le _) (fun _ _ _ => Nat.zero_le _)).2
theorem push_cd {I I' : Nat → Nat → Int32} (f : ∀ c j, ¬ (c = 123 ∧ j = 29) → c ≠ 136 → c ≠ 137 → I' c j = I c j) : cdO I' = cdO I := by
  funext k
  show (I' 134 k, I' 135 k) = (I 134 k, I 135 k)
  rw [f 134 k (by omega) (by decide) (by decide), f 135 k (by omega) (by decide) (by decide)]
def arO (t : Tp) (p : Nat) : Option Nat := match opAdd t p with
  | some st => some st
  | none => opMul t p
theorem m_arith {ex : sm_O} {n : Nat} {y : sm_Y} {I : Nat → Nat → Int32} {L : Nat → Nat → Int64} {R : Nat → Nat → Option Nat} {Q : sm_Q} {d p pt len dep lv st : Nat} {q B : Pl} {o : Bool} {t : Tp} {a1 : Int32} (hd : 4 ≤ d) (hG : sm_G y R) (hx : mX t o I L p pt len (q ++ B) dep) (hop : arO t p = some st) (hlv : bnd (st + 17) = lv) (hq : ∀ x ∈ q, lv ≤ bnd x.1) (hB : tB lv B)
    (k : ∀ (I' : Nat → Nat → Int32) (L' : Nat → Nat → Int64), mFx I I' → mL1 L L' → mX t o I' L' (nx t p) pt (clo q (cdO I, len)).2 ((st + 17, 0) :: B) dep → cdO I' = (clo q (cdO I, len)).1 → sm_W ex d 0 0 174 20 [some (.ref 123), some (.int a1), some (.int 1)] [] (n, y, I', L', R) Q) :
    sm_W ex d 0 0 174 20 [some (.ref 123), some (.int a1), some (.int 3)] [] (n, y, I, L, R) Q := by
  have hle := hx.le
  have hb6 := bnd_le (st + 17)
  obtain ⟨s1, s2, s3, s4, s5, s6, s7, s8, s9, s10, s11, s12, s13⟩ := id hx
  refine w_X11_readExpression_20 (d1 := 3) hG (by omega) ?_
  rw [s4, if_pos rfl, if_neg (by decide), if_neg (by decide), if_neg (by decide), if_pos rfl]
  generalize hQ' : (fun (r : Option Value) (μ1 : sm_Mem) => sm_W ex d 0 0 174 65 [some (.ref 123), some (.int a1), some (.int 3)] (r.toList ++ []) μ1 Q) = Q'
  have kQ : ∀ (I' : Nat → Nat → Int32) (L' : Nat → Nat → Int64), sm_W ex d 0 0 174 20 [some (.ref 123), some (.int a1), some (.int 1)] [] (n, y, I', L', R) Q → Q' (some (.int 1)) (n, y, I', L', R) := fun I' L' h => by
    rw [← hQ']
    exact w_X11_readExpression_65 (w_X11_readExpression_72 h)
  have tail : 3 ≤ st → st ≤ 7 → tkK t p = 3 → ∀ w3 : Option Value, sm_W ex 2 0 0 162 0 [some (.int (nI (st + 17)))] [] (n, y, I, L, R) (fun r μ1 => sm_W ex 3 0 0 172 82 [some (.ref 123), some (.int a1), some (.int (nI (st + 17))), w3] (r.toList ++ [.ref 123]) μ1 Q') := by
    intro h3 h7 hk w3
    have hlt := nx_lt (t := t) (p := p) (by omega)
    have hnb := (nx_b hle.1).2
    have hcl := clo_len q (cdO I, len)
    have s10' : len + (q.length + B.length) ≤ p := by rw [← List.length_append]; exact s10
    have hcl2 : (clo q (cdO I, len)).2 ≤ len + q.length := hcl.2
    refine m_binds (by omega) ?_
    refine w_X11_behindSum_82 (d1 := 2) hG (by omega) ?_
    rw [hlv]
    refine m_settle (q := q) (B := B) (by omega) hG (by omega) hB hq s11 s6 s7 s8 (by omega) ?_
    intro I1 f1 e1 e23 e29 p1
    have x1 := mX_settle hx f1 e23 e29 p1 hcl2
    refine w_X11_behindSum_85 (d1 := 2) hG (by omega) ?_
    refine m_push (op := st + 17) (at_ := 0) hG x1.2.2.2.2.2.2.1 x1.2.2.2.2.2.2.2.1 (by omega) ?_
    intro I2 f2 e29' p2
    have r2 : mR t I2 L p := mR_kept (fun j q1 q2 => f2 123 j (by omega) (by decide) (by decide)) (fun j => f2 132 j (by omega) (by decide) (by decide)) rfl x1.1
    refine w_X11_behindSum_91 (d1 := 2) hG (by omega) ?_
    refine m_next (by omega) hG r2 ?_
    intro I3 L3 f3 g3 r3
    refine w_X11_behindSum_95 (kQ I3 L3 ?_)
    refine k I3 L3 (fun a j q1 q2 => ?_) g3 (mX_push x1 f2 e29' p2 (by omega) ⟨by show 20 ≤ st + 17; omega, by show st + 17 ≤ 32; omega, by show 0 < 400; decide⟩ r2 I3 L3 f3 g3 r3) ?_
    · rw [f3 a j (by omega), f2 a j (by omega) (by omega) (by omega), f1.X a j q1 q2]
    · rw [f3.cd, push_cd f2, e1]
  refine w_X11_behindSum_0 (d1 := 2) hG (by omega) ?_
  unfold arO opAdd opMul at hop
  refine m_sign (c := 43) hG s1 (by decide) (fun n43 => ?_) (fun y43 => ?_)
  · rw [if_neg n43] at hop
    refine w_X11_behindSum_6 (d1 := 2) hG (by omega) ?_
    rw [if_pos rfl]
    refine m_sign (c := 45) hG s1 (by decide) (fun n45 => ?_) (fun y45 => ?_)
    · rw [if_neg n45] at hop
      dsimp only at hop
      refine w_X11_behindSum_20 (d1 := 2) hG (by omega) ?_
      rw [if_pos rfl]
      refine m_sign (c := 42) hG s1 (by decide) (fun n42 => ?_) (fun y42 => ?_)
      · rw [if_neg n42] at hop
        refine w_X11_behindSum_34 (d1 := 2) hG (by omega) ?_
        rw [if_pos rfl]
        refine m_sign (c := 47) hG s1 (by decide) (fun n47 => ?_) (fun y47 => ?_)
        · rw [if_neg n47] at hop
          refine w_X11_behindSum_48 (d1 := 2) hG (by omega) ?_
          rw [if_pos rfl]
          refine m_sign (c := 37) hG s1 (by decide) (fun n37 => ?_) (fun y37 => ?_)
          · rw [if_neg n37] at hop
            cases hop
          · rw [if_pos y37] at hop
            cases hop
            refine w_X11_behindSum_62 (d1 := 2) hG (by omega) ?_
            rw [if_neg (show ¬ (1 : Int32) = 0 by decide)]
            exact tail (by omega) (by omega) y37.1 _
        · rw [if_pos y47] at hop
          cases hop
          refine w_X11_behindSum_48 (d1 := 2) hG (by omega) ?_
          rw [if_neg (by decide)]
          exact tail (by omega) (by omega) y47.1 _
      · rw [if_pos y42] at hop
        cases hop
        refine w_X11_behindSum_34 (d1 := 2) hG (by omega) ?_
        rw [if_neg (by decide)]
        exact tail (by omega) (by omega) y42.1 _
    · rw [if_pos y45] at hop
      cases hop
      refine w_X11_behindSum_20 (d1 := 2) hG (by omega) ?_
      rw [if_neg (by decide)]
      exact tail (by omega) (by omega) y45.1 _
  · rw [if_pos y43] at hop
    cases hop
    refine w_X11_behindSum_6 (d1 := 2) hG (by omega) ?_
    rw [if_neg (by decide)]
    exact tail (by omega) (by omega) y43.1 _
/-- behind a sum: no sign that goes on -/
theorem m_bs {ex : sm_O} {n : Nat} {y : sm_Y} {I : Nat → Nat → Int32} {L : Nat → Nat → Int64} {R : Nat → Nat → Option Nat} {Q : sm_Q} {d p pt len dep : Nat} {B : Pl} {o : Bool} {t : Tp} {a1 : Int32} (hd : 4 ≤ d) (hG : sm_G y R) (hx : mX t o I L p pt len B dep) (hop : arO t p = none)
    (k : ∀ (Q' : sm_Q), (∀ (s : Int32) (I' : Nat → Nat → Int32) (L' : Nat → Nat → Int64), sm_W ex d 0 0 174 20 [some (.ref 123), some (.int a1), some (.int s)] [] (n, y, I', L', R) Q → Q' (some (.int s)) (n, y, I', L', R)) → sm_W ex 3 0 0 172 101 [some (.ref 123), some (.int a1), some (.int (-1)), none] [.int (inn B)] (n, y, I, L, R) Q') :
    sm_W ex d 0 0 174 20 [some (.ref 123), some (.int a1), some (.int 3)] [] (n, y, I, L, R) Q := by
  have hle := hx.le
  obtain ⟨s1, s2, s3, s4, s5, s6, s7, s8, s9, s10, s11, s12, s13⟩ := id hx
  refine w_X11_readExpression_20 (d1 := 3) hG (by omega) ?_
  rw [s4, if_pos rfl, if_neg (by decide), if_neg (by decide), if_neg (by decide), if_pos rfl]
  refine w_X11_behindSum_0 (d1 := 2) hG (by omega) ?_
  unfold arO opAdd opMul at hop
  refine m_sign (c := 43) hG s1 (by decide) (fun n43 => ?_) (fun y43 => by rw [if_pos y43] at hop; cases hop)
  rw [if_neg n43] at hop
  refine w_X11_behindSum_6 (d1 := 2) hG (by omega) ?_
  rw [if_pos rfl]
  refine m_sign (c := 45) hG s1 (by decide) (fun n45 => ?_) (fun y45 => by rw [if_pos y45] at hop; cases hop)
  rw [if_neg n45] at hop
  dsimp only at hop
  refine w_X11_behindSum_20 (d1 := 2) hG (by omega) ?_
  rw [if_pos rfl]
  refine m_sign (c := 42) hG s1 (by decide) (fun n42 => ?_) (fun y42 => by rw [if_pos y42] at hop; cases hop)
  rw [if_neg n42] at hop
  refine w_X11_behindSum_34 (d1 := 2) hG (by omega) ?_
  rw [if_pos rfl]
  refine m_sign (c := 47) hG s1 (by decide) (fun n47 => ?_) (fun y47 => by rw [if_pos y47] at hop; cases hop)
  rw [if_neg n47] at hop
  refine w_X11_behindSum_48 (d1 := 2) hG (by omega) ?_
  rw [if_pos rfl]
  refine m_sign (c := 37) hG s1 (by decide) (fun n37 => ?_) (fun y37 => by rw [if_pos y37] at hop; cases hop)
  refine w_X11_behindSum_62 (d1 := 2) hG (by omega) ?_
  rw [if_pos rfl, if_pos rfl]
  refine m_inner hG s7 s8 (by omega) s11 ?_
  exact k _ (fun s I' L' h => w_X11_readExpression_65 (w_X11_readExpression_72 h))
/-- the square bracket's end -/
theorem m_sq {ex : sm_O} {n : Nat} {y : sm_Y} {I : Nat → Nat → Int32} {L : Nat → Nat → Int64} {R : Nat → Nat → Option Nat} {Q : sm_Q} {d p pt len dep : Nat} {q B : Pl} {o : Bool} {t : Tp} {a1 : Int32} (hd : 4 ≤ d) (hG : sm_G y R) (hx : mX t o I L p pt len (q ++ (32, 0) :: B) (dep + 1)) (hop : arO t p = none) (hq : ∀ x ∈ q, 5 ≤ bnd x.1)
    (kf : ¬ isG t p 93 → sm_W ex d 0 0 174 20 [some (.ref 123), some (.int a1), some (.int 3)] [] (n, y, mBad p I, L, R) Q)
    (k : isG t p 93 → ∀ (I' : Nat → Nat → Int32) (L' : Nat → Nat → Int64), mFx I I' → mL1 L L' → mX t o I' L' (nx t p) pt (clo q (cdO I, len)).2 B dep → cdO I' = (clo q (cdO I, len)).1 → sm_W ex d 0 0 174 20 [some (.ref 123), some (.int a1), some (.int 3)] [] (n, y, I', L', R) Q) :
    sm_W ex d 0 0 174 20 [some (.ref 123), some (.int a1), some (.int 3)] [] (n, y, I, L, R) Q := by
  have hle := hx.le
  refine m_bs hd hG hx hop ?_
  intro Q' hQ
  have hi : inn (q ++ (32, 0) :: B) = 32 := inn_app q _ (fun x hx => Nat.le_trans (by decide) (hq x hx))
  rw [hi]
  have s10 := hx.2.2.2.2.2.2.2.2.2.1
  rw [List.length_append, List.length_cons] at s10
  refine w_X11_behindSum_101 (d1 := 2) hG (by omega) ?_
  rw [if_pos rfl]
  refine m_sign (c := 93) hG hx.1 (by decide) (fun hn => ?_) (fun hy => ?_)
  · refine w_X11_behindSum_115 (d1 := 2) hG (by omega) ?_
    refine m_must (Nat.le_refl 2) hG hx.1 hx.2.2.2.1 (fun _ => ?_) (fun z => absurd rfl z)
    refine w_X11_behindSum_118 (d1 := 2) hG (by omega) ?_
    rw [(hx.bad p).1, if_neg (by decide)]
    exact hQ _ _ _ (kf hn)
  · have hlt := isG_lt hy
    have hnb := (nx_b hle.1).2
    refine w_X11_behindSum_115 (d1 := 2) hG (by omega) ?_
    refine m_must (Nat.le_refl 2) hG hx.1 hx.2.2.2.1 (fun z => absurd z (by decide)) (fun _ I1 L1 f1 g1 r1 => ?_)
    have x1 := hx.nx f1 g1 (Nat.le_of_lt hlt.1) r1
    refine w_X11_behindSum_118 (d1 := 2) hG (by omega) ?_
    rw [x1.2.2.2.1, if_pos rfl]
    have hcl2 : (clo q (cdO I1, len)).2 ≤ len + q.length := (clo_len q (cdO I1, len)).2
    refine m_settle (lv := 5) (q := q) (B := (32, 0) :: B) (by omega) hG (by decide) (tB_cons (by decide)) hq x1.2.2.2.2.2.2.2.2.2.2.1 x1.2.2.2.2.2.1 x1.2.2.2.2.2.2.1 x1.2.2.2.2.2.2.2.1 (by rw [List.length_append, List.length_cons]; omega) ?_
    intro I2 f2 e2 e23 e29 p2
    have x2 := mX_settle x1 f2 e23 e29 p2 hcl2
    refine w_X11_behindSum_130 hG ?_
    obtain ⟨z1, z2, z3, z4, z5, z6, z7, z8, z9, z10, z11, z12, z13⟩ := x2
    have h29 : I2 123 29 - 1 = nI B.length := by rw [z7, sm_sub1]; exact pk_m1 B.length
    have h30 : I2 123 30 - 1 = nI dep := by rw [z9, sm_sub1]; exact pk_m1 dep
    rw [h29, h30]
    refine hQ _ _ _ (k hy _ L1 (fun a j q1 q2 => ?_) g1 ?_ ?_)
    · rw [sm_st_or _ _ (by omega), sm_st_or _ _ (by omega), f2.X a j q1 q2, f1.X a j q1 q2]
    · have e : ∀ a j, ¬ (a = 123 ∧ (j = 29 ∨ j = 30)) → sm_st (sm_st I2 123 29 (nI B.length)) 123 30 (nI dep) a j = I2 a j := fun a j h => by rw [sm_st_or _ _ (by omega), sm_st_or _ _ (by omega)]
      simp only [List.length_cons] at z10
      rw [← f1.cd]
      exact ⟨mR_kept (fun j q1 q2 => e 123 j (by omega)) (fun j => e 132 j (by omega)) rfl z1, z2, (e _ _ (by omega)).trans z3, (e _ _ (by omega)).trans z4, (e _ _ (by omega)).trans z5, (e _ _ (by omega)).trans z6, by rw [sm_st_j _ _ (by decide), sm_st_s], mPl_kept B (fun j _ => ⟨e _ _ (by omega), e _ _ (by omega)⟩) z8.2.2, sm_st_s _ _ _ _, by omega, fun x hx => z11 x (List.mem_cons_of_mem _ hx), z12, by omega⟩
    · have : cdO (sm_st (sm_st I2 123 29 (nI B.length)) 123 30 (nI dep)) = cdO I2 := by
        funext i
        show (sm_st (sm_st I2 123 29 (nI B.length)) 123 30 (nI dep) 134 i, sm_st (sm_st I2 123 29 (nI B.length)) 123 30 (nI dep) 135 i) = (I2 134 i, I2 135 i)
        rw [sm_st_o _ _ (by decide), sm_st_o _ _ (by decide), sm_st_o _ _ (by decide), sm_st_o _ _ (by decide)]
      rw [this, e2, f1.cd]
def mOkS (ex : sm_O) (t : Tp) (o : Bool) (d : Nat) (a1 : Int32) (dep lvl : Nat) (fin : Nat → Prop) (rd : Nat → Nat → Rr) : Prop := ∀ (n : Nat) (y : sm_Y) (I : Nat → Nat → Int32) (L : Nat → Nat → Int64) (R : Nat → Nat → Option Nat) (Q : sm_Q) (p pt len : Nat) (B : Pl) (st : Int32), sm_G y R → mX t o I L p pt len B dep → tB lvl B → (st = 1 ∨ st = 0 ∧ ¬ tkWd t p = wdNot ∧ ¬ isG t p 40) →
  (∀ (I' : Nat → Nat → Int32) (L' : Nat → Nat → Int64) (q : Nat) (u : Int32), rd p pt = .inl q → mFx I I' → mL1 L L' → mY q I' → sm_W ex d 0 0 174 20 [some (.ref 123), some (.int a1), some (.int u)] [] (n, y, I', L', R) Q) →
  (∀ (I' : Nat → Nat → Int32) (L' : Nat → Nat → Int64) (q pt' : Nat) (D : DD) (len' : Nat) (qs : Pl), rd p pt = .inr (q, pt', D) → mFx I I' → mL1 L L' → mX t o I' L' q pt' len' (qs ++ B) dep → fin q → (∀ x ∈ qs, lvl ≤ bnd x.1 ∧ oX len x) → (∀ k, k < len → cdO I' k = cdO I k) → len ≤ len' → mSX (wdO o) (clo qs (cdO I', len')).1 len (clo qs (cdO I', len')).2 D → sm_W ex d 0 0 174 20 [some (.ref 123), some (.int a1), some (.int 3)] [] (n, y, I', L', R) Q) →
  sm_W ex d 0 0 174 20 [some (.ref 123), some (.int a1), some (.int st)] [] (n, y, I, L, R) Q
theorem qs_nil {qs : Pl} {len : Nat} (h : ∀ x ∈ qs, 7 ≤ bnd x.1 ∧ oX len x) : qs = [] := by
  cases qs with
  | nil => rfl
  | cons x r =>
    have := (h x List.mem_cons_self).1
    have := bnd_le x.1
    omega
theorem mOkS_part {ex : sm_O} {t : Tp} {o : Bool} {d dep : Nat} {a1 : Int32} {inn : Option (Nat → Nat → Rr)} (hd : 6 ≤ d) (hi : match inn with
    | none => dep = 8
    | some f => dep < 8 ∧ mOkS ex t o d a1 (dep + 1) 5 (fun q => arO t q = none) f) : mOkS ex t o d a1 dep 7 (fun _ => True) (rPart t o inn) := by
  intro n y I L R Q p pt len B st hG hx hB hst kf kk
  refine m_enter hd hG hx hst ?_
  intro dd Q' hdd hQ
  refine m_readPart (by omega) hG hx (fun I' L' hy h8 f g x ecd => ?_) (fun hy h8 => ?_) (fun I' L' q hn e f g hY => ?_) (fun I' L' q pt' D hn e f g x agr sg => ?_)
  · cases inn with
    | none => exact absurd (show dep = 8 from hi) (by omega)
    | some ff =>
      obtain ⟨_, hf⟩ := hi
      have hr : rPart t o (some ff) p pt = rIn t 93 ff p pt := by unfold rPart; rw [if_pos hy]
      rw [hr] at kf kk
      refine hQ _ _ _ (hf n y I' L' R Q (nx t p) pt len ((32, 0) :: B) 1 hG x (tB_cons (by decide)) (Or.inl rfl) (fun I2 L2 q u e f2 g2 hY => ?_) (fun I2 L2 q pt' D len' qs e f2 g2 x2 fin hqs agr hll sg => ?_))
      · refine kf I2 L2 q u ?_ (f.trans f2) (g.trans g2) hY
        unfold rIn
        rw [e]
      · refine m_sq (q := qs) (B := B) (by omega) hG x2 fin (fun x hx => (hqs x hx).1) (fun hn => ?_) (fun hy2 I3 L3 f3 g3 x3 ecd3 => ?_)
        · refine kf _ _ q 3 ?_ ((f.trans f2).trans (mBad_X q I2)) (g.trans g2) (x2.bad q)
          unfold rIn
          rw [e]
          exact if_neg hn
        · have hlow := clo_low qs (cdO I2, len') hll (fun x hx => (hqs x hx).2)
          refine kk I3 L3 (nx t q) pt' D _ [] ?_ ((f.trans f2).trans f3) ((g.trans g2).trans g3) x3 trivial (fun x hx => by cases hx) (fun k hk => ?_) (Nat.le_trans hll hlow.2.1) ?_
          · unfold rIn
            rw [e]
            exact if_pos hy2
          · exact ((congrFun ecd3 k).trans (hlow.1 k hk)).trans ((agr k hk).trans (congrFun ecd k))
          · show mSX (wdO o) (cdO I3) len _ D
            rw [ecd3]
            exact sg
  · cases inn with
    | none =>
      refine hQ _ _ _ (kf _ _ p 1 ?_ (mBad_X p I) (mL1.rfl' L) (hx.bad p))
      unfold rPart
      rw [if_pos hy]
    | some ff => exact absurd hi.1 h8
  · have hr : rPart t o inn p pt = rLeaf t o p pt := by unfold rPart; rw [if_neg hn]
    exact hQ _ _ _ (kf I' L' q 3 (hr.trans e) f g hY)
  · have hr : rPart t o inn p pt = rLeaf t o p pt := by unfold rPart; rw [if_neg hn]
    exact hQ _ _ _ (kk I' L' q pt' D (len + 1) [] (hr.trans e) f g x trivial (fun x hx => by cases hx) agr (by omega) sg)
/-- an operator and its right side behind what is closed -/
theorem mSX_bin {wd : (Int32 → Int32 → Int64) → Nat → Int} {cd0 cd : Cd} {a b len st : Nat} {qs : Pl} {A B : DD} (hA : mSX wd cd0 a b A) (hB : mSX wd (clo qs (cd, len)).1 b (clo qs (cd, len)).2 B) (hlow : ∀ k, k < b → cd k = cd0 k) (hbl : b ≤ len) (hq : ∀ x ∈ qs, oX b x) (hs : 3 ≤ st ∧ st ≤ 10) : mSX wd (clo (qs ++ [(st + 17, 0)]) (cd, len)).1 a (clo (qs ++ [(st + 17, 0)]) (cd, len)).2 (dBin st A B) := by
  have hl := clo_low qs (cd, len) hbl hq
  rw [clo_app]
  have ep : clo [(st + 17, 0)] (clo qs (cd, len)) = (cdW (clo qs (cd, len)).1 (clo qs (cd, len)).2 (nI (st + 17), 0), (clo qs (cd, len)).2 + 1) := by
    show popX (st + 17, 0) (clo qs (cd, len)) = _
    unfold popX
    rw [if_neg (by show ¬ (st + 17 = 29 ∨ st + 17 = 30); omega)]
  rw [ep]
  have hll := hB.le
  refine ms_bin (b := b) (ar := 0) (hA.mono (fun k q1 q2 => ?_)) (hB.mono (fun k q1 q2 => ?_)) hs ?_
  · show (if k = _ then _ else _) = _
    rw [if_neg (by omega)]
    exact (hl.1 k q2).trans (hlow k q2)
  · show (if k = _ then _ else _) = _
    rw [if_neg (by omega)]
  · exact if_pos rfl
set_option maxHeartbeats 1000000 in
theorem mOkS_seq {ex : sm_O} {t : Tp} {o : Bool} {d dep lv : Nat} {a1 : Int32} {op : Nat → Option Nat} {fin : Nat → Prop} {sub : Nat → Nat → Rr} (hd : 6 ≤ d) (hlv : 1 ≤ lv) (hop : ∀ p st, op p = some st → fin p → arO t p = some st ∧ bnd (st + 17) = lv ∧ 3 ≤ st ∧ st ≤ 7 ∧ tkK t p = 3) (hB : rB t sub) (hsub : mOkS ex t o d a1 dep (lv + 1) fin sub) : mOkS ex t o d a1 dep lv (fun q => op q = none ∧ fin q) (rSeq t op sub) := by
  intro n y I0 L0 R Q p0 pt0 len0 B st0 hG hx0 htB hst kf kk
  -- the loop
  have lp : ∀ (f : Nat) (I : Nat → Nat → Int32) (L : Nat → Nat → Int64) (p pt len : Nat) (D : DD) (qs : Pl), 400 ≤ p + f → rSeq t op sub p0 pt0 = rLoop t op sub f p pt D → mFx I0 I → mL1 L0 L → mX t o I L p pt len (qs ++ B) dep → fin p → (∀ x ∈ qs, lv ≤ bnd x.1 ∧ oX len0 x) → (∀ k, k < len0 → cdO I k = cdO I0 k) → len0 ≤ len → mSX (wdO o) (clo qs (cdO I, len)).1 len0 (clo qs (cdO I, len)).2 D → sm_W ex d 0 0 174 20 [some (.ref 123), some (.int a1), some (.int 3)] [] (n, y, I, L, R) Q := by
    intro f
    induction f with
    | zero =>
      intro I L p pt len D qs hf hr fI gL hx hfin hqs agr hll sg
      have hle := hx.le
      have ho : op p = none := by
        cases e : op p with
        | none => rfl
        | some st =>
          have := (hop p st e hfin).2.2.2.2
          have h0 : tkK t p = 0 := tkK_0.mpr (by omega)
          omega
      exact kk I L p pt D len qs hr fI gL hx ⟨ho, hfin⟩ hqs agr hll sg
    | succ f ih =>
      intro I L p pt len D qs hf hr fI gL hx hfin hqs agr hll sg
      have hle := hx.le
      have hrl : rLoop t op sub (f + 1) p pt D = match op p with
        | none => .inr (p, pt, D)
        | some st => match sub (nx t p) pt with
          | .inl q => .inl q
          | .inr (q, pt', D') => rLoop t op sub f q pt' (dCo st D D') := rfl
      cases e : op p with
      | none =>
        rw [e] at hrl
        exact kk I L p pt D len qs (hr.trans hrl) fI gL hx ⟨e, hfin⟩ hqs agr hll sg
      | some st =>
        rw [e] at hrl
        obtain ⟨ha, hb, h3, h7, hk3⟩ := hop p st e hfin
        have hlt := nx_lt (t := t) (p := p) (by omega)
        have hnb := nx_b hle.1
        have hlow := clo_low qs (cdO I, len) hll (fun x hx => (hqs x hx).2)
        refine m_arith (q := qs) (B := B) (by omega) hG hx ha hb (fun x hx => (hqs x hx).1) htB ?_
        intro I1 L1 f1 g1 x1 ecd1
        have sg1 : mSX (wdO o) (cdO I1) len0 (clo qs (cdO I, len)).2 D := by rw [ecd1]; exact sg
        have agr1 : ∀ k, k < len0 → cdO I1 k = cdO I0 k := fun k hk => (congrFun ecd1 k).trans ((hlow.1 k hk).trans (agr k hk))
        have hl1 : len0 ≤ (clo qs (cdO I, len)).2 := Nat.le_trans hll hlow.2.1
        generalize (clo qs (cdO I, len)).2 = len1 at *
        have hbB := hB (nx t p) pt hnb.2
        refine hsub n y I1 L1 R Q (nx t p) pt len1 ((st + 17, 0) :: B) 1 hG x1 (tB_cons (by show bnd (st + 17) < lv + 1; omega)) (Or.inl rfl) (fun I2 L2 q u e2 f2 g2 hY => ?_) (fun I2 L2 q pt' D' len' qs2 e2 f2 g2 x2 fin2 hqs2 agr2 hll2 sg2 => ?_)
        · refine kf I2 L2 q u ?_ ((fI.trans f1).trans f2) ((gL.trans g1).trans g2) hY
          rw [hr, hrl, e2]
        · have hqq := hbB.2 q pt' D' e2
          have hco : dCo st D D' = dBin st D D' := dCo_bin ⟨h3, by omega⟩ D D'
          refine ih I2 L2 q pt' len' (dBin st D D') (qs2 ++ [(st + 17, 0)]) (by omega) ?_ ((fI.trans f1).trans f2) ((gL.trans g1).trans g2) (by rw [List.append_assoc]; exact x2) fin2 (fun x hx => ?_) (fun k hk => by rw [agr2 k (by omega)]; exact agr1 k hk) (by omega) ?_
          · rw [hr, hrl, e2, ← hco]
          · rcases List.mem_append.mp hx with hx | hx
            · have h1 := hqs2 x hx
              exact ⟨by omega, fun z => Nat.le_trans hl1 (h1.2 z)⟩
            · rw [List.mem_singleton] at hx
              rw [hx]
              exact ⟨by show lv ≤ bnd (st + 17); omega, fun z => by have z : st + 17 = 29 ∨ st + 17 = 30 := z; omega⟩
          · exact mSX_bin sg1 sg2 agr2 hll2 (fun x hx => (hqs2 x hx).2) ⟨h3, by omega⟩
  refine hsub n y I0 L0 R Q p0 pt0 len0 B st0 hG hx0 (htB.mono (by omega)) hst (fun I2 L2 q u e2 f2 g2 hY => ?_) (fun I2 L2 q pt' D' len' qs2 e2 f2 g2 x2 fin2 hqs2 agr2 hll2 sg2 => ?_)
  · refine kf I2 L2 q u ?_ f2 g2 hY
    unfold rSeq
    rw [e2]
  · refine lp 400 I2 L2 q pt' len' D' qs2 (by omega) ?_ f2 g2 x2 fin2 (fun x hx => ⟨by have := (hqs2 x hx).1; omega, (hqs2 x hx).2⟩) agr2 hll2 sg2
    unfold rSeq
    rw [e2]
theorem mOkS_mono {ex : sm_O} {t : Tp} {o : Bool} {d dep lv : Nat} {a1 : Int32} {fin fin' : Nat → Prop} {rd : Nat → Nat → Rr} (h : mOkS ex t o d a1 dep lv fin rd) (hf : ∀ q, fin q → fin' q) : mOkS ex t o d a1 dep lv fin' rd := fun n y I L R Q p pt len B st hG hx hB hst kf kk => h n y I L R Q p pt len B st hG hx hB hst kf (fun I' L' q pt' D len' qs e f g x fn hqs agr hll sg => kk I' L' q pt' D len' qs e f g x (hf q fn) hqs agr hll sg)
theorem opMul_ar {t : Tp} {p st : Nat} (h : opMul t p = some st) : arO t p = some st ∧ bnd (st + 17) = 6 ∧ 3 ≤ st ∧ st ≤ 7 ∧ tkK t p = 3 := by
  have hs := opMul_st h
  have ha : opAdd t p = none := by
    unfold opMul at h
    unfold opAdd
    have : t.2 p = 42 ∨ t.2 p = 47 ∨ t.2 p = 37 := by
      split at h
      · rename_i e; exact Or.inl e.2
      · split at h
        · rename_i e; exact Or.inr (Or.inl e.2)
        · split at h
          · rename_i e; exact Or.inr (Or.inr e.2)
          · cases h
    rw [if_neg (fun z => by have := z.2; omega), if_neg (fun z => by have := z.2; omega)]
  have hst : st = 5 ∨ st = 6 ∨ st = 7 := by
    unfold opMul at h
    split at h
    · cases h; exact Or.inl rfl
    · split at h
      · cases h; exact Or.inr (Or.inl rfl)
      · split at h
        · cases h; exact Or.inr (Or.inr rfl)
        · cases h
  refine ⟨by unfold arO; rw [ha]; exact h, ?_, hs.1, by omega, hs.2.2⟩
  rcases hst with rfl | rfl | rfl <;> rfl
theorem opAdd_ar {t : Tp} {p st : Nat} (h : opAdd t p = some st) : arO t p = some st ∧ bnd (st + 17) = 5 ∧ 3 ≤ st ∧ st ≤ 7 ∧ tkK t p = 3 := by
  have hs := opAdd_st h
  have hst : st = 3 ∨ st = 4 := by
    unfold opAdd at h
    split at h
    · cases h; exact Or.inl rfl
    · split at h
      · cases h; exact Or.inr rfl
      · cases h
  refine ⟨by unfold arO; rw [h], ?_, hs.1, by omega, hs.2.2⟩
  rcases hst with rfl | rfl <;> rfl
theorem mOkS_level {ex : sm_O} {t : Tp} {o : Bool} {d dep : Nat} {a1 : Int32} {inn : Option (Nat → Nat → Rr)} (hd : 6 ≤ d) (hi : match inn with
    | none => dep = 8
    | some f => dep < 8 ∧ mOkS ex t o d a1 (dep + 1) 5 (fun q => arO t q = none) f) (hbi : ∀ f, inn = some f → rB t f) : mOkS ex t o d a1 dep 5 (fun q => arO t q = none) (rSeq t (opAdd t) (rSeq t (opMul t) (rPart t o inn))) := by
  have h1 := mOkS_seq (lv := 6) (op := opMul t) hd (by decide) (fun p st h _ => opMul_ar h) (rB_part hbi) (mOkS_part (a1 := a1) hd hi)
  have h2 := mOkS_seq (lv := 5) (op := opAdd t) hd (by decide) (fun p st h _ => opAdd_ar h) (rB_seq (rB_part hbi)) h1
  refine mOkS_mono h2 (fun q hq => ?_)
  unfold arO
  rw [hq.1]
  exact hq.2.1
theorem mOkS_all {ex : sm_O} {t : Tp} {o : Bool} {d : Nat} {a1 : Int32} (hd : 6 ≤ d) : ∀ r, r ≤ 8 → mOkS ex t o d a1 (8 - r) 5 (fun q => arO t q = none) (rSum t o r)
  | 0, _ => mOkS_level (inn := none) hd rfl (fun f h => by cases h)
  | r + 1, h => by
    have ih := mOkS_all (ex := ex) (t := t) (o := o) (a1 := a1) hd r (by omega)
    rw [show 8 - r = 8 - (r + 1) + 1 by omega] at ih
    exact mOkS_level (inn := some (rSum t o r)) hd ⟨by omega, ih⟩ (fun f h => by cases h; exact rB_sum t o r)

