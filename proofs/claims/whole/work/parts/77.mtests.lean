set_option maxRecDepth 100000 in
theorem w_X11_behindTest_0 {ex : sm_O} {d n : Nat} {y : sm_Y} {I : Nat → Nat → Int32} {L : Nat → Nat → Int64} {R : Nat → Nat → Option Nat} {Q : sm_Q} {w1 : Option Value} {d1 : Nat} (hG : sm_G y R) (h1 : d1 < d) (k : sm_W ex d1 0 0 155 0 [some (.ref 123), some (.long 1476), none] [] (n, y, I, L, R) (fun r μ1 => sm_W ex d 0 0 173 7 [some (.ref 123), w1] (r.toList ++ []) μ1 Q)) : sm_W ex d 0 0 173 0 [some (.ref 123), w1] [] (n, y, I, L, R) Q := sm_in (sm_in (sm_in (Exists.intro 11 (And.intro (hG.1 123 (Nat.le_of_ble_eq_true rfl)) (And.intro rfl (sm_calln h1 (Nat.le_of_ble_eq_true rfl) (Nat.le_of_ble_eq_true rfl) k))))))
set_option maxRecDepth 100000 in
theorem w_X11_behindTest_7 {ex : sm_O} {d n : Nat} {y : sm_Y} {I : Nat → Nat → Int32} {L : Nat → Nat → Int64} {R : Nat → Nat → Option Nat} {Q : sm_Q} {w1 : Option Value} {s0 : Int32} {d1 : Nat} (hG : sm_G y R) (h1 : d1 < d) (k : if s0 = 0 then (sm_W ex d1 0 0 155 0 [some (.ref 123), some (.long 498), none] [] (n, y, I, L, R) (fun r μ1 => sm_W ex d 0 0 173 19 [some (.ref 123), some (.int s0)] (r.toList ++ []) μ1 Q)) else (sm_W ex d1 0 0 163 0 [some (.ref 123), some (.int 2)] [] (n, y, I, L, R) (fun r μ1 => sm_W ex d 0 0 173 35 [some (.ref 123), some (.int s0)] (r.toList ++ []) μ1 Q))) : sm_W ex d 0 0 173 7 [some (.ref 123), w1] [.int s0] (n, y, I, L, R) Q := sm_in (And.intro (Nat.le_of_ble_eq_true rfl) (sm_in (sm_in (And.intro (fun c1 => have k1f := Eq.mp (if_neg c1) k; sm_in (sm_in (sm_in (And.intro (fun c => absurd c c1) (fun _ => sm_in (sm_in (sm_in (Exists.intro 11 (And.intro (hG.1 123 (Nat.le_of_ble_eq_true rfl)) (And.intro rfl (sm_calln h1 (Nat.le_of_ble_eq_true rfl) (Nat.le_of_ble_eq_true rfl) k1f))))))))))) (fun c1 => have k1t := Eq.mp (if_pos c1) k; sm_in (sm_in (sm_in (Exists.intro 11 (And.intro (hG.1 123 (Nat.le_of_ble_eq_true rfl)) (And.intro rfl (sm_calln h1 (Nat.le_of_ble_eq_true rfl) (Nat.le_of_ble_eq_true rfl) k1t)))))))))))
set_option maxRecDepth 100000 in
theorem w_X11_behindTest_19 {ex : sm_O} {d n : Nat} {y : sm_Y} {I : Nat → Nat → Int32} {L : Nat → Nat → Int64} {R : Nat → Nat → Option Nat} {Q : sm_Q} {a1 : Int32} {s0 : Int32} {d1 : Nat} (hG : sm_G y R) (h1 : d1 < d) (k : if s0 = 0 then (sm_W ex d1 0 0 164 0 [some (.ref 123), none, none] [] (n, y, I, L, R) (fun r μ1 => sm_W ex d 0 0 173 80 [some (.ref 123), some (.int a1)] (r.toList ++ []) μ1 Q)) else (if a1 = 0 then (sm_W ex d1 0 0 163 0 [some (.ref 123), some (.int 1)] [] (n, y, I, L, R) (fun r μ1 => sm_W ex d 0 0 173 35 [some (.ref 123), some (.int a1)] (r.toList ++ []) μ1 Q)) else (sm_W ex d1 0 0 163 0 [some (.ref 123), some (.int 2)] [] (n, y, I, L, R) (fun r μ1 => sm_W ex d 0 0 173 35 [some (.ref 123), some (.int a1)] (r.toList ++ []) μ1 Q)))) : sm_W ex d 0 0 173 19 [some (.ref 123), some (.int a1)] [.int s0] (n, y, I, L, R) Q := sm_in (And.intro (fun c1 => have k1t := Eq.mp (if_pos c1) k; sm_in (sm_in (Exists.intro 11 (And.intro (hG.1 123 (Nat.le_of_ble_eq_true rfl)) (And.intro rfl (sm_calln h1 (Nat.le_of_ble_eq_true rfl) (Nat.le_of_ble_eq_true rfl) k1t)))))) (fun c1 => have k1f := Eq.mp (if_neg c1) k; sm_in (sm_in (sm_in (And.intro (fun c2 => have k2t := Eq.mp (if_pos c2) k1f; sm_in (sm_in (Exists.intro 11 (And.intro (hG.1 123 (Nat.le_of_ble_eq_true rfl)) (And.intro rfl (sm_calln h1 (Nat.le_of_ble_eq_true rfl) (Nat.le_of_ble_eq_true rfl) k2t)))))) (fun c2 => have k2f := Eq.mp (if_neg c2) k1f; sm_in (sm_in (sm_in (Exists.intro 11 (And.intro (hG.1 123 (Nat.le_of_ble_eq_true rfl)) (And.intro rfl (sm_calln h1 (Nat.le_of_ble_eq_true rfl) (Nat.le_of_ble_eq_true rfl) k2f))))))))))))
set_option maxRecDepth 100000 in
theorem w_X11_behindTest_35 {ex : sm_O} {d n : Nat} {y : sm_Y} {I : Nat → Nat → Int32} {L : Nat → Nat → Int64} {R : Nat → Nat → Option Nat} {Q : sm_Q} {a1 : Int32} {d1 : Nat} (hG : sm_G y R) (h1 : d1 < d) (k : if a1 = 0 then (sm_W ex d1 0 0 161 0 [some (.ref 123), some (.int 30), some (.int (I 123 23))] [] (n, y, I, L, R) (fun r μ1 => sm_W ex d 0 0 173 54 [some (.ref 123), some (.int a1)] (r.toList ++ []) μ1 Q)) else (sm_W ex d1 0 0 161 0 [some (.ref 123), some (.int 29), some (.int (I 123 23))] [] (n, y, I, L, R) (fun r μ1 => sm_W ex d 0 0 173 54 [some (.ref 123), some (.int a1)] (r.toList ++ []) μ1 Q))) : sm_W ex d 0 0 173 35 [some (.ref 123), some (.int a1)] [] (n, y, I, L, R) Q := sm_in (sm_in (sm_in (And.intro (fun c1 => have k1t := Eq.mp (if_pos c1) k; sm_in (sm_in (sm_in (And.intro (hG.1 123 (Nat.le_of_ble_eq_true rfl)) (sm_in (Exists.intro 11 (And.intro (hG.1 123 (Nat.le_of_ble_eq_true rfl)) (And.intro rfl (sm_calln h1 (Nat.le_of_ble_eq_true rfl) (Nat.le_of_ble_eq_true rfl) k1t))))))))) (fun c1 => have k1f := Eq.mp (if_neg c1) k; sm_in (sm_in (sm_in (sm_in (And.intro (hG.1 123 (Nat.le_of_ble_eq_true rfl)) (sm_in (Exists.intro 11 (And.intro (hG.1 123 (Nat.le_of_ble_eq_true rfl)) (And.intro rfl (sm_calln h1 (Nat.le_of_ble_eq_true rfl) (Nat.le_of_ble_eq_true rfl) k1f)))))))))))))
set_option maxRecDepth 100000 in
theorem w_X11_behindTest_54 {ex : sm_O} {d n : Nat} {y : sm_Y} {I : Nat → Nat → Int32} {L : Nat → Nat → Int64} {R : Nat → Nat → Option Nat} {Q : sm_Q} {a1 : Int32} {d1 : Nat} (hG : sm_G y R) (h1 : d1 < d) (k : if a1 = 0 then (sm_W ex d1 0 0 160 0 [some (.ref 123), some (.int 30), some (.int 0)] [] (n, y, I, L, R) (fun r μ1 => sm_W ex d 0 0 173 70 [some (.ref 123), some (.int a1)] (r.toList ++ []) μ1 Q)) else (sm_W ex d1 0 0 160 0 [some (.ref 123), some (.int 29), some (.int 0)] [] (n, y, I, L, R) (fun r μ1 => sm_W ex d 0 0 173 70 [some (.ref 123), some (.int a1)] (r.toList ++ []) μ1 Q))) : sm_W ex d 0 0 173 54 [some (.ref 123), some (.int a1)] [] (n, y, I, L, R) Q := sm_in (sm_in (sm_in (And.intro (fun c1 => have k1t := Eq.mp (if_pos c1) k; sm_in (sm_in (sm_in (Exists.intro 11 (And.intro (hG.1 123 (Nat.le_of_ble_eq_true rfl)) (And.intro rfl (sm_calln h1 (Nat.le_of_ble_eq_true rfl) (Nat.le_of_ble_eq_true rfl) k1t))))))) (fun c1 => have k1f := Eq.mp (if_neg c1) k; sm_in (sm_in (sm_in (sm_in (Exists.intro 11 (And.intro (hG.1 123 (Nat.le_of_ble_eq_true rfl)) (And.intro rfl (sm_calln h1 (Nat.le_of_ble_eq_true rfl) (Nat.le_of_ble_eq_true rfl) k1f)))))))))))
set_option maxRecDepth 100000 in
theorem w_X11_behindTest_70 {ex : sm_O} {d n : Nat} {y : sm_Y} {I : Nat → Nat → Int32} {L : Nat → Nat → Int64} {R : Nat → Nat → Option Nat} {Q : sm_Q} {w1 : Option Value} {d1 : Nat} (hG : sm_G y R) (h1 : d1 < d) (k : sm_W ex d1 0 0 154 0 [some (.ref 123)] [] (n, y, I, L, R) (fun r μ1 => sm_W ex d 0 0 173 74 [some (.ref 123), w1] (r.toList ++ []) μ1 Q)) : sm_W ex d 0 0 173 70 [some (.ref 123), w1] [] (n, y, I, L, R) Q := sm_in (sm_in (Exists.intro 11 (And.intro (hG.1 123 (Nat.le_of_ble_eq_true rfl)) (And.intro rfl (sm_calln h1 (Nat.le_of_ble_eq_true rfl) (Nat.le_of_ble_eq_true rfl) k)))))
set_option maxRecDepth 100000 in
theorem w_X11_behindTest_74 {ex : sm_O} {d n : Nat} {y : sm_Y} {I : Nat → Nat → Int32} {L : Nat → Nat → Int64} {R : Nat → Nat → Option Nat} {Q : sm_Q} {w0 : Option Value} {w1 : Option Value} (k : Q (some (.int 0)) (n, y, I, L, R)) : sm_W ex d 0 0 173 74 [w0, w1] [] (n, y, I, L, R) Q := sm_in (sm_in (And.intro rfl k))
set_option maxRecDepth 100000 in
theorem w_X11_behindTest_80 {ex : sm_O} {d n : Nat} {y : sm_Y} {I : Nat → Nat → Int32} {L : Nat → Nat → Int64} {R : Nat → Nat → Option Nat} {Q : sm_Q} {w1 : Option Value} {s0 : Int32} {d1 : Nat} (hG : sm_G y R) (h1 : d1 < d) (k : if s0 = (-1) then (Q (some (.int 4)) (n, y, I, L, R)) else (sm_W ex d1 0 0 156 0 [some (.ref 123), some (.int 41)] [] (n, y, I, L, R) (fun r μ1 => sm_W ex d 0 0 173 93 [some (.ref 123), w1] (r.toList ++ [.ref 123]) μ1 Q))) : sm_W ex d 0 0 173 80 [some (.ref 123), w1] [.int s0] (n, y, I, L, R) Q := sm_in (sm_in (And.intro (fun c1 => have k1f := Eq.mp (if_neg c1) k; sm_in (sm_in (sm_in (sm_in (Exists.intro 11 (And.intro (hG.1 123 (Nat.le_of_ble_eq_true rfl)) (And.intro rfl (sm_calln h1 (Nat.le_of_ble_eq_true rfl) (Nat.le_of_ble_eq_true rfl) k1f)))))))) (fun c1 => have k1t := Eq.mp (if_pos c1) k; sm_in (sm_in (And.intro rfl k1t)))))
set_option maxRecDepth 100000 in
theorem w_X11_behindTest_93 {ex : sm_O} {d n : Nat} {y : sm_Y} {I : Nat → Nat → Int32} {L : Nat → Nat → Int64} {R : Nat → Nat → Option Nat} {Q : sm_Q} {w0 : Option Value} {w1 : Option Value} {s0 : Int32} {d1 : Nat} (hG : sm_G y R) (h1 : d1 < d) (k : sm_W ex d1 0 0 157 0 [some (.ref 123), some (.int s0)] [] (n, y, I, L, R) (fun r μ1 => sm_W ex d 0 0 173 96 [w0, w1] (r.toList ++ []) μ1 Q)) : sm_W ex d 0 0 173 93 [w0, w1] [.int s0, .ref 123] (n, y, I, L, R) Q := sm_in (Exists.intro 11 (And.intro (hG.1 123 (Nat.le_of_ble_eq_true rfl)) (And.intro rfl (sm_calln h1 (Nat.le_of_ble_eq_true rfl) (Nat.le_of_ble_eq_true rfl) k))))
set_option maxRecDepth 100000 in
theorem w_X11_behindTest_96 {ex : sm_O} {d n : Nat} {y : sm_Y} {I : Nat → Nat → Int32} {L : Nat → Nat → Int64} {R : Nat → Nat → Option Nat} {Q : sm_Q} {w1 : Option Value} {d1 : Nat} (hG : sm_G y R) (h1 : d1 < d) (k : if (I 123 19) = 0 then (sm_W ex d1 0 0 163 0 [some (.ref 123), some (.int 1)] [] (n, y, I, L, R) (fun r μ1 => sm_W ex d 0 0 173 108 [some (.ref 123), w1] (r.toList ++ []) μ1 Q)) else (Q (some (.int 2)) (n, y, I, L, R))) : sm_W ex d 0 0 173 96 [some (.ref 123), w1] [] (n, y, I, L, R) Q := sm_in (sm_in (And.intro (hG.1 123 (Nat.le_of_ble_eq_true rfl)) (sm_in (And.intro (fun c1 => have k1f := Eq.mp (if_neg c1) k; sm_in (sm_in (And.intro rfl k1f))) (fun c1 => have k1t := Eq.mp (if_pos c1) k; sm_in (sm_in (sm_in (Exists.intro 11 (And.intro (hG.1 123 (Nat.le_of_ble_eq_true rfl)) (And.intro rfl (sm_calln h1 (Nat.le_of_ble_eq_true rfl) (Nat.le_of_ble_eq_true rfl) k1t)))))))))))
set_option maxRecDepth 100000 in
theorem w_X11_behindTest_108 {ex : sm_O} {d n : Nat} {y : sm_Y} {I : Nat → Nat → Int32} {L : Nat → Nat → Int64} {R : Nat → Nat → Option Nat} {Q : sm_Q} {w1 : Option Value} (hG : sm_G y R) (k : Q (some (.int 2)) (n, y, sm_st (sm_st I 123 29 ((I 123 29) - 1)) 123 30 ((I 123 30) - 1), L, R)) : sm_W ex d 0 0 173 108 [some (.ref 123), w1] [] (n, y, I, L, R) Q := sm_in (sm_in (And.intro rfl (sm_in (And.intro (hG.1 123 (Nat.le_of_ble_eq_true rfl)) (sm_in (sm_in (sm_in (And.intro (hG.1 123 (Nat.le_of_ble_eq_true rfl)) (sm_in (sm_in (And.intro rfl (sm_in (And.intro (hG.1 123 (Nat.le_of_ble_eq_true rfl)) (sm_in (sm_in (sm_in (And.intro (hG.1 123 (Nat.le_of_ble_eq_true rfl)) (sm_in (sm_in (And.intro rfl k))))))))))))))))))))
-- TESTS OF THE MODEL
def iB (a1 : Int32) (B : Pl) : Prop := inn B = 31 ∨ (inn B = -1 ∧ ¬ a1 = 0)
theorem iB_app {a1 : Int32} {q B : Pl} (hq : ∀ x ∈ q, 1 ≤ bnd x.1) (h : iB a1 B) : iB a1 (q ++ B) := by
  unfold iB
  rw [inn_app q B hq]
  exact h
theorem bnd5 {op : Nat} (h : 5 ≤ bnd op) : op ≤ 24 := by
  unfold bnd at h
  split at h
  · omega
  · split at h
    · omega
    · split at h
      · omega
      · split at h
        · omega
        · split at h
          · omega
          · omega
theorem cmpd_app : ∀ (q B : Pl), (∀ x ∈ q, 5 ≤ bnd x.1 ∧ 20 ≤ x.1) → cmpd (q ++ B) = cmpd B
  | [], _, _ => rfl
  | x :: q, B, h => by
    have hx := h x List.mem_cons_self
    show (if 20 ≤ x.1 ∧ x.1 ≤ 24 then cmpd (q ++ B) else _) = _
    rw [if_pos ⟨hx.2, bnd5 hx.1⟩]
    exact cmpd_app q B (fun z hz => h z (List.mem_cons_of_mem _ hz))
theorem bnd3 {op : Nat} (h : bnd op < 4) : 28 ≤ op := by
  unfold bnd at h
  split at h
  · omega
  · split at h
    · omega
    · split at h
      · omega
      · split at h
        · omega
        · split at h
          · split at h <;> omega
          · omega
theorem cmpd_no {B : Pl} (h : tB 4 B) : cmpd B = false := by
  cases B with
  | nil => rfl
  | cons x r =>
    have := bnd3 (h x r rfl)
    show (if 20 ≤ x.1 ∧ x.1 ≤ 24 then cmpd r else decide (25 ≤ x.1 ∧ x.1 ≤ 27)) = false
    rw [if_neg (by omega), decide_eq_false (by omega)]
theorem m_101 {ex : sm_O} {n : Nat} {y : sm_Y} {I : Nat → Nat → Int32} {L : Nat → Nat → Int64} {R : Nat → Nat → Option Nat} {Q : sm_Q} {p pt len dep : Nat} {B : Pl} {o : Bool} {t : Tp} {a1 : Int32} {w3 : Option Value} (hG : sm_G y R) (hx : mX t o I L p pt len B dep) (hi : iB a1 B) (k : ∀ u3 : Option Value, sm_W ex 3 0 0 172 167 [some (.ref 123), some (.int a1), some (.int (-1)), u3] [.int (if cmpd B = true then 1 else 0)] (n, y, I, L, R) Q) : sm_W ex 3 0 0 172 101 [some (.ref 123), some (.int a1), some (.int (-1)), w3] [.int (inn B)] (n, y, I, L, R) Q := by
  have hle := hx.le
  refine w_X11_behindSum_101 (d1 := 2) hG (by omega) ?_
  have call : sm_W ex 2 0 0 165 0 [some (.ref 123), none] [] (n, y, I, L, R) (fun r μ1 => sm_W ex 3 0 0 172 167 [some (.ref 123), some (.int a1), some (.int (-1)), some (.int (inn B))] (r.toList ++ []) μ1 Q) := m_compared (by omega) hG B hx.2.2.2.2.2.2.1 hx.2.2.2.2.2.2.2.1 (by omega) hx.2.2.2.2.2.2.2.2.2.2.1 (k _)
  rcases hi with hi | ⟨hi, ha⟩
  · rw [if_neg (by rw [hi]; decide), if_neg (by rw [hi]; decide)]
    exact call
  · rw [if_neg (by rw [hi]; decide), if_pos hi, if_neg ha]
    exact call
theorem m_told {ex : sm_O} {n : Nat} {y : sm_Y} {I : Nat → Nat → Int32} {L : Nat → Nat → Int64} {R : Nat → Nat → Option Nat} {Q : sm_Q} {d p pt len dep : Nat} {B : Pl} {o : Bool} {t : Tp} {a1 : Int32} (hd : 4 ≤ d) (hG : sm_G y R) (hx : mX t o I L p pt len B dep) (hop : arO t p = none) (hi : iB a1 B) (hc : cmpd B = true) (k : sm_W ex d 0 0 174 20 [some (.ref 123), some (.int a1), some (.int 2)] [] (n, y, I, L, R) Q) :
    sm_W ex d 0 0 174 20 [some (.ref 123), some (.int a1), some (.int 3)] [] (n, y, I, L, R) Q := by
  refine m_bs hd hG hx hop ?_
  intro Q' hQ
  refine m_101 hG hx hi (fun u3 => ?_)
  refine w_X11_behindSum_167 (d1 := 2) hG (by omega) ?_
  rw [if_pos hc, if_neg (show ¬ (1 : Int32) = 0 by decide)]
  exact hQ _ _ _ k
theorem m_cmp {ex : sm_O} {n : Nat} {y : sm_Y} {I : Nat → Nat → Int32} {L : Nat → Nat → Int64} {R : Nat → Nat → Option Nat} {Q : sm_Q} {d p pt len dep : Nat} {q B : Pl} {o : Bool} {t : Tp} {a1 : Int32} (hd : 4 ≤ d) (hG : sm_G y R) (hx : mX t o I L p pt len (q ++ B) dep) (hop : arO t p = none) (hi : iB a1 (q ++ B)) (hc : cmpd (q ++ B) = false) (hq : ∀ x ∈ q, 5 ≤ bnd x.1) (hB : tB 5 B)
    (kf : opCmp t p = none → sm_W ex d 0 0 174 20 [some (.ref 123), some (.int a1), some (.int 1)] [] (n, y, mBad p I, L, R) Q)
    (k : ∀ st, opCmp t p = some st → ∀ (I' : Nat → Nat → Int32) (L' : Nat → Nat → Int64), mFx I I' → mL1 L L' → mX t o I' L' (nx t p) pt (clo q (cdO I, len)).2 ((st + 17, 0) :: B) dep → cdO I' = (clo q (cdO I, len)).1 → sm_W ex d 0 0 174 20 [some (.ref 123), some (.int a1), some (.int 1)] [] (n, y, I', L', R) Q) :
    sm_W ex d 0 0 174 20 [some (.ref 123), some (.int a1), some (.int 3)] [] (n, y, I, L, R) Q := by
  have hle := hx.le
  have s10 := hx.2.2.2.2.2.2.2.2.2.1
  rw [List.length_append] at s10
  refine m_bs hd hG hx hop ?_
  intro Q' hQ
  refine m_101 hG hx hi (fun u3 => ?_)
  refine w_X11_behindSum_167 (d1 := 2) hG (by omega) ?_
  rw [hc, if_neg (show ¬ false = true by decide), if_pos rfl]
  -- it is one
  have yes : ∀ (st : Nat) (u4 : Option Value), opCmp t p = some st → sm_W ex 2 0 0 157 0 [some (.ref 123), some (.int 1)] [] (n, y, I, L, R) (fun r μ1 => sm_W ex 3 0 0 172 227 [some (.ref 123), some (.int a1), some (.int (nI (st + 17))), u4] (r.toList ++ []) μ1 Q') := by
    intro st u4 e
    have hst := opCmp_st e
    have hlt := nx_lt (t := t) (p := p) (by omega)
    have hnb := (nx_b hle.1).2
    refine m_must (Nat.le_refl 2) hG hx.1 hx.2.2.2.1 (fun z => absurd z (by decide)) (fun _ I1 L1 f1 g1 r1 => ?_)
    have x1 := hx.nx f1 g1 (Nat.le_of_lt hlt) r1
    refine w_X11_behindSum_227 (d1 := 2) hG (by omega) ?_
    rw [x1.2.2.2.1, if_pos rfl]
    have hcl2 : (clo q (cdO I1, len)).2 ≤ len + q.length := (clo_len q (cdO I1, len)).2
    refine m_settle (lv := 5) (q := q) (B := B) (by omega) hG (by decide) hB hq x1.2.2.2.2.2.2.2.2.2.2.1 x1.2.2.2.2.2.1 x1.2.2.2.2.2.2.1 x1.2.2.2.2.2.2.2.1 (by rw [List.length_append]; omega) ?_
    intro I2 f2 e2 e23 e29 p2
    have x2 := mX_settle x1 f2 e23 e29 p2 hcl2
    refine w_X11_behindSum_239 (d1 := 2) hG (by omega) ?_
    refine m_push (op := st + 17) (at_ := 0) hG x2.2.2.2.2.2.2.1 x2.2.2.2.2.2.2.2.1 (by omega) ?_
    intro I3 f3 e29' p3
    refine w_X11_behindSum_245 (hQ _ _ _ ?_)
    have r3 : mR t I3 L1 (nx t p) := mR_kept (fun j q1 q2 => f3 123 j (by omega) (by decide) (by decide)) (fun j => f3 132 j (by omega) (by decide) (by decide)) rfl x2.1
    have x3 := mX_push x2 f3 e29' p3 (q := nx t p) (by omega) ⟨by show 20 ≤ st + 17; omega, by show st + 17 ≤ 32; omega, by show 0 < 400; decide⟩ r3 I3 L1 (fun _ _ _ => rfl) (fun _ _ _ => rfl) r3
    refine k st e I3 L1 (fun a j q1 q2 => ?_) g1 (by rw [← f1.cd]; exact x3) (by rw [push_cd f3, e2, f1.cd])
    rw [f3 a j (by omega) (by omega) (by omega), f2.X a j q1 q2, f1.X a j q1 q2]
  refine m_sign (c := 60) hG hx.1 (by decide) (fun n60 => ?_) (fun y60 => ?_)
  · refine w_X11_behindSum_178 (d1 := 2) hG (by omega) ?_
    rw [if_pos rfl]
    refine m_sign (c := 62) hG hx.1 (by decide) (fun n62 => ?_) (fun y62 => ?_)
    · refine w_X11_behindSum_192 (d1 := 2) hG (by omega) ?_
      rw [if_pos rfl]
      refine m_sign (c := 61) hG hx.1 (by decide) (fun n61 => ?_) (fun y61 => ?_)
      · refine w_X11_behindSum_216 (d1 := 2) hG (by omega) ?_
        rw [if_pos rfl]
        refine m_must (Nat.le_refl 2) hG hx.1 hx.2.2.2.1 (fun _ => ?_) (fun z => absurd rfl z)
        refine w_X11_behindSum_227 (d1 := 2) hG (by omega) ?_
        rw [(hx.bad p).1, if_neg (by decide)]
        refine w_X11_behindSum_245 (hQ _ _ _ (kf ?_))
        unfold opCmp
        rw [if_neg n60, if_neg n62, if_neg n61]
      · refine w_X11_behindSum_216 (d1 := 2) hG (by omega) ?_
        rw [if_neg (by decide)]
        refine yes 10 _ ?_
        unfold opCmp
        rw [if_neg n60, if_neg n62, if_pos y61]
    · refine w_X11_behindSum_192 (d1 := 2) hG (by omega) ?_
      rw [if_neg (by decide)]
      refine yes 9 _ ?_
      unfold opCmp
      rw [if_neg n60, if_pos y62]
  · refine w_X11_behindSum_178 (d1 := 2) hG (by omega) ?_
    rw [if_neg (by decide)]
    refine yes 8 _ ?_
    unfold opCmp
    rw [if_pos y60]
theorem m_turn2 {ex : sm_O} {n : Nat} {y : sm_Y} {I : Nat → Nat → Int32} {L : Nat → Nat → Int64} {R : Nat → Nat → Option Nat} {Q : sm_Q} {d p pt len dep : Nat} {B : Pl} {o : Bool} {t : Tp} {a1 : Int32} (hd : 4 ≤ d) (hG : sm_G y R) (hx : mX t o I L p pt len B dep)
    (k : ∀ (Q' : sm_Q), (∀ (s : Int32) (I' : Nat → Nat → Int32) (L' : Nat → Nat → Int64), sm_W ex d 0 0 174 20 [some (.ref 123), some (.int a1), some (.int s)] [] (n, y, I', L', R) Q → Q' (some (.int s)) (n, y, I', L', R)) → sm_W ex 3 0 0 173 0 [some (.ref 123), none] [] (n, y, I, L, R) Q') :
    sm_W ex d 0 0 174 20 [some (.ref 123), some (.int a1), some (.int 2)] [] (n, y, I, L, R) Q := by
  refine w_X11_readExpression_20 (d1 := 3) hG (by omega) ?_
  rw [hx.2.2.2.1, if_pos rfl, if_neg (by decide), if_neg (by decide), if_neg (by decide), if_neg (by decide)]
  exact k _ (fun s I' L' h => w_X11_readExpression_72 h)
def aoO (t : Tp) (p : Nat) : Option Nat := match opAnd t p with
  | some st => some st
  | none => opOr t p
theorem m_andor {ex : sm_O} {n : Nat} {y : sm_Y} {I : Nat → Nat → Int32} {L : Nat → Nat → Int64} {R : Nat → Nat → Option Nat} {Q : sm_Q} {d p pt len dep st : Nat} {q B : Pl} {o : Bool} {t : Tp} {a1 : Int32} (hd : 4 ≤ d) (hG : sm_G y R) (hx : mX t o I L p pt len (q ++ B) dep) (hop : aoO t p = some st) (hq : ∀ x ∈ q, st - 11 ≤ bnd x.1) (hB : tB (st - 11) B)
    (k : ∀ (I' : Nat → Nat → Int32) (L' : Nat → Nat → Int64), mFx I I' → mL1 L L' → mX t o I' L' (nx t p) pt ((clo q (cdO I, len)).2 + 1) ((42 - st, (clo q (cdO I, len)).2) :: B) dep → cdO I' = cdW (clo q (cdO I, len)).1 (clo q (cdO I, len)).2 (nI (42 - st), 0) → sm_W ex d 0 0 174 20 [some (.ref 123), some (.int a1), some (.int 0)] [] (n, y, I', L', R) Q) :
    sm_W ex d 0 0 174 20 [some (.ref 123), some (.int a1), some (.int 2)] [] (n, y, I, L, R) Q := by
  have hle := hx.le
  have s10 := hx.2.2.2.2.2.2.2.2.2.1
  rw [List.length_append] at s10
  refine m_turn2 hd hG hx ?_
  intro Q' hQ
  -- the rest
  have rest : ∀ (a : Int32), (st = 13 ∧ ¬ a = 0 ∧ tkWd t p = wdAnd) ∨ (st = 12 ∧ a = 0 ∧ tkWd t p = wdOr) → sm_W ex 2 0 0 163 0 [some (.ref 123), some (.int (nI (st - 11)))] [] (n, y, I, L, R) (fun r μ1 => sm_W ex 3 0 0 173 35 [some (.ref 123), some (.int a)] (r.toList ++ []) μ1 Q') := by
    intro a hst
    have hp2 : p + 2 ≤ nx t p := by
      rcases hst with ⟨_, _, e⟩ | ⟨_, _, e⟩
      · have := (tkW_k e (by decide)).2.2.1; have h2 : wdAnd.length = 3 := rfl; omega
      · exact (tkW_k e (by decide)).2.2.1
    have hnb := (nx_b hle.1).2
    have hst1 : st = 12 ∨ st = 13 := by rcases hst with h | h <;> omega
    have hcl2 : (clo q (cdO I, len)).2 ≤ len + q.length := (clo_len q (cdO I, len)).2
    refine m_settle (lv := st - 11) (q := q) (B := B) (by omega) hG (by omega) hB hq hx.2.2.2.2.2.2.2.2.2.2.1 hx.2.2.2.2.2.1 hx.2.2.2.2.2.2.1 hx.2.2.2.2.2.2.2.1 (by rw [List.length_append]; omega) ?_
    intro I2 f2 e2 e23 e29 p2
    have x2 := mX_settle hx f2 e23 e29 p2 hcl2
    generalize hcd : (clo q (cdO I, len)).1 = cd1 at *
    generalize (clo q (cdO I, len)).2 = len1 at *
    have psh : sm_W ex 2 0 0 161 0 [some (.ref 123), some (.int (nI (42 - st))), some (.int (nI len1))] [] (n, y, I2, L, R) (fun r μ1 => sm_W ex 3 0 0 173 54 [some (.ref 123), some (.int a)] (r.toList ++ []) μ1 Q') := by
      refine m_push (op := 42 - st) (at_ := len1) hG x2.2.2.2.2.2.2.1 x2.2.2.2.2.2.2.2.1 (by omega) ?_
      intro I3 f3 e29' p3
      have em : sm_W ex 2 0 0 160 0 [some (.ref 123), some (.int (nI (42 - st))), some (.int 0)] [] (n, y, I3, L, R) (fun r μ1 => sm_W ex 3 0 0 173 70 [some (.ref 123), some (.int a)] (r.toList ++ []) μ1 Q') := by
        refine m_emit (len := len1) hG ((f3 123 23 (by omega) (by decide) (by decide)).trans e23) (by omega) ?_
        intro I4 f4 e23' ecd4
        have r4 : mR t I4 L p := mR_kept (fun j q1 q2 => by rw [f4 123 j (by omega) (by decide) (by decide), f3 123 j (by omega) (by decide) (by decide)]) (fun j => by rw [f4 132 j (by omega) (by decide) (by decide), f3 132 j (by omega) (by decide) (by decide)]) rfl x2.1
        refine w_X11_behindTest_70 (d1 := 2) hG (by omega) ?_
        refine m_next (by omega) hG r4 ?_
        intro I5 L5 f5 g5 r5
        refine w_X11_behindTest_74 (hQ _ _ _ ?_)
        refine k I5 L5 (fun a j q1 q2 => ?_) g5 ?_ ?_
        · rw [f5 a j (by omega), f4 a j (by omega) (by omega) (by omega), f3 a j (by omega) (by omega) (by omega), f2.X a j q1 q2]
        · obtain ⟨z1, z2, z3, z4, z5, z6, z7, z8, z9, z10, z11, z12, z13⟩ := x2
          have e : ∀ j, ¬ (14 ≤ j ∧ j ≤ 16) → j ≠ 29 → j ≠ 23 → I5 123 j = I2 123 j := fun j q1 q2 q3 => by rw [f5 123 j (by omega), f4 123 j (by omega) (by decide) (by decide), f3 123 j (by omega) (by decide) (by decide)]
          exact ⟨r5, g5.W z2, (e 20 (by omega) (by decide) (by decide)).trans z3, (e 19 (by omega) (by decide) (by decide)).trans z4, (e 26 (by omega) (by decide) (by decide)).trans z5, (f5 123 23 (by omega)).trans e23', by rw [f5 123 29 (by omega), f4 123 29 (by omega) (by decide) (by decide)]; exact e29', mPl_kept _ (fun j _ => ⟨by rw [f5 136 j (by omega), f4 136 j (by omega) (by decide) (by decide)], by rw [f5 137 j (by omega), f4 137 j (by omega) (by decide) (by decide)]⟩) p3, (e 30 (by omega) (by decide) (by decide)).trans z9, by simp only [List.length_cons]; omega, fun x hx => by
            rcases List.mem_cons.mp hx with hx | hx
            · rw [hx]; exact ⟨by show 20 ≤ 42 - st; omega, by show 42 - st ≤ 32; omega, by show len1 < 400; omega⟩
            · exact z11 x hx, z12, z13⟩
        · rw [f5.cd, ecd4, push_cd f3, e2]
      refine w_X11_behindTest_54 (d1 := 2) hG (by omega) ?_
      rcases hst with ⟨rfl, ha, _⟩ | ⟨rfl, ha, _⟩
      · rw [if_neg ha]; exact em
      · rw [if_pos ha]; exact em
    refine w_X11_behindTest_35 (d1 := 2) hG (by omega) ?_
    rw [e23]
    rcases hst with ⟨rfl, ha, _⟩ | ⟨rfl, ha, _⟩
    · rw [if_neg ha]; exact psh
    · rw [if_pos ha]; exact psh
  unfold aoO opAnd opOr at hop
  refine w_X11_behindTest_0 (d1 := 2) hG (by omega) ?_
  refine m_word (w := wdAnd) hG hx.1 rfl wdNot_g.2.1 (fun na => ?_) (fun ya => ?_)
  · rw [if_neg na] at hop
    dsimp only at hop
    refine w_X11_behindTest_7 (d1 := 2) hG (by omega) ?_
    rw [if_pos rfl]
    refine m_word (w := wdOr) hG hx.1 rfl wdNot_g.2.2.1 (fun no => ?_) (fun yo => ?_)
    · rw [if_neg no] at hop
      cases hop
    · rw [if_pos yo] at hop
      cases hop
      refine w_X11_behindTest_19 (d1 := 2) hG (by omega) ?_
      rw [if_neg (show ¬ (1 : Int32) = 0 by decide), if_pos rfl]
      exact rest 0 (Or.inr ⟨rfl, rfl, yo⟩)
  · rw [if_pos ya] at hop
    cases hop
    refine w_X11_behindTest_7 (d1 := 2) hG (by omega) ?_
    rw [if_neg (by decide)]
    exact rest 1 (Or.inl ⟨rfl, by decide, ya⟩)
theorem m_80 {ex : sm_O} {n : Nat} {y : sm_Y} {I : Nat → Nat → Int32} {L : Nat → Nat → Int64} {R : Nat → Nat → Option Nat} {Q : sm_Q} {d p pt len dep : Nat} {B : Pl} {o : Bool} {t : Tp} {a1 : Int32} (hd : 4 ≤ d) (hG : sm_G y R) (hx : mX t o I L p pt len B dep) (hop : aoO t p = none)
    (k : ∀ (Q' : sm_Q), (∀ (s : Int32) (I' : Nat → Nat → Int32) (L' : Nat → Nat → Int64), sm_W ex d 0 0 174 20 [some (.ref 123), some (.int a1), some (.int s)] [] (n, y, I', L', R) Q → Q' (some (.int s)) (n, y, I', L', R)) → sm_W ex 3 0 0 173 80 [some (.ref 123), some (.int 0)] [.int (inn B)] (n, y, I, L, R) Q') :
    sm_W ex d 0 0 174 20 [some (.ref 123), some (.int a1), some (.int 2)] [] (n, y, I, L, R) Q := by
  have hle := hx.le
  refine m_turn2 hd hG hx ?_
  intro Q' hQ
  unfold aoO opAnd opOr at hop
  refine w_X11_behindTest_0 (d1 := 2) hG (by omega) ?_
  refine m_word (w := wdAnd) hG hx.1 rfl wdNot_g.2.1 (fun na => ?_) (fun ya => by rw [if_pos ya] at hop; cases hop)
  rw [if_neg na] at hop
  dsimp only at hop
  refine w_X11_behindTest_7 (d1 := 2) hG (by omega) ?_
  rw [if_pos rfl]
  refine m_word (w := wdOr) hG hx.1 rfl wdNot_g.2.2.1 (fun no => ?_) (fun yo => by rw [if_pos yo] at hop; cases hop)
  refine w_X11_behindTest_19 (d1 := 2) hG (by omega) ?_
  rw [if_pos rfl]
  exact m_inner hG hx.2.2.2.2.2.2.1 hx.2.2.2.2.2.2.2.1 (by omega) hx.2.2.2.2.2.2.2.2.2.2.1 (k Q' hQ)
/-- the round bracket's end -/
theorem m_rnd {ex : sm_O} {n : Nat} {y : sm_Y} {I : Nat → Nat → Int32} {L : Nat → Nat → Int64} {R : Nat → Nat → Option Nat} {Q : sm_Q} {d p pt len dep : Nat} {q B : Pl} {o : Bool} {t : Tp} {a1 : Int32} (hd : 4 ≤ d) (hG : sm_G y R) (hx : mX t o I L p pt len (q ++ (31, 0) :: B) (dep + 1)) (hop : aoO t p = none) (hq : ∀ x ∈ q, 1 ≤ bnd x.1)
    (kf : ¬ isG t p 41 → sm_W ex d 0 0 174 20 [some (.ref 123), some (.int a1), some (.int 2)] [] (n, y, mBad p I, L, R) Q)
    (k : isG t p 41 → ∀ (I' : Nat → Nat → Int32) (L' : Nat → Nat → Int64), mFx I I' → mL1 L L' → mX t o I' L' (nx t p) pt (clo q (cdO I, len)).2 B dep → cdO I' = (clo q (cdO I, len)).1 → sm_W ex d 0 0 174 20 [some (.ref 123), some (.int a1), some (.int 2)] [] (n, y, I', L', R) Q) :
    sm_W ex d 0 0 174 20 [some (.ref 123), some (.int a1), some (.int 2)] [] (n, y, I, L, R) Q := by
  have hle := hx.le
  refine m_80 hd hG hx hop ?_
  intro Q' hQ
  have hi : inn (q ++ (31, 0) :: B) = 31 := inn_app q _ hq
  rw [hi]
  have s10 := hx.2.2.2.2.2.2.2.2.2.1
  rw [List.length_append, List.length_cons] at s10
  refine w_X11_behindTest_80 (d1 := 2) hG (by omega) ?_
  rw [if_neg (by decide)]
  refine m_sign (c := 41) hG hx.1 (by decide) (fun hn => ?_) (fun hy => ?_)
  · refine w_X11_behindTest_93 (d1 := 2) hG (by omega) ?_
    refine m_must (Nat.le_refl 2) hG hx.1 hx.2.2.2.1 (fun _ => ?_) (fun z => absurd rfl z)
    refine w_X11_behindTest_96 (d1 := 2) hG (by omega) ?_
    rw [(hx.bad p).1, if_neg (by decide)]
    exact hQ _ _ _ (kf hn)
  · have hlt := isG_lt hy
    have hnb := (nx_b hle.1).2
    refine w_X11_behindTest_93 (d1 := 2) hG (by omega) ?_
    refine m_must (Nat.le_refl 2) hG hx.1 hx.2.2.2.1 (fun z => absurd z (by decide)) (fun _ I1 L1 f1 g1 r1 => ?_)
    have x1 := hx.nx f1 g1 (Nat.le_of_lt hlt.1) r1
    refine w_X11_behindTest_96 (d1 := 2) hG (by omega) ?_
    rw [x1.2.2.2.1, if_pos rfl]
    have hcl2 : (clo q (cdO I1, len)).2 ≤ len + q.length := (clo_len q (cdO I1, len)).2
    refine m_settle (lv := 1) (q := q) (B := (31, 0) :: B) (by omega) hG (by decide) (tB_cons (by decide)) hq x1.2.2.2.2.2.2.2.2.2.2.1 x1.2.2.2.2.2.1 x1.2.2.2.2.2.2.1 x1.2.2.2.2.2.2.2.1 (by rw [List.length_append, List.length_cons]; omega) ?_
    intro I2 f2 e2 e23 e29 p2
    have x2 := mX_settle x1 f2 e23 e29 p2 hcl2
    refine w_X11_behindTest_108 hG ?_
    obtain ⟨z1, z2, z3, z4, z5, z6, z7, z8, z9, z10, z11, z12, z13⟩ := x2
    have h29 : I2 123 29 - 1 = nI B.length := by rw [z7, sm_sub1]; exact pk_m1 B.length
    have h30 : I2 123 30 - 1 = nI dep := by rw [z9, sm_sub1]; exact pk_m1 dep
    rw [h29, h30]
    refine hQ _ _ _ (k hy _ L1 (fun a j q1 q2 => ?_) g1 ?_ ?_)
    · rw [sm_st_or _ _ (by omega), sm_st_or _ _ (by omega), f2.X a j q1 q2, f1.X a j q1 q2]
    · have e : ∀ a j, ¬ (a = 123 ∧ (j = 29 ∨ j = 30)) → sm_st (sm_st I2 123 29 (nI B.length)) 123 30 (nI dep) a j = I2 a j := fun a j h => by rw [sm_st_or _ _ (by omega), sm_st_or _ _ (by omega)]
      simp only [List.length_cons] at z10
      rw [← f1.cd]
      exact ⟨mR_kept (fun j q1 q2 => e 123 j (by omega)) (fun j => e 132 j (by omega)) rfl z1, z2, (e _ _ (by omega)).trans z3, (e _ _ (by omega)).trans z4, (e _ _ (by omega)).trans z5, (e _ _ (by omega)).trans z6, by rw [sm_st_j _ _ (by decide), sm_st_s], mPl_kept B (fun j _ => ⟨e _ _ (by omega), e _ _ (by omega)⟩) z8.2.2, sm_st_s _ _ _ _, by omega, fun x hx => z11 x (List.mem_cons_of_mem _ hx), z12, by omega⟩
    · have : cdO (sm_st (sm_st I2 123 29 (nI B.length)) 123 30 (nI dep)) = cdO I2 := by
        funext i
        show (sm_st (sm_st I2 123 29 (nI B.length)) 123 30 (nI dep) 134 i, sm_st (sm_st I2 123 29 (nI B.length)) 123 30 (nI dep) 135 i) = (I2 134 i, I2 135 i)
        rw [sm_st_o _ _ (by decide), sm_st_o _ _ (by decide), sm_st_o _ _ (by decide), sm_st_o _ _ (by decide)]
      rw [this, e2, f1.cd]
def mOkT (ex : sm_O) (t : Tp) (o : Bool) (d : Nat) (a1 : Int32) (dep lvl : Nat) (fin : Nat → Prop) (rd : Nat → Nat → Rr) : Prop := ∀ (n : Nat) (y : sm_Y) (I : Nat → Nat → Int32) (L : Nat → Nat → Int64) (R : Nat → Nat → Option Nat) (Q : sm_Q) (p pt len : Nat) (B : Pl), sm_G y R → mX t o I L p pt len B dep → tB lvl B → iB a1 B →
  (∀ (I' : Nat → Nat → Int32) (L' : Nat → Nat → Int64) (q : Nat) (u : Int32), rd p pt = .inl q → mFx I I' → mL1 L L' → mY q I' → sm_W ex d 0 0 174 20 [some (.ref 123), some (.int a1), some (.int u)] [] (n, y, I', L', R) Q) →
  (∀ (I' : Nat → Nat → Int32) (L' : Nat → Nat → Int64) (q pt' : Nat) (D : DD) (len' : Nat) (qs : Pl), rd p pt = .inr (q, pt', D) → mFx I I' → mL1 L L' → mX t o I' L' q pt' len' (qs ++ B) dep → fin q → (∀ x ∈ qs, lvl ≤ bnd x.1 ∧ oX len x) → (∀ k, k < len → cdO I' k = cdO I k) → len ≤ len' → mSX (wdO o) (clo qs (cdO I', len')).1 len (clo qs (cdO I', len')).2 D → sp_01 D → sm_W ex d 0 0 174 20 [some (.ref 123), some (.int a1), some (.int 2)] [] (n, y, I', L', R) Q) →
  sm_W ex d 0 0 174 20 [some (.ref 123), some (.int a1), some (.int 0)] [] (n, y, I, L, R) Q
theorem mSX_skip {wd : (Int32 → Int32 → Int64) → Nat → Int} {cd0 cd : Cd} {a b len st : Nat} {qs : Pl} {A B : DD} (hA : mSX wd cd0 a b A) (a01 : sp_01 A) (hB : mSX wd (clo qs (cd, len)).1 (b + 1) (clo qs (cd, len)).2 B) (hlow : ∀ k, k < b → cd k = cd0 k) (hat : cd b = (nI (42 - st), 0)) (hbl : b + 1 ≤ len) (hq : ∀ x ∈ qs, oX (b + 1) x) (hs : st = 12 ∨ st = 13) : mSX wd (clo (qs ++ [(42 - st, b)]) (cd, len)).1 a (clo (qs ++ [(42 - st, b)]) (cd, len)).2 (dCo st A B) := by
  have hl := clo_low qs (cd, len) hbl hq
  rw [clo_app]
  have ep : clo [(42 - st, b)] (clo qs (cd, len)) = (cdP (clo qs (cd, len)).1 b (nI (clo qs (cd, len)).2), (clo qs (cd, len)).2) := by
    show popX (42 - st, b) (clo qs (cd, len)) = _
    unfold popX
    rw [if_pos (by show 42 - st = 29 ∨ 42 - st = 30; omega)]
  rw [ep]
  have hll := hB.le
  refine ms_skip (b := b) (hA.mono (fun k q1 q2 => ?_)) (hB.mono (fun k q1 q2 => ?_)) a01 hs ?_
  · show (if k = b then _ else _) = _
    rw [if_neg (by omega)]
    exact (hl.1 k (by omega)).trans (hlow k q2)
  · show (if k = b then _ else _) = _
    rw [if_neg (by omega)]
  · show (if b = b then _ else _) = _
    rw [if_pos rfl, hl.1 b (by omega)]
    show ((cd b).1, _) = _
    rw [hat]
    rcases hs with rfl | rfl <;> rfl
set_option maxHeartbeats 1000000 in
theorem mOkT_seq {ex : sm_O} {t : Tp} {o : Bool} {d dep lv st : Nat} {a1 : Int32} {op : Nat → Option Nat} {fin : Nat → Prop} {sub : Nat → Nat → Rr} (hd : 6 ≤ d) (hst : st = 12 ∧ lv = 1 ∨ st = 13 ∧ lv = 2) (hop : ∀ p s, op p = some s → fin p → s = st ∧ aoO t p = some st ∧ tkK t p = 1) (hB : rB t sub) (hsub : mOkT ex t o d a1 dep (lv + 1) fin sub) : mOkT ex t o d a1 dep lv (fun q => op q = none ∧ fin q) (rSeq t op sub) := by
  intro n y I0 L0 R Q p0 pt0 len0 B hG hx0 htB hiB kf kk
  have hbst : bnd (42 - st) = lv := by rcases hst with ⟨rfl, rfl⟩ | ⟨rfl, rfl⟩ <;> rfl
  -- the loop
  have lp : ∀ (f : Nat) (I : Nat → Nat → Int32) (L : Nat → Nat → Int64) (p pt len : Nat) (D : DD) (qs : Pl), 400 ≤ p + f → rSeq t op sub p0 pt0 = rLoop t op sub f p pt D → mFx I0 I → mL1 L0 L → mX t o I L p pt len (qs ++ B) dep → fin p → (∀ x ∈ qs, lv ≤ bnd x.1 ∧ oX len0 x) → (∀ k, k < len0 → cdO I k = cdO I0 k) → len0 ≤ len → mSX (wdO o) (clo qs (cdO I, len)).1 len0 (clo qs (cdO I, len)).2 D → sp_01 D → sm_W ex d 0 0 174 20 [some (.ref 123), some (.int a1), some (.int 2)] [] (n, y, I, L, R) Q := by
    intro f
    induction f with
    | zero =>
      intro I L p pt len D qs hf hr fI gL hx hfin hqs agr hll sg d01
      have hle := hx.le
      have ho : op p = none := by
        cases e : op p with
        | none => rfl
        | some s =>
          have := (hop p s e hfin).2.2
          have h0 : tkK t p = 0 := tkK_0.mpr (by omega)
          omega
      exact kk I L p pt D len qs hr fI gL hx ⟨ho, hfin⟩ hqs agr hll sg d01
    | succ f ih =>
      intro I L p pt len D qs hf hr fI gL hx hfin hqs agr hll sg d01
      have hle := hx.le
      have hrl : rLoop t op sub (f + 1) p pt D = match op p with
        | none => .inr (p, pt, D)
        | some st => match sub (nx t p) pt with
          | .inl q => .inl q
          | .inr (q, pt', D') => rLoop t op sub f q pt' (dCo st D D') := rfl
      cases e : op p with
      | none =>
        rw [e] at hrl
        exact kk I L p pt D len qs (hr.trans hrl) fI gL hx ⟨e, hfin⟩ hqs agr hll sg d01
      | some s =>
        rw [e] at hrl
        obtain ⟨hs, ha, hk1⟩ := hop p s e hfin
        subst hs
        have hlt := nx_lt (t := t) (p := p) (by omega)
        have hnb := nx_b hle.1
        have hlow := clo_low qs (cdO I, len) hll (fun x hx => (hqs x hx).2)
        refine m_andor (q := qs) (B := B) (by omega) hG hx ha (fun x hx => by have := (hqs x hx).1; omega) (by rw [show s - 11 = lv by omega]; exact htB) ?_
        intro I1 L1 f1 g1 x1 ecd1
        have hl1 : len0 ≤ (clo qs (cdO I, len)).2 := Nat.le_trans hll hlow.2.1
        have sg1 : mSX (wdO o) (cdO I1) len0 (clo qs (cdO I, len)).2 D := sg.mono (fun k q1 q2 => by rw [ecd1]; exact if_neg (by omega))
        have agr1 : ∀ k, k < len0 → cdO I1 k = cdO I0 k := fun k hk => by
          rw [ecd1]
          exact (if_neg (by omega)).trans ((hlow.1 k hk).trans (agr k hk))
        have at1 : cdO I1 (clo qs (cdO I, len)).2 = (nI (42 - s), 0) := by rw [ecd1]; exact if_pos rfl
        generalize (clo qs (cdO I, len)).2 = len1 at *
        have hbB := hB (nx t p) pt hnb.2
        refine hsub n y I1 L1 R Q (nx t p) pt (len1 + 1) ((42 - s, len1) :: B) hG x1 (tB_cons (by show bnd (42 - s) < lv + 1; omega)) (iB_app (q := [(42 - s, len1)]) (fun x hx => by rw [List.mem_singleton] at hx; rw [hx]; show 1 ≤ bnd (42 - s); omega) hiB) (fun I2 L2 q u e2 f2 g2 hY => ?_) (fun I2 L2 q pt' D' len' qs2 e2 f2 g2 x2 fin2 hqs2 agr2 hll2 sg2 d012 => ?_)
        · refine kf I2 L2 q u ?_ ((fI.trans f1).trans f2) ((gL.trans g1).trans g2) hY
          rw [hr, hrl, e2]
        · have hqq := hbB.2 q pt' D' e2
          have h01 : sp_01 (dCo s D D') := by
            rcases hst with ⟨rfl, _⟩ | ⟨rfl, _⟩
            · exact dOr_01 d012
            · exact dAnd_01 d012
          refine ih I2 L2 q pt' len' (dCo s D D') (qs2 ++ [(42 - s, len1)]) (by omega) ?_ ((fI.trans f1).trans f2) ((gL.trans g1).trans g2) (by rw [List.append_assoc]; exact x2) fin2 (fun x hx => ?_) (fun k hk => by rw [agr2 k (by omega)]; exact agr1 k hk) (by omega) ?_ h01
          · rw [hr, hrl, e2]
          · rcases List.mem_append.mp hx with hx | hx
            · have h1 := hqs2 x hx
              exact ⟨by omega, fun z => by have := h1.2 z; omega⟩
            · rw [List.mem_singleton] at hx
              rw [hx]
              exact ⟨by show lv ≤ bnd (42 - s); omega, fun _ => hl1⟩
          · exact mSX_skip sg1 d01 sg2 (fun k hk => agr2 k (by omega)) ((agr2 len1 (by omega)).trans at1) hll2 (fun x hx => (hqs2 x hx).2) (by omega)
  refine hsub n y I0 L0 R Q p0 pt0 len0 B hG hx0 (htB.mono (by omega)) hiB (fun I2 L2 q u e2 f2 g2 hY => ?_) (fun I2 L2 q pt' D' len' qs2 e2 f2 g2 x2 fin2 hqs2 agr2 hll2 sg2 d012 => ?_)
  · refine kf I2 L2 q u ?_ f2 g2 hY
    unfold rSeq
    rw [e2]
  · refine lp 400 I2 L2 q pt' len' D' qs2 (by omega) ?_ f2 g2 x2 fin2 (fun x hx => ⟨by have := (hqs2 x hx).1; omega, (hqs2 x hx).2⟩) agr2 hll2 sg2 d012
    unfold rSeq
    rw [e2]
def dN : Nat → DD → DD
  | 0, D => D
  | k + 1, D => dN k (dNot D)
def nots : Nat → Pl
  | 0 => []
  | k + 1 => (28, 0) :: nots k
theorem nots_mem : ∀ (k : Nat) (x : Nat × Nat), x ∈ nots k → x = (28, 0)
  | 0, _, h => by cases h
  | k + 1, x, h => by
    rcases List.mem_cons.mp h with h | h
    · exact h
    · exact nots_mem k x h
theorem mSX_nots {wd : (Int32 → Int32 → Int64) → Nat → Int} {a : Nat} : ∀ (k : Nat) (s : Cd × Nat) (D : DD), mSX wd s.1 a s.2 D → mSX wd (clo (nots k) s).1 a (clo (nots k) s).2 (dN k D)
  | 0, _, _, h => h
  | k + 1, s, D, h => by
    refine mSX_nots k (popX (28, 0) s) (dNot D) ?_
    have ep : popX (28, 0) s = (cdW s.1 s.2 (nI 28, 0), s.2 + 1) := by
      unfold popX
      rw [if_neg (by decide)]
    rw [ep]
    have := h.le
    refine ms_not (ar := 0) (h.mono (fun k q1 q2 => ?_)) ?_
    · exact if_neg (by omega)
    · exact if_pos rfl
theorem dN_01 : ∀ (k : Nat) (D : DD), sp_01 D → sp_01 (dN k D)
  | 0, _, h => h
  | k + 1, D, h => dN_01 k (dNot D) (dNot_01 h)
theorem tB_nots {B : Pl} (h : tB 3 B) : ∀ k, tB 4 (nots k ++ B)
  | 0 => h.mono (by decide)
  | k + 1 => tB_cons (by decide)
set_option maxHeartbeats 2000000 in
theorem mOkT_plain {ex : sm_O} {t : Tp} {o : Bool} {d dep : Nat} {a1 : Int32} {inn0 : Option (Nat → Nat → Rr)} {sum : Nat → Nat → Rr} (hd : 6 ≤ d) (hi : match inn0 with
    | none => dep = 8
    | some f => dep < 8 ∧ mOkT ex t o d a1 (dep + 1) 1 (fun q => aoO t q = none) f) (hsum : mOkS ex t o d a1 dep 5 (fun q => arO t q = none) sum) : mOkT ex t o d a1 dep 3 (fun _ => True) (rPlain t inn0 sum) := by
  intro n y I0 L0 R Q p0 pt0 len0 B hG hx0 htB hiB kf kk
  have hrp : rPlain t inn0 sum p0 pt0 = match rBare t inn0 sum (rNots t 400 p0 false).1 pt0 with
    | .inl q => .inl q
    | .inr (q, pt', D) => .inr (q, pt', (if (rNots t 400 p0 false).2 = true then dNot D else D)) := rfl
  have hN1 : ∀ k, ∀ x ∈ nots k, 1 ≤ bnd x.1 := fun k x hx => by rw [nots_mem k x hx]; decide
  -- the bare one
  have bare : ∀ (k : Nat) (I : Nat → Nat → Int32) (L : Nat → Nat → Int64) (p : Nat) (b : Bool), rNots t 400 p0 false = (p, b) → ¬ tkWd t p = wdNot → (∀ D, dN k D = if b = true then dNot D else D) → mFx I0 I → mL1 L0 L → mX t o I L p pt0 len0 (nots k ++ B) dep → cdO I = cdO I0 → sm_W ex d 0 0 174 20 [some (.ref 123), some (.int a1), some (.int 0)] [] (n, y, I, L, R) Q := by
    intro k I L p b hrn hnn hpar fI gL hx ecd0
    rw [hrn] at hrp
    dsimp only at hrp
    have bad : ∀ (I' : Nat → Nat → Int32) (L' : Nat → Nat → Int64) (q : Nat) (u : Int32), rBare t inn0 sum p pt0 = .inl q → mFx I I' → mL1 L L' → mY q I' → sm_W ex d 0 0 174 20 [some (.ref 123), some (.int a1), some (.int u)] [] (n, y, I', L', R) Q := fun I' L' q u e f g hY => kf I' L' q u (by rw [hrp, e]) (fI.trans f) (gL.trans g) hY
    have fin : ∀ (I' : Nat → Nat → Int32) (L' : Nat → Nat → Int64) (q pt' : Nat) (D : DD) (len' : Nat) (qs : Pl), rBare t inn0 sum p pt0 = .inr (q, pt', D) → mFx I I' → mL1 L L' → mX t o I' L' q pt' len' ((qs ++ nots k) ++ B) dep → (∀ x ∈ qs, 3 ≤ bnd x.1 ∧ oX len0 x) → (∀ j, j < len0 → cdO I' j = cdO I j) → len0 ≤ len' → mSX (wdO o) (clo qs (cdO I', len')).1 len0 (clo qs (cdO I', len')).2 D → sp_01 D → sm_W ex d 0 0 174 20 [some (.ref 123), some (.int a1), some (.int 2)] [] (n, y, I', L', R) Q := by
      intro I' L' q pt' D len' qs e f g x hqs agr hll sg d01
      refine kk I' L' q pt' (dN k D) len' (qs ++ nots k) (by rw [hrp, e, hpar D]) (fI.trans f) (gL.trans g) x trivial (fun z hz => ?_) (fun j hj => by rw [agr j hj, ecd0]) hll ?_ (dN_01 k D d01)
      · rcases List.mem_append.mp hz with hz | hz
        · exact hqs z hz
        · rw [nots_mem k z hz]
          exact ⟨by decide, fun w => absurd w (by decide)⟩
      · rw [clo_app]
        exact mSX_nots k _ D sg
    by_cases hy : isG t p 40
    · -- the round bracket
      refine w_X11_readExpression_20 (d1 := 5) hG (by omega) ?_
      rw [hx.2.2.2.1, if_pos rfl, if_neg (by decide), if_pos rfl]
      refine w_X11_readPlain_0 (d1 := 4) hG (by omega) ?_
      refine m_word (w := wdNot) hG hx.1 rfl wdNot_g.1 (fun _ => ?_) (fun z => absurd z hnn)
      refine w_X11_readPlain_7 (d1 := 4) hG (by omega) ?_
      rw [if_pos rfl]
      refine m_sign (c := 40) hG hx.1 (by decide) (fun z => absurd hy z) (fun _ => ?_)
      refine w_X11_readPlain_29 (d1 := 4) hG (by omega) ?_
      rw [if_neg (by decide)]
      refine m_open (op := 31) (by omega) hG hx (by rw [hy.1]; decide) (by omega) (fun h8 => ?_) (fun h8 I1 L1 f1 g1 x1 e1 => ?_)
      · refine w_X11_readPlain_38 (w_X11_readExpression_40 (w_X11_readExpression_72 ?_))
        cases inn0 with
        | none =>
          refine bad _ _ p 0 ?_ (mBad_X p I) (mL1.rfl' L) (hx.bad p)
          unfold rBare
          rw [if_pos hy]
        | some ff => exact absurd hi.1 h8
      · refine w_X11_readPlain_38 (w_X11_readExpression_40 (w_X11_readExpression_72 ?_))
        cases inn0 with
        | none => exact absurd (show dep = 8 from hi) (by omega)
        | some ff =>
          obtain ⟨_, hf⟩ := hi
          have hr : rBare t (some ff) sum p pt0 = rIn t 41 ff p pt0 := by unfold rBare; rw [if_pos hy]
          rw [hr] at bad fin
          refine hf n y I1 L1 R Q (nx t p) pt0 len0 ((31, 0) :: (nots k ++ B)) hG x1 (tB_cons (by decide)) (Or.inl rfl) (fun I2 L2 q u e f2 g2 hY => ?_) (fun I2 L2 q pt' D len' qs e f2 g2 x2 fn hqs agr hll sg d01 => ?_)
          · refine bad I2 L2 q u ?_ (f1.trans f2) (g1.trans g2) hY
            unfold rIn
            rw [e]
          · refine m_rnd (q := qs) (B := nots k ++ B) (by omega) hG x2 fn (fun x hx => (hqs x hx).1) (fun hn => ?_) (fun hy2 I3 L3 f3 g3 x3 ecd3 => ?_)
            · refine bad _ _ q 2 ?_ ((f1.trans f2).trans (mBad_X q I2)) (g1.trans g2) (x2.bad q)
              unfold rIn
              rw [e]
              exact if_neg hn
            · have hlow := clo_low qs (cdO I2, len') hll (fun x hx => (hqs x hx).2)
              refine fin I3 L3 (nx t q) pt' D _ [] ?_ ((f1.trans f2).trans f3) ((g1.trans g2).trans g3) x3 (fun x hx => by cases hx) (fun j hj => ?_) (Nat.le_trans hll hlow.2.1) ?_ d01
              · unfold rIn
                rw [e]
                exact if_pos hy2
              · exact ((congrFun ecd3 j).trans (hlow.1 j hj)).trans ((agr j hj).trans (congrFun e1 j))
              · show mSX (wdO o) (cdO I3) len0 _ D
                rw [ecd3]
                exact sg
    · -- two sums
      have hr : rBare t inn0 sum p pt0 = rCmp t sum p pt0 := by unfold rBare; rw [if_neg hy]
      rw [hr] at bad fin
      have hv := hx.2.2.2.2.2.2.2.2.2.2.1
      refine hsum n y I L R Q p pt0 len0 (nots k ++ B) 0 hG hx ((tB_nots htB k).mono (by decide)) (Or.inr ⟨rfl, hnn, hy⟩) (fun I2 L2 q u e f2 g2 hY => ?_) (fun I2 L2 q pt' D len' qs e f2 g2 x2 fn hqs agr hll sg => ?_)
      · refine bad I2 L2 q u ?_ f2 g2 hY
        unfold rCmp
        rw [e]
      · have hlow := clo_low qs (cdO I2, len') hll (fun x hx => (hqs x hx).2)
        have hv2 := x2.2.2.2.2.2.2.2.2.2.2.1
        have hq5 : ∀ x ∈ qs, 5 ≤ bnd x.1 ∧ 20 ≤ x.1 := fun x hx => ⟨(hqs x hx).1, (hv2 x (List.mem_append_left _ hx)).1⟩
        have hq1 : ∀ x ∈ qs, 1 ≤ bnd x.1 := fun x hx => Nat.le_trans (by decide) (hqs x hx).1
        have hiN : iB a1 (nots k ++ B) := iB_app (hN1 k) hiB
        refine m_cmp (q := qs) (B := nots k ++ B) (by omega) hG x2 fn (iB_app hq1 hiN) (by rw [cmpd_app qs _ hq5]; exact cmpd_no (tB_nots htB k)) (fun x hx => (hqs x hx).1) ((tB_nots htB k).mono (by decide)) (fun eo => ?_) (fun st eo I3 L3 f3 g3 x3 ecd3 => ?_)
        · refine bad _ _ q 1 ?_ (f2.trans (mBad_X q I2)) g2 (x2.bad q)
          unfold rCmp
          rw [e]
          dsimp only
          rw [eo]
        · have hst := opCmp_st eo
          have hl1 : len0 ≤ (clo qs (cdO I2, len')).2 := Nat.le_trans hll hlow.2.1
          have sg3 : mSX (wdO o) (cdO I3) len0 (clo qs (cdO I2, len')).2 D := by rw [ecd3]; exact sg
          have agr3 : ∀ j, j < len0 → cdO I3 j = cdO I j := fun j hj => (congrFun ecd3 j).trans ((hlow.1 j hj).trans (agr j hj))
          generalize (clo qs (cdO I2, len')).2 = len1 at *
          have hb4 : bnd (st + 17) = 4 := by
            obtain rfl | rfl | rfl : st = 8 ∨ st = 9 ∨ st = 10 := by omega
            all_goals rfl
          refine hsum n y I3 L3 R Q (nx t q) pt' len1 ((st + 17, 0) :: (nots k ++ B)) 1 hG x3 (tB_cons (by show bnd (st + 17) < 5; omega)) (Or.inl rfl) (fun I4 L4 q4 u e4 f4 g4 hY => ?_) (fun I4 L4 q4 pt4 D4 len4 qs4 e4 f4 g4 x4 fn4 hqs4 agr4 hll4 sg4 => ?_)
          · refine bad I4 L4 q4 u ?_ ((f2.trans f3).trans f4) ((g2.trans g3).trans g4) hY
            unfold rCmp
            rw [e]
            dsimp only
            rw [eo]
            dsimp only
            rw [e4]
          · have hv4 := x4.2.2.2.2.2.2.2.2.2.2.1
            have hq54 : ∀ x ∈ qs4, 5 ≤ bnd x.1 ∧ 20 ≤ x.1 := fun x hx => ⟨(hqs4 x hx).1, (hv4 x (List.mem_append_left _ hx)).1⟩
            have hq14 : ∀ x ∈ qs4, 1 ≤ bnd x.1 := fun x hx => Nat.le_trans (by decide) (hqs4 x hx).1
            have hi4 : iB a1 ((st + 17, 0) :: (nots k ++ B)) := iB_app (q := [(st + 17, 0)]) (fun x hx => by rw [List.mem_singleton] at hx; rw [hx]; show 1 ≤ bnd (st + 17); omega) hiN
            refine m_told (by omega) hG x4 fn4 (iB_app hq14 hi4) ?_ ?_
            · rw [cmpd_app qs4 _ hq54]
              show (if 20 ≤ st + 17 ∧ st + 17 ≤ 24 then _ else decide (25 ≤ st + 17 ∧ st + 17 ≤ 27)) = true
              rw [if_neg (by omega), decide_eq_true (by omega)]
            · refine fin I4 L4 q4 pt4 (dBin st D D4) len4 (qs4 ++ [(st + 17, 0)]) ?_ ((f2.trans f3).trans f4) ((g2.trans g3).trans g4) ?_ (fun x hx => ?_) (fun j hj => by rw [agr4 j (by omega)]; exact agr3 j hj) (by omega) (mSX_bin sg3 sg4 agr4 hll4 (fun x hx => (hqs4 x hx).2) ⟨by omega, by omega⟩) (dCmp_01 ⟨hst.1, hst.2.1⟩ D D4)
              · unfold rCmp
                rw [e]
                dsimp only
                rw [eo]
                dsimp only
                rw [e4]
              · rw [List.append_assoc, List.append_assoc]
                exact x4
              · rcases List.mem_append.mp hx with hx | hx
                · have h1 := hqs4 x hx
                  exact ⟨by omega, fun z => Nat.le_trans hl1 (h1.2 z)⟩
                · rw [List.mem_singleton] at hx
                  rw [hx]
                  exact ⟨by show 3 ≤ bnd (st + 17); omega, fun z => by have z : st + 17 = 29 ∨ st + 17 = 30 := z; omega⟩
  -- the row of not
  have lp : ∀ (f k : Nat) (I : Nat → Nat → Int32) (L : Nat → Nat → Int64) (p : Nat) (b : Bool), 400 ≤ p + f → rNots t 400 p0 false = rNots t f p b → (∀ D, dN k D = if b = true then dNot D else D) → mFx I0 I → mL1 L0 L → mX t o I L p pt0 len0 (nots k ++ B) dep → cdO I = cdO I0 → sm_W ex d 0 0 174 20 [some (.ref 123), some (.int a1), some (.int 0)] [] (n, y, I, L, R) Q := by
    intro f
    induction f with
    | zero =>
      intro k I L p b hf hr hpar fI gL hx ecd
      have hle := hx.le
      refine bare k I L p b hr (fun z => ?_) hpar fI gL hx ecd
      have := (tkW_k z (by decide)).2.2.2
      omega
    | succ f ih =>
      intro k I L p b hf hr hpar fI gL hx ecd
      have hle := hx.le
      have hr : rNots t 400 p0 false = (if tkWd t p = wdNot then rNots t f (nx t p) (!b) else (p, b)) := hr
      by_cases hn : tkWd t p = wdNot
      · rw [if_pos hn] at hr
        have hp3 := (tkW_k hn (by decide)).2.2.1
        have h3 : wdNot.length = 3 := rfl
        have hnb := (nx_b hle.1).2
        have s10 := hx.2.2.2.2.2.2.2.2.2.1
        refine w_X11_readExpression_20 (d1 := 5) hG (by omega) ?_
        rw [hx.2.2.2.1, if_pos rfl, if_neg (by decide), if_pos rfl]
        refine w_X11_readPlain_0 (d1 := 4) hG (by omega) ?_
        refine m_word (w := wdNot) hG hx.1 rfl wdNot_g.1 (fun z => absurd hn z) (fun _ => ?_)
        refine w_X11_readPlain_7 (d1 := 4) hG (by omega) ?_
        rw [if_neg (by decide)]
        refine m_push (op := 28) (at_ := 0) hG hx.2.2.2.2.2.2.1 hx.2.2.2.2.2.2.2.1 (by omega) ?_
        intro I1 f1 e29 p1
        have r1 : mR t I1 L p := mR_kept (fun j q1 q2 => f1 123 j (by omega) (by decide) (by decide)) (fun j => f1 132 j (by omega) (by decide) (by decide)) rfl hx.1
        refine w_X11_readPlain_17 (d1 := 4) hG (by omega) ?_
        refine m_next (by omega) hG r1 ?_
        intro I2 L2 f2 g2 r2
        refine w_X11_readPlain_21 (w_X11_readExpression_40 (w_X11_readExpression_72 ?_))
        have x2 := mX_push hx f1 e29 p1 (q := nx t p) (by omega) ⟨by decide, by decide, by decide⟩ r1 I2 L2 f2 g2 r2
        refine ih (k + 1) I2 L2 (nx t p) (!b) (by omega) hr (fun D => ?_) (fI.trans (fun a j q1 q2 => by rw [f2 a j (by omega), f1 a j (by omega) (by omega) (by omega)])) (gL.trans g2) x2 (by rw [f2.cd, push_cd f1, ecd])
        show dN k (dNot D) = _
        rw [hpar]
        cases b with
        | false => rfl
        | true =>
          rw [if_pos rfl, if_neg (by decide), dNot_not]
      · rw [if_neg hn] at hr
        exact bare k I L p b hr hn hpar fI gL hx ecd
  exact lp 400 0 I0 L0 p0 false (by omega) rfl (fun D => by rw [if_neg (by decide)]; rfl) (mFx.rfl' I0) (mL1.rfl' L0) hx0 rfl
theorem mOkT_mono {ex : sm_O} {t : Tp} {o : Bool} {d dep lv : Nat} {a1 : Int32} {fin fin' : Nat → Prop} {rd : Nat → Nat → Rr} (h : mOkT ex t o d a1 dep lv fin rd) (hf : ∀ q, fin q → fin' q) : mOkT ex t o d a1 dep lv fin' rd := fun n y I L R Q p pt len B hG hx hB hi kf kk => h n y I L R Q p pt len B hG hx hB hi kf (fun I' L' q pt' D len' qs e f g x fn hqs agr hll sg d01 => kk I' L' q pt' D len' qs e f g x (hf q fn) hqs agr hll sg d01)
theorem mOkT_level {ex : sm_O} {t : Tp} {o : Bool} {d dep : Nat} {a1 : Int32} {inn0 : Option (Nat → Nat → Rr)} {sum : Nat → Nat → Rr} (hd : 6 ≤ d) (hi : match inn0 with
    | none => dep = 8
    | some f => dep < 8 ∧ mOkT ex t o d a1 (dep + 1) 1 (fun q => aoO t q = none) f) (hsum : mOkS ex t o d a1 dep 5 (fun q => arO t q = none) sum) (hbs : rB t sum) (hbi : ∀ f, inn0 = some f → rB t f) : mOkT ex t o d a1 dep 1 (fun q => aoO t q = none) (rSeq t (opOr t) (rSeq t (opAnd t) (rPlain t inn0 sum))) := by
  have hpl := rB_plain hbi hbs
  have h1 := mOkT_seq (lv := 2) (st := 13) (op := opAnd t) hd (Or.inr ⟨rfl, rfl⟩) (fun p s h _ => by
    have := opAnd_st h
    refine ⟨this.1, ?_, (tkW_k this.2 (by decide)).1⟩
    unfold aoO
    rw [h, this.1]) hpl (mOkT_plain (a1 := a1) hd hi hsum)
  have h2 := mOkT_seq (lv := 1) (st := 12) (op := opOr t) hd (Or.inl ⟨rfl, rfl⟩) (fun p s h hf => by
    have := opOr_st h
    refine ⟨this.1, ?_, (tkW_k this.2 (by decide)).1⟩
    unfold aoO
    rw [hf.1]
    dsimp only
    rw [h, this.1]) (rB_seq hpl) h1
  refine mOkT_mono h2 (fun q hq => ?_)
  unfold aoO
  rw [hq.2.1]
  exact hq.1
theorem mOkT_all {ex : sm_O} {t : Tp} {o : Bool} {d : Nat} {a1 : Int32} (hd : 6 ≤ d) : ∀ r, r ≤ 8 → mOkT ex t o d a1 (8 - r) 1 (fun q => aoO t q = none) (rTest t o r)
  | 0, _ => mOkT_level (inn0 := none) hd rfl (mOkS_all hd 0 (by omega)) (rB_sum t o 0) (fun f h => by cases h)
  | r + 1, h => by
    have ih := mOkT_all (ex := ex) (t := t) (o := o) (a1 := a1) hd r (by omega)
    rw [show 8 - r = 8 - (r + 1) + 1 by omega] at ih
    exact mOkT_level (inn0 := some (rTest t o r)) hd ⟨by omega, ih⟩ (mOkS_all hd (r + 1) h) (rB_sum t o (r + 1)) (fun f h => by cases h; exact rB_test t o r)

