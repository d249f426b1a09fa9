set_option maxRecDepth 100000 in
theorem w_X7_kindAt_0 {ex : sm_O} {d n : Nat} {y : sm_Y} {I : Nat → Nat → Int32} {L : Nat → Nat → Int64} {R : Nat → Nat → Option Nat} {Q : sm_Q} {w2 : Option Value} {a1 : Int32} (hG : sm_G y R) (k : if a1 < 0 then (Q (some (.int 0)) (n, y, I, L, R)) else (if a1 < (I 120 1) then (vp_in a1 400 ∧ (if (I 119 a1.toNatClampNeg) < 97 then (if (I 119 a1.toNatClampNeg) < 48 then (Q (some (.int 3)) (n, y, I, L, R)) else (if 57 < (I 119 a1.toNatClampNeg) then (Q (some (.int 3)) (n, y, I, L, R)) else (Q (some (.int 2)) (n, y, I, L, R)))) else (if 122 < (I 119 a1.toNatClampNeg) then (if (I 119 a1.toNatClampNeg) < 48 then (Q (some (.int 3)) (n, y, I, L, R)) else (if 57 < (I 119 a1.toNatClampNeg) then (Q (some (.int 3)) (n, y, I, L, R)) else (Q (some (.int 2)) (n, y, I, L, R)))) else (Q (some (.int 1)) (n, y, I, L, R))))) else (Q (some (.int 0)) (n, y, I, L, R)))) : sm_W ex d 0 0 51 0 [some (.ref 120), some (.int a1), w2] [] (n, y, I, L, R) Q := sm_in (sm_in (And.intro (fun c1 => have k1t := Eq.mp (if_pos c1) k; sm_in (sm_in (And.intro rfl k1t))) (fun c1 => have k1f := Eq.mp (if_neg c1) k; sm_in (sm_in (sm_in (And.intro (hG.1 120 (Nat.le_of_ble_eq_true rfl)) (sm_in (And.intro (fun c2 => have k2t := Eq.mp (if_pos c2) k1f; sm_in (sm_in (And.intro (hG.1 120 (Nat.le_of_ble_eq_true rfl)) (sm_gfr rfl (hG.2 120 0 rfl) (sm_in ((have e3 := k2t.1; have k3 := k2t.2; sm_in (Exists.intro 400 (And.intro (hG.1 119 (Nat.le_of_ble_eq_true rfl)) (And.intro e3 (sm_in (And.intro (Nat.le_of_ble_eq_true rfl) (sm_in (sm_in (sm_in (And.intro (fun c4 => have k4t := Eq.mp (if_pos c4) k3; sm_in (sm_in (sm_in (And.intro (fun c5 => have k5t := Eq.mp (if_pos c5) k4t; sm_in (sm_in (And.intro rfl k5t))) (fun c5 => have k5f := Eq.mp (if_neg c5) k4t; sm_in (sm_in (sm_in (And.intro (fun c6 => have k6t := Eq.mp (if_pos c6) k5f; sm_in (sm_in (And.intro rfl k6t))) (fun c6 => have k6f := Eq.mp (if_neg c6) k5f; sm_in (sm_in (sm_in (And.intro rfl k6f)))))))))))) (fun c4 => have k4f := Eq.mp (if_neg c4) k3; sm_in (sm_in (sm_in (And.intro (fun c7 => have k7t := Eq.mp (if_pos c7) k4f; sm_in (sm_in (sm_in (And.intro (fun c8 => have k8t := Eq.mp (if_pos c8) k7t; sm_in (sm_in (And.intro rfl k8t))) (fun c8 => have k8f := Eq.mp (if_neg c8) k7t; sm_in (sm_in (sm_in (And.intro (fun c9 => have k9t := Eq.mp (if_pos c9) k8f; sm_in (sm_in (And.intro rfl k9t))) (fun c9 => have k9f := Eq.mp (if_neg c9) k8f; sm_in (sm_in (sm_in (And.intro rfl k9f)))))))))))) (fun c7 => have k7f := Eq.mp (if_neg c7) k4f; sm_in (sm_in (And.intro rfl k7f))))))))))))))))))))))) (fun c2 => have k2f := Eq.mp (if_neg c2) k1f; sm_in (sm_in (And.intro rfl k2f)))))))))))
set_option maxRecDepth 100000 in
theorem w_X7_advance_0 {ex : sm_O} {d n : Nat} {y : sm_Y} {I : Nat → Nat → Int32} {L : Nat → Nat → Int64} {R : Nat → Nat → Option Nat} {Q : sm_Q} (hG : sm_G y R) (k : sm_W ex d 0 0 50 8 [some (.ref 120)] [] (n, y, sm_st I 120 4 (I 120 5), L, R) Q) : sm_W ex d 0 0 50 0 [some (.ref 120)] [] (n, y, I, L, R) Q := sm_in (sm_in (sm_in (And.intro (hG.1 120 (Nat.le_of_ble_eq_true rfl)) (sm_in (And.intro (hG.1 120 (Nat.le_of_ble_eq_true rfl)) (k))))))
set_option maxRecDepth 100000 in
theorem w_X7_advance_8 {ex : sm_O} {d n : Nat} {y : sm_Y} {I : Nat → Nat → Int32} {L : Nat → Nat → Int64} {R : Nat → Nat → Option Nat} {Q : sm_Q} {d1 : Nat} (hG : sm_G y R) (h1 : d1 < d) (k : if (I 120 1) ≤ (I 120 4) then (sm_W ex d1 0 0 51 0 [some (.ref 120), some (.int (I 120 4)), none] [] (n, y, I, L, R) (fun r μ1 => sm_W ex d 0 0 50 55 [some (.ref 120)] (r.toList ++ [.ref 120]) μ1 Q)) else (vp_in (I 120 4) 400 ∧ (if (I 119 (I 120 4).toNatClampNeg) = 32 then (sm_W ex d 0 0 50 8 [some (.ref 120)] [] (n, y, sm_st I 120 4 ((I 120 4) + 1), L, R) Q) else (sm_W ex d1 0 0 51 0 [some (.ref 120), some (.int (I 120 4)), none] [] (n, y, I, L, R) (fun r μ1 => sm_W ex d 0 0 50 55 [some (.ref 120)] (r.toList ++ [.ref 120]) μ1 Q))))) : sm_W ex d 0 0 50 8 [some (.ref 120)] [] (n, y, I, L, R) Q := sm_in (sm_in (And.intro (hG.1 120 (Nat.le_of_ble_eq_true rfl)) (sm_in (sm_in (And.intro (hG.1 120 (Nat.le_of_ble_eq_true rfl)) (sm_in (And.intro (fun c1 => have k1t := Eq.mp (if_pos c1) k; sm_in (sm_in (sm_in (sm_in (And.intro (hG.1 120 (Nat.le_of_ble_eq_true rfl)) (sm_in (Exists.intro 7 (And.intro (hG.1 120 (Nat.le_of_ble_eq_true rfl)) (And.intro rfl (sm_calln h1 (Nat.le_of_ble_eq_true rfl) (Nat.le_of_ble_eq_true rfl) k1t)))))))))) (fun c1 => have k1f := Eq.mp (if_neg c1) k; sm_in (sm_in (And.intro (hG.1 120 (Nat.le_of_ble_eq_true rfl)) (sm_gfr rfl (hG.2 120 0 rfl) (sm_in (sm_in (And.intro (hG.1 120 (Nat.le_of_ble_eq_true rfl)) ((have e2 := k1f.1; have k2 := k1f.2; sm_in (Exists.intro 400 (And.intro (hG.1 119 (Nat.le_of_ble_eq_true rfl)) (And.intro e2 (sm_in (sm_in (And.intro (fun c3 => have k3f := Eq.mp (if_neg c3) k2; sm_in (sm_in (sm_in (sm_in (And.intro (hG.1 120 (Nat.le_of_ble_eq_true rfl)) (sm_in (Exists.intro 7 (And.intro (hG.1 120 (Nat.le_of_ble_eq_true rfl)) (And.intro rfl (sm_calln h1 (Nat.le_of_ble_eq_true rfl) (Nat.le_of_ble_eq_true rfl) k3f)))))))))) (fun c3 => have k3t := Eq.mp (if_pos c3) k2; sm_in (sm_in (And.intro rfl (sm_in (And.intro (hG.1 120 (Nat.le_of_ble_eq_true rfl)) (sm_in (sm_in (sm_in (And.intro (hG.1 120 (Nat.le_of_ble_eq_true rfl)) (sm_in (k3t)))))))))))))))))))))))))))))))))
set_option maxRecDepth 100000 in
theorem w_X7_advance_55 {ex : sm_O} {d n : Nat} {y : sm_Y} {I : Nat → Nat → Int32} {L : Nat → Nat → Int64} {R : Nat → Nat → Option Nat} {Q : sm_Q} {s0 : Int32} (hG : sm_G y R) (k : if s0 = 0 then (sm_W ex d 0 0 50 82 [some (.ref 120)] [] (n, y, sm_st (sm_st I 120 6 s0) 120 5 (I 120 4), L, R) Q) else (sm_W ex d 0 0 50 82 [some (.ref 120)] [] (n, y, sm_st (sm_st I 120 6 s0) 120 5 ((I 120 4) + 1), L, R) Q)) : sm_W ex d 0 0 50 55 [some (.ref 120)] [.int s0, .ref 120] (n, y, I, L, R) Q := sm_in (And.intro (hG.1 120 (Nat.le_of_ble_eq_true rfl)) (sm_in (sm_in (sm_in (And.intro (hG.1 120 (Nat.le_of_ble_eq_true rfl)) (sm_in (And.intro (fun c1 => have k1f := Eq.mp (if_neg c1) k; sm_in (sm_in (And.intro (hG.1 120 (Nat.le_of_ble_eq_true rfl)) (sm_in (sm_in (sm_in (And.intro (hG.1 120 (Nat.le_of_ble_eq_true rfl)) (k1f)))))))) (fun c1 => have k1t := Eq.mp (if_pos c1) k; sm_in (sm_in (And.intro (hG.1 120 (Nat.le_of_ble_eq_true rfl)) (sm_in (sm_in (And.intro (hG.1 120 (Nat.le_of_ble_eq_true rfl)) (k1t))))))))))))))
set_option maxRecDepth 100000 in
theorem w_X7_advance_82 {ex : sm_O} {d n : Nat} {y : sm_Y} {I : Nat → Nat → Int32} {L : Nat → Nat → Int64} {R : Nat → Nat → Option Nat} {Q : sm_Q} {d1 : Nat} (hG : sm_G y R) (h1 : d1 < d) (k : if (I 120 6) = 1 then (if (I 120 1) ≤ (I 120 5) then (Q none (n, y, I, L, R)) else (sm_W ex d1 0 0 51 0 [some (.ref 120), some (.int (I 120 5)), none] [] (n, y, I, L, R) (fun r μ1 => sm_W ex d 0 0 50 117 [some (.ref 120)] (r.toList ++ []) μ1 Q))) else (if (I 120 6) = 2 then (if (I 120 1) ≤ (I 120 5) then (Q none (n, y, I, L, R)) else (sm_W ex d1 0 0 51 0 [some (.ref 120), some (.int (I 120 5)), none] [] (n, y, I, L, R) (fun r μ1 => sm_W ex d 0 0 50 117 [some (.ref 120)] (r.toList ++ []) μ1 Q))) else (Q none (n, y, I, L, R)))) : sm_W ex d 0 0 50 82 [some (.ref 120)] [] (n, y, I, L, R) Q := sm_in (sm_in (And.intro (hG.1 120 (Nat.le_of_ble_eq_true rfl)) (sm_in (sm_in (And.intro (fun c1 => have k1t := Eq.mp (if_pos c1) k; sm_in (sm_in (And.intro (hG.1 120 (Nat.le_of_ble_eq_true rfl)) (sm_in (sm_in (And.intro (hG.1 120 (Nat.le_of_ble_eq_true rfl)) (sm_in (And.intro (fun c2 => have k2t := Eq.mp (if_pos c2) k1t; sm_in (And.intro rfl (And.intro rfl k2t))) (fun c2 => have k2f := Eq.mp (if_neg c2) k1t; sm_in (sm_in (sm_in (And.intro (hG.1 120 (Nat.le_of_ble_eq_true rfl)) (sm_in (Exists.intro 7 (And.intro (hG.1 120 (Nat.le_of_ble_eq_true rfl)) (And.intro rfl (sm_calln h1 (Nat.le_of_ble_eq_true rfl) (Nat.le_of_ble_eq_true rfl) k2f))))))))))))))))) (fun c1 => have k1f := Eq.mp (if_neg c1) k; sm_in (sm_in (And.intro (hG.1 120 (Nat.le_of_ble_eq_true rfl)) (sm_in (sm_in (And.intro (fun c3 => have k3f := Eq.mp (if_neg c3) k1f; sm_in (And.intro rfl (And.intro rfl k3f))) (fun c3 => have k3t := Eq.mp (if_pos c3) k1f; sm_in (sm_in (And.intro (hG.1 120 (Nat.le_of_ble_eq_true rfl)) (sm_in (sm_in (And.intro (hG.1 120 (Nat.le_of_ble_eq_true rfl)) (sm_in (And.intro (fun c4 => have k4t := Eq.mp (if_pos c4) k3t; sm_in (And.intro rfl (And.intro rfl k4t))) (fun c4 => have k4f := Eq.mp (if_neg c4) k3t; sm_in (sm_in (sm_in (And.intro (hG.1 120 (Nat.le_of_ble_eq_true rfl)) (sm_in (Exists.intro 7 (And.intro (hG.1 120 (Nat.le_of_ble_eq_true rfl)) (And.intro rfl (sm_calln h1 (Nat.le_of_ble_eq_true rfl) (Nat.le_of_ble_eq_true rfl) k4f))))))))))))))))))))))))))))
set_option maxRecDepth 100000 in
theorem w_X7_advance_117 {ex : sm_O} {d n : Nat} {y : sm_Y} {I : Nat → Nat → Int32} {L : Nat → Nat → Int64} {R : Nat → Nat → Option Nat} {Q : sm_Q} {s0 : Int32} (hG : sm_G y R) (k : if s0 = (I 120 6) then (sm_W ex d 0 0 50 82 [some (.ref 120)] [] (n, y, sm_st I 120 5 ((I 120 5) + 1), L, R) Q) else (Q none (n, y, I, L, R))) : sm_W ex d 0 0 50 117 [some (.ref 120)] [.int s0] (n, y, I, L, R) Q := sm_in (sm_in (And.intro (hG.1 120 (Nat.le_of_ble_eq_true rfl)) (sm_in (And.intro (fun c1 => have k1f := Eq.mp (if_neg c1) k; sm_in (And.intro rfl (And.intro rfl k1f))) (fun c1 => have k1t := Eq.mp (if_pos c1) k; sm_in (sm_in (And.intro rfl (sm_in (And.intro (hG.1 120 (Nat.le_of_ble_eq_true rfl)) (sm_in (sm_in (sm_in (And.intro (hG.1 120 (Nat.le_of_ble_eq_true rfl)) (sm_in (k1t)))))))))))))))
set_option maxRecDepth 100000 in
theorem w_X7_isSign_0 {ex : sm_O} {d n : Nat} {y : sm_Y} {I : Nat → Nat → Int32} {L : Nat → Nat → Int64} {R : Nat → Nat → Option Nat} {Q : sm_Q} {a1 : Int32} (hG : sm_G y R) (k : if (I 120 6) = 3 then (if (I 120 4) < 0 then (Q (some (.int 0)) (n, y, I, L, R)) else (if (I 120 1) ≤ (I 120 4) then (Q (some (.int 0)) (n, y, I, L, R)) else (vp_in (I 120 4) 400 ∧ (if (I 119 (I 120 4).toNatClampNeg) = a1 then (Q (some (.int 1)) (n, y, I, L, R)) else (Q (some (.int 0)) (n, y, I, L, R)))))) else (Q (some (.int 0)) (n, y, I, L, R))) : sm_W ex d 0 0 52 0 [some (.ref 120), some (.int a1)] [] (n, y, I, L, R) Q := sm_in (sm_in (And.intro (hG.1 120 (Nat.le_of_ble_eq_true rfl)) (sm_in (sm_in (And.intro (fun c1 => have k1f := Eq.mp (if_neg c1) k; sm_in (sm_in (And.intro rfl (And.intro (Or.inl rfl) k1f)))) (fun c1 => have k1t := Eq.mp (if_pos c1) k; sm_in (sm_in (And.intro (hG.1 120 (Nat.le_of_ble_eq_true rfl)) (sm_in (And.intro (fun c2 => have k2t := Eq.mp (if_pos c2) k1t; sm_in (sm_in (And.intro rfl (And.intro (Or.inl rfl) k2t)))) (fun c2 => have k2f := Eq.mp (if_neg c2) k1t; sm_in (sm_in (And.intro (hG.1 120 (Nat.le_of_ble_eq_true rfl)) (sm_in (sm_in (And.intro (hG.1 120 (Nat.le_of_ble_eq_true rfl)) (sm_in (And.intro (fun c3 => have k3t := Eq.mp (if_pos c3) k2f; sm_in (sm_in (And.intro rfl (And.intro (Or.inl rfl) k3t)))) (fun c3 => have k3f := Eq.mp (if_neg c3) k2f; sm_in (sm_in (And.intro (hG.1 120 (Nat.le_of_ble_eq_true rfl)) (sm_gfr rfl (hG.2 120 0 rfl) (sm_in (sm_in (And.intro (hG.1 120 (Nat.le_of_ble_eq_true rfl)) ((have e4 := k3f.1; have k4 := k3f.2; sm_in (Exists.intro 400 (And.intro (hG.1 119 (Nat.le_of_ble_eq_true rfl)) (And.intro e4 (sm_in (sm_in (And.intro (fun c5 => have k5f := Eq.mp (if_neg c5) k4; sm_in (sm_in (And.intro rfl (And.intro (Or.inl rfl) k5f)))) (fun c5 => have k5t := Eq.mp (if_pos c5) k4; sm_in (sm_in (sm_in (And.intro rfl (And.intro (Or.inr rfl) k5t))))))))))))))))))))))))))))))))))))))
-- TOKENS
abbrev Tp : Type := Nat × (Nat → Nat)
/-- 0 nothing, 1 a letter, 2 a digit, 3 a sign -/
def tkK (t : Tp) (p : Nat) : Nat := if p < t.1 then (if 97 ≤ t.2 p ∧ t.2 p ≤ 122 then 1 else if 48 ≤ t.2 p ∧ t.2 p ≤ 57 then 2 else 3) else 0
def tkS (t : Tp) : Nat → Nat → Nat
  | 0, p => p
  | f + 1, p => if p < t.1 ∧ t.2 p = 32 then tkS t f (p + 1) else p
def tkR (t : Tp) (k : Nat) : Nat → Nat → Nat
  | 0, p => p
  | f + 1, p => if p < t.1 ∧ tkK t p = k then tkR t k f (p + 1) else p
def tkAt (t : Tp) (b : Nat) : Nat := tkS t 400 b
def tkTo (t : Tp) (b : Nat) : Nat := if tkK t (tkAt t b) = 0 then tkAt t b else if tkK t (tkAt t b) = 3 then tkAt t b + 1 else tkR t (tkK t (tkAt t b)) 400 (tkAt t b + 1)
def cTk (t : Tp) (I : Nat → Nat → Int32) : Prop := I 120 1 = nI t.1 ∧ t.1 ≤ 400 ∧ ∀ j, j < t.1 → I 119 j = nI (t.2 j) ∧ t.2 j < 256
theorem tkK_le (t : Tp) (p : Nat) : tkK t p ≤ 3 := by
  unfold tkK
  split
  · split
    · omega
    · split <;> omega
  · omega
theorem tkS_b (t : Tp) : ∀ f p, p ≤ tkS t f p ∧ (p ≤ t.1 → tkS t f p ≤ t.1)
  | 0, p => ⟨Nat.le_refl _, fun h => h⟩
  | f + 1, p => by
    unfold tkS
    by_cases h : p < t.1 ∧ t.2 p = 32
    · rw [if_pos h]
      have := tkS_b t f (p + 1)
      exact ⟨by omega, fun _ => this.2 (by omega)⟩
    · rw [if_neg h]
      exact ⟨Nat.le_refl _, fun h => h⟩
theorem c_X7_kindAt {ex : sm_O} {n : Nat} {y : sm_Y} {I : Nat → Nat → Int32} {L : Nat → Nat → Int64} {R : Nat → Nat → Option Nat} {Q : sm_Q} {d p : Nat} {w2 : Option Value} {t : Tp} (hG : sm_G y R) (ht : cTk t I) (hp : p ≤ 100000) (k : Q (some (.int (nI (tkK t p)))) (n, y, I, L, R)) : sm_W ex d 0 0 51 0 [some (.ref 120), some (.int (nI p)), w2] [] (n, y, I, L, R) Q := by
  obtain ⟨h1, h2, h3⟩ := ht
  refine w_X7_kindAt_0 hG ?_
  rw [if_neg (nI_pos (by omega)), h1]
  unfold tkK at k
  by_cases e : p < t.1
  · rw [if_pos ((nI_ltI (by omega) (by omega)).mpr e), nI_clamp (by omega), (h3 p e).1]
    rw [if_pos e] at k
    have hb := (h3 p e).2
    refine ⟨vp_in_nI (by omega) (by decide), ?_⟩
    have f97 : nI (t.2 p) < 97 ↔ t.2 p < 97 := nI_ltI (b := 97) (by omega) (by decide)
    have f48 : nI (t.2 p) < 48 ↔ t.2 p < 48 := nI_ltI (b := 48) (by omega) (by decide)
    have f57 : 57 < nI (t.2 p) ↔ 57 < t.2 p := nI_ltI (a := 57) (by decide) (by omega)
    have f122 : 122 < nI (t.2 p) ↔ 122 < t.2 p := nI_ltI (a := 122) (by decide) (by omega)
    simp only [f97, f48, f57, f122]
    by_cases e1 : 97 ≤ t.2 p ∧ t.2 p ≤ 122
    · rw [if_pos e1] at k
      rw [if_neg (by omega), if_neg (by omega)]
      exact k
    · rw [if_neg e1] at k
      by_cases e2 : 48 ≤ t.2 p ∧ t.2 p ≤ 57
      · rw [if_pos e2] at k
        rw [if_pos (by omega), if_neg (by omega), if_neg (by omega)]
        exact k
      · rw [if_neg e2] at k
        by_cases a1 : t.2 p < 97
        · rw [if_pos a1]
          by_cases a2 : t.2 p < 48
          · rw [if_pos a2]; exact k
          · rw [if_neg a2, if_pos (by omega)]; exact k
        · rw [if_neg a1, if_pos (by omega), if_neg (by omega), if_pos (by omega)]
          exact k
  · rw [if_neg (fun z => e ((nI_ltI (by omega) (by omega)).mp z))]
    rw [if_neg e] at k
    exact k
theorem c_X7_isSign {ex : sm_O} {n : Nat} {y : sm_Y} {I : Nat → Nat → Int32} {L : Nat → Nat → Int64} {R : Nat → Nat → Option Nat} {Q : sm_Q} {d p : Nat} {c : Nat} {t : Tp} (hG : sm_G y R) (ht : cTk t I) (hp : I 120 4 = nI p) (hp2 : p ≤ 100000) (hk : I 120 6 = nI (tkK t p)) (hc : c < 256) (k : Q (some (.int (if tkK t p = 3 ∧ t.2 p = c then 1 else 0))) (n, y, I, L, R)) : sm_W ex d 0 0 52 0 [some (.ref 120), some (.int (nI c))] [] (n, y, I, L, R) Q := by
  obtain ⟨h1, h2, h3⟩ := ht
  have hle := tkK_le t p
  refine w_X7_isSign_0 hG ?_
  rw [hk, hp, h1]
  have f3 : nI (tkK t p) = 3 ↔ tkK t p = 3 := nI_eq (b := 3) (by omega) (by decide)
  simp only [f3]
  by_cases e : tkK t p = 3
  · have hpl : p < t.1 := by
      by_cases q : p < t.1
      · exact q
      · unfold tkK at e
        rw [if_neg q] at e
        cases e
    have hb := (h3 p hpl).2
    rw [if_pos e, if_neg (nI_pos (by omega)), if_neg (by rw [nI_leI (by omega) (by omega)]; omega), nI_clamp (by omega), (h3 p hpl).1]
    refine ⟨vp_in_nI (by omega) (by decide), ?_⟩
    have fc : nI (t.2 p) = nI c ↔ t.2 p = c := nI_eq (by omega) (by omega)
    simp only [fc]
    by_cases e2 : t.2 p = c
    · rw [if_pos e2]
      rw [if_pos ⟨e, e2⟩] at k
      exact k
    · rw [if_neg e2]
      rw [if_neg (fun z => e2 z.2)] at k
      exact k
  · rw [if_neg e]
    rw [if_neg (fun z => e z.1)] at k
    exact k
set_option maxHeartbeats 1000000 in
theorem c_X7_advance {ex : sm_O} {n : Nat} {y : sm_Y} {I : Nat → Nat → Int32} {L : Nat → Nat → Int64} {R : Nat → Nat → Option Nat} {Q : sm_Q} {d b : Nat} {t : Tp} (hd : 1 ≤ d) (hG : sm_G y R) (ht : cTk t I) (hb : I 120 5 = nI b) (hbl : b ≤ t.1)
    (k : ∀ (I' : Nat → Nat → Int32), (∀ a j, ¬ (a = 120 ∧ (j = 4 ∨ j = 5 ∨ j = 6)) → I' a j = I a j) → I' 120 4 = nI (tkAt t b) → I' 120 5 = nI (tkTo t b) → I' 120 6 = nI (tkK t (tkAt t b)) → Q none (n, y, I', L, R)) : sm_W ex d 0 0 50 0 [some (.ref 120)] [] (n, y, I, L, R) Q := by
  have h2 := ht.2.1
  have tk : ∀ I' : Nat → Nat → Int32, (∀ a j, ¬ (a = 120 ∧ (j = 4 ∨ j = 5 ∨ j = 6)) → I' a j = I a j) → cTk t I' := fun I' f => ⟨(f 120 1 (by omega)).trans ht.1, h2, fun j hj => ⟨(f 119 j (by omega)).trans (ht.2.2 j hj).1, (ht.2.2 j hj).2⟩⟩
  -- to the token's end
  have ends : ∀ (f p q : Nat) (I2 : Nat → Nat → Int32), t.1 ≤ p + f → p ≤ t.1 → (q = 1 ∨ q = 2) → (∀ a j, ¬ (a = 120 ∧ (j = 4 ∨ j = 5 ∨ j = 6)) → I2 a j = I a j) → I2 120 4 = nI (tkAt t b) → I2 120 5 = nI p → I2 120 6 = nI q → (∀ I', (∀ a j, ¬ (a = 120 ∧ (j = 4 ∨ j = 5 ∨ j = 6)) → I' a j = I a j) → I' 120 4 = nI (tkAt t b) → I' 120 5 = nI (tkR t q f p) → I' 120 6 = nI q → Q none (n, y, I', L, R)) → sm_W ex d 0 0 50 82 [some (.ref 120)] [] (n, y, I2, L, R) Q := by
    intro f
    induction f with
    | zero =>
      intro p q I2 hpf hpl hq f2 e4 e5 e6 kk
      refine w_X7_advance_82 (d1 := 0) hG (by omega) ?_
      have fin := kk I2 f2 e4 e5 e6
      rw [e6, (tk I2 f2).1, e5]
      have hle : nI t.1 ≤ nI p := by rw [nI_leI (by omega) (by omega)]; omega
      rcases hq with rfl | rfl
      · rw [if_pos (show nI 1 = 1 from rfl), if_pos hle]; exact fin
      · rw [if_neg (show ¬ nI 2 = 1 by decide), if_pos (show nI 2 = 2 from rfl), if_pos hle]; exact fin
    | succ f ih =>
      intro p q I2 hpf hpl hq f2 e4 e5 e6 kk
      refine w_X7_advance_82 (d1 := 0) hG (by omega) ?_
      rw [e6, (tk I2 f2).1, e5]
      have go : sm_W ex 0 0 0 51 0 [some (.ref 120), some (.int (nI p)), none] [] (n, y, I2, L, R) (fun r μ1 => sm_W ex d 0 0 50 117 [some (.ref 120)] (r.toList ++ []) μ1 Q) ∨ True := Or.inr trivial
      have step : p < t.1 → sm_W ex 0 0 0 51 0 [some (.ref 120), some (.int (nI p)), none] [] (n, y, I2, L, R) (fun r μ1 => sm_W ex d 0 0 50 117 [some (.ref 120)] (r.toList ++ []) μ1 Q) := fun hp => by
        refine c_X7_kindAt hG (tk I2 f2) (by omega) ?_
        refine w_X7_advance_117 hG ?_
        rw [e6, e5]
        have hkl := tkK_le t p
        have fk : nI (tkK t p) = nI q ↔ tkK t p = q := nI_eq (by omega) (by omega)
        simp only [fk]
        by_cases e : tkK t p = q
        · rw [if_pos e, sm_n1]
          refine ih (p + 1) q _ (by omega) (by omega) hq (fun a j z => by rw [sm_st_or _ _ (by omega)]; exact f2 a j z) ?_ (sm_st_s _ _ _ _) ?_ (fun I' g1 g2 g3 g4 => kk I' g1 g2 (g3.trans (show nI (tkR t q f (p + 1)) = nI (if p < t.1 ∧ tkK t p = q then tkR t q f (p + 1) else p) by rw [if_pos ⟨hp, e⟩])) g4)
          · rw [sm_st_or _ _ (by omega)]; exact e4
          · rw [sm_st_or _ _ (by omega)]; exact e6
        · rw [if_neg e]
          exact kk I2 f2 e4 (by rw [e5]; unfold tkR; rw [if_neg (fun z => e z.2)]) e6
      have stop : ¬ p < t.1 → Q none (n, y, I2, L, R) := fun hp => kk I2 f2 e4 (by rw [e5]; unfold tkR; rw [if_neg (fun z => hp z.1)]) e6
      have hle : nI t.1 ≤ nI p ↔ ¬ p < t.1 := by rw [nI_leI (by omega) (by omega)]; omega
      simp only [hle]
      rcases hq with rfl | rfl
      · rw [if_pos (show nI 1 = 1 from rfl)]
        by_cases e : p < t.1
        · rw [if_neg (fun z => z e)]; exact step e
        · rw [if_pos e]; exact stop e
      · rw [if_neg (show ¬ nI 2 = 1 by decide), if_pos (show nI 2 = 2 from rfl)]
        by_cases e : p < t.1
        · rw [if_neg (fun z => z e)]; exact step e
        · rw [if_pos e]; exact stop e
  -- behind the blanks
  have behind : ∀ (I2 : Nat → Nat → Int32), (∀ a j, ¬ (a = 120 ∧ (j = 4 ∨ j = 5 ∨ j = 6)) → I2 a j = I a j) → I2 120 4 = nI (tkAt t b) → sm_W ex 0 0 0 51 0 [some (.ref 120), some (.int (nI (tkAt t b))), none] [] (n, y, I2, L, R) (fun r μ1 => sm_W ex d 0 0 50 55 [some (.ref 120)] (r.toList ++ [.ref 120]) μ1 Q) := by
    intro I2 f2 e4
    have hat : tkAt t b ≤ t.1 := (tkS_b t 400 b).2 hbl
    refine c_X7_kindAt hG (tk I2 f2) (by omega) ?_
    refine w_X7_advance_55 hG ?_
    have hkl := tkK_le t (tkAt t b)
    have f0 : nI (tkK t (tkAt t b)) = 0 ↔ tkK t (tkAt t b) = 0 := nI_eq (b := 0) (by omega) (by decide)
    simp only [f0]
    rw [e4]
    have hto : tkTo t b = if tkK t (tkAt t b) = 0 then tkAt t b else if tkK t (tkAt t b) = 3 then tkAt t b + 1 else tkR t (tkK t (tkAt t b)) 400 (tkAt t b + 1) := rfl
    have fr : ∀ v w a j, ¬ (a = 120 ∧ (j = 4 ∨ j = 5 ∨ j = 6)) → sm_st (sm_st I2 120 6 v) 120 5 w a j = I a j := fun v w a j z => by rw [sm_st_or _ _ (by omega), sm_st_or _ _ (by omega)]; exact f2 a j z
    have g4 : ∀ v w, sm_st (sm_st I2 120 6 v) 120 5 w 120 4 = nI (tkAt t b) := fun v w => by rw [sm_st_or _ _ (by omega), sm_st_or _ _ (by omega)]; exact e4
    have g6 : ∀ v w, sm_st (sm_st I2 120 6 v) 120 5 w 120 6 = v := fun v w => by rw [sm_st_j _ _ (by decide), sm_st_s]
    -- nothing, or a sign
    have other : ∀ I3 : Nat → Nat → Int32, ¬ (I3 120 6 = 1) → ¬ (I3 120 6 = 2) → Q none (n, y, I3, L, R) → sm_W ex d 0 0 50 82 [some (.ref 120)] [] (n, y, I3, L, R) Q := fun I3 q1 q2 kq => by
      refine w_X7_advance_82 (d1 := 0) hG (by omega) ?_
      rw [if_neg q1, if_neg q2]
      exact kq
    by_cases e0 : tkK t (tkAt t b) = 0
    · rw [if_pos e0]
      refine other _ (by rw [g6, e0]; decide) (by rw [g6, e0]; decide) (k _ (fr _ _) (g4 _ _) ?_ (g6 _ _))
      rw [sm_st_s, hto, if_pos e0]
    · rw [if_neg e0, sm_n1]
      by_cases e3 : tkK t (tkAt t b) = 3
      · refine other _ (by rw [g6, e3]; decide) (by rw [g6, e3]; decide) (k _ (fr _ _) (g4 _ _) ?_ (g6 _ _))
        rw [sm_st_s, hto, if_neg e0, if_pos e3]
      · have hlt : tkAt t b < t.1 := by
          by_cases q : tkAt t b < t.1
          · exact q
          · exfalso
            apply e0
            unfold tkK
            rw [if_neg q]
        refine ends 400 (tkAt t b + 1) (tkK t (tkAt t b)) _ (by omega) (by omega) (by omega) (fr _ _) (g4 _ _) (sm_st_s _ _ _ _) (g6 _ _) (fun I' q1 q2 q3 q4 => k I' q1 q2 (q3.trans (congrArg nI (hto.trans ((if_neg e0).trans (if_neg e3))).symm)) q4)
  have blanks : ∀ (f p : Nat) (I2 : Nat → Nat → Int32), t.1 ≤ p + f → p ≤ t.1 → (∀ a j, ¬ (a = 120 ∧ (j = 4 ∨ j = 5 ∨ j = 6)) → I2 a j = I a j) → I2 120 4 = nI p → tkS t f p = tkAt t b → sm_W ex d 0 0 50 8 [some (.ref 120)] [] (n, y, I2, L, R) Q := by
    intro f
    induction f with
    | zero =>
      intro p I2 hpf hpl f2 e4 hs
      have hp : p = tkAt t b := hs
      refine w_X7_advance_8 (d1 := 0) hG (by omega) ?_
      rw [e4, (tk I2 f2).1, if_pos (by rw [nI_leI (by omega) (by omega)]; omega), hp]
      exact behind I2 f2 (by rw [e4, hp])
    | succ f ih =>
      intro p I2 hpf hpl f2 e4 hs
      have hst : tkS t (f + 1) p = if p < t.1 ∧ t.2 p = 32 then tkS t f (p + 1) else p := rfl
      rw [hst] at hs
      refine w_X7_advance_8 (d1 := 0) hG (by omega) ?_
      rw [e4, (tk I2 f2).1]
      by_cases e : p < t.1
      · rw [if_neg (by rw [nI_leI (by omega) (by omega)]; omega), nI_clamp (by omega), ((tk I2 f2).2.2 p e).1]
        have hb256 := (ht.2.2 p e).2
        refine ⟨vp_in_nI (by omega) (by decide), ?_⟩
        have f32 : nI (t.2 p) = 32 ↔ t.2 p = 32 := nI_eq (b := 32) (by omega) (by decide)
        simp only [f32]
        by_cases e2 : t.2 p = 32
        · rw [if_pos ⟨e, e2⟩] at hs
          rw [if_pos e2, sm_n1]
          exact ih (p + 1) _ (by omega) (by omega) (fun a j z => by rw [sm_st_or _ _ (by omega)]; exact f2 a j z) (sm_st_s _ _ _ _) hs
        · rw [if_neg (fun z => e2 z.2)] at hs
          rw [if_neg e2, hs]
          exact behind I2 f2 (by rw [e4, hs])
      · rw [if_neg (fun z => e z.1)] at hs
        rw [if_pos (by rw [nI_leI (by omega) (by omega)]; omega), hs]
        exact behind I2 f2 (by rw [e4, hs])
  refine w_X7_advance_0 hG ?_
  exact blanks 400 b _ (by omega) hbl (fun a j z => sm_st_or _ _ (by omega)) (by rw [sm_st_s]; exact hb) rfl

