set_option maxRecDepth 100000 in
theorem w_X11_keepAll_0 {ex : sm_O} {d n : Nat} {y : sm_Y} {I : Nat → Nat → Int32} {L : Nat → Nat → Int64} {R : Nat → Nat → Option Nat} {Q : sm_Q} {w0 : Option Value} {w2 : Option Value} {a1 : Int32} (k : sm_W ex d 0 0 131 2 [w0, some (.int a1), some (.int 0)] [] (n, y, I, L, R) Q) : sm_W ex d 0 0 131 0 [w0, some (.int a1), w2] [] (n, y, I, L, R) Q := sm_in (sm_in (And.intro (Nat.le_of_ble_eq_true rfl) (k)))
set_option maxRecDepth 100000 in
theorem w_X11_keepAll_2 {ex : sm_O} {d n : Nat} {y : sm_Y} {I : Nat → Nat → Int32} {L : Nat → Nat → Int64} {R : Nat → Nat → Option Nat} {Q : sm_Q} {a1 : Int32} {a2 : Int32} (hG : sm_G y R) (k : if 20 ≤ a2 then (Q none (n, y, I, L, R)) else (vp_in (4 + a2) 5450 ∧ vp_in ((20 * a1) + a2) 360 ∧ sm_W ex d 0 0 131 2 [some (.ref 123), some (.int a1), some (.int (a2 + 1))] [] (n, y, sm_st I 128 (((20 * a1) + a2).toNatClampNeg) (I 125 (4 + a2).toNatClampNeg), L, R) Q)) : sm_W ex d 0 0 131 2 [some (.ref 123), some (.int a1), some (.int a2)] [] (n, y, I, L, R) Q := sm_in (sm_in (sm_in (And.intro (fun c1 => have k1t := Eq.mp (if_pos c1) k; sm_in (And.intro rfl (And.intro rfl k1t))) (fun c1 => have k1f := Eq.mp (if_neg c1) k; sm_in (sm_in (And.intro (hG.1 123 (Nat.le_of_ble_eq_true rfl)) (sm_gfr rfl (hG.2 123 6 rfl) (sm_in (sm_in (sm_in (sm_in (sm_in (sm_in (sm_in (And.intro (hG.1 123 (Nat.le_of_ble_eq_true rfl)) (sm_gfr rfl (hG.2 123 3 rfl) (sm_in (sm_in (sm_in ((have e2 := k1f.1; have k2 := k1f.2; sm_in (Exists.intro 5450 (And.intro (hG.1 125 (Nat.le_of_ble_eq_true rfl)) (And.intro e2 ((have e3 := k2.1; have k3 := k2.2; sm_in (Exists.intro 360 (And.intro (hG.1 128 (Nat.le_of_ble_eq_true rfl)) (And.intro e3 (sm_in (And.intro (Nat.le_of_ble_eq_true rfl) (sm_in (k3)))))))))))))))))))))))))))))))))
set_option maxRecDepth 100000 in
theorem w_X11_putBack_0 {ex : sm_O} {d n : Nat} {y : sm_Y} {I : Nat → Nat → Int32} {L : Nat → Nat → Int64} {R : Nat → Nat → Option Nat} {Q : sm_Q} {w0 : Option Value} {w2 : Option Value} {a1 : Int32} (k : sm_W ex d 0 0 132 2 [w0, some (.int a1), some (.int 0)] [] (n, y, I, L, R) Q) : sm_W ex d 0 0 132 0 [w0, some (.int a1), w2] [] (n, y, I, L, R) Q := sm_in (sm_in (And.intro (Nat.le_of_ble_eq_true rfl) (k)))
set_option maxRecDepth 100000 in
theorem w_X11_putBack_2 {ex : sm_O} {d n : Nat} {y : sm_Y} {I : Nat → Nat → Int32} {L : Nat → Nat → Int64} {R : Nat → Nat → Option Nat} {Q : sm_Q} {a1 : Int32} {a2 : Int32} (hG : sm_G y R) (k : if 20 ≤ a2 then (Q none (n, y, I, L, R)) else (vp_in ((20 * a1) + a2) 360 ∧ vp_in (4 + a2) 5450 ∧ sm_W ex d 0 0 132 2 [some (.ref 123), some (.int a1), some (.int (a2 + 1))] [] (n, y, sm_st I 125 ((4 + a2).toNatClampNeg) (I 128 ((20 * a1) + a2).toNatClampNeg), L, R) Q)) : sm_W ex d 0 0 132 2 [some (.ref 123), some (.int a1), some (.int a2)] [] (n, y, I, L, R) Q := sm_in (sm_in (sm_in (And.intro (fun c1 => have k1t := Eq.mp (if_pos c1) k; sm_in (And.intro rfl (And.intro rfl k1t))) (fun c1 => have k1f := Eq.mp (if_neg c1) k; sm_in (sm_in (And.intro (hG.1 123 (Nat.le_of_ble_eq_true rfl)) (sm_gfr rfl (hG.2 123 3 rfl) (sm_in (sm_in (sm_in (sm_in (sm_in (And.intro (hG.1 123 (Nat.le_of_ble_eq_true rfl)) (sm_gfr rfl (hG.2 123 6 rfl) (sm_in (sm_in (sm_in (sm_in (sm_in ((have e2 := k1f.1; have k2 := k1f.2; sm_in (Exists.intro 360 (And.intro (hG.1 128 (Nat.le_of_ble_eq_true rfl)) (And.intro e2 ((have e3 := k2.1; have k3 := k2.2; sm_in (Exists.intro 5450 (And.intro (hG.1 125 (Nat.le_of_ble_eq_true rfl)) (And.intro e3 (sm_in (And.intro (Nat.le_of_ble_eq_true rfl) (sm_in (k3)))))))))))))))))))))))))))))))))
-- SNAPSHOTS, RELIEFS, THE HOUR (the model)
theorem sm_cp_0 {α : Type} (I : Nat → Nat → α) (o sp q dp : Nat) : sm_cp I o sp q dp 0 = I := by
  funext a j
  unfold sm_cp
  rw [if_neg (by omega)]
theorem sm_cp_s {α : Type} (I : Nat → Nat → α) {o q : Nat} (h : o ≠ q) (sp dp j : Nat) : sm_st (sm_cp I o sp q dp j) q (dp + j) ((sm_cp I o sp q dp j) o (sp + j)) = sm_cp I o sp q dp (j + 1) := by
  funext a b
  unfold sm_st sm_cp
  by_cases ha : a = q
  · subst ha
    by_cases hb : b = dp + j
    · subst hb
      rw [if_pos ⟨rfl, rfl⟩, if_neg (fun z => h z.1), if_pos ⟨rfl, by omega, by omega⟩]
      congr 1
      omega
    · rw [if_neg (fun z => hb z.2)]
      by_cases h3 : dp ≤ b ∧ b < dp + j
      · rw [if_pos ⟨rfl, h3⟩, if_pos ⟨rfl, by omega, by omega⟩]
      · rw [if_neg (fun z => h3 z.2), if_neg (fun z => h3 ⟨z.2.1, by omega⟩)]
  · rw [if_neg (fun z => ha z.1), if_neg (fun z => ha z.1), if_neg (fun z => ha z.1)]
theorem sm_cp_o {α : Type} (I : Nat → Nat → α) {o q : Nat} (sp dp n : Nat) {a : Nat} (j : Nat) (h : a ≠ q) : sm_cp I o sp q dp n a j = I a j := by
  unfold sm_cp
  rw [if_neg (fun z => h z.1)]
theorem sm_cp_in {α : Type} (I : Nat → Nat → α) (o q : Nat) {sp dp n j : Nat} (h1 : dp ≤ j) (h2 : j < dp + n) : sm_cp I o sp q dp n q j = I o (sp + (j - dp)) := by
  unfold sm_cp
  rw [if_pos ⟨rfl, h1, h2⟩]
theorem sm_cp_out {α : Type} (I : Nat → Nat → α) (o q : Nat) {sp dp n j : Nat} (h1 : j < dp ∨ dp + n ≤ j) : sm_cp I o sp q dp n q j = I q j := by
  unfold sm_cp
  rw [if_neg (by omega)]
theorem sm_i20 (c j : Nat) : (20 : Int32) * nI c + nI j = nI (20 * c + j) := by rw [sm_of 20, pk_mul, nI_add]
theorem c_X11_keepAll {ex : sm_O} {n : Nat} {y : sm_Y} {I : Nat → Nat → Int32} {L : Nat → Nat → Int64} {R : Nat → Nat → Option Nat} {Q : sm_Q} {d c : Nat} {w2 : Option Value} (hG : sm_G y R) (hc : c < 18) (k : Q none (n, y, sm_cp I 125 4 128 (20 * c) 20, L, R)) : sm_W ex d 0 0 131 0 [some (.ref 123), some (.int (nI c)), w2] [] (n, y, I, L, R) Q := by
  have key : ∀ (q j : Nat), j + q = 20 → sm_W ex d 0 0 131 2 [some (.ref 123), some (.int (nI c)), some (.int (nI j))] [] (n, y, sm_cp I 125 4 128 (20 * c) j, L, R) Q := by
    intro q
    induction q with
    | zero =>
      intro j hj
      obtain rfl : j = 20 := by omega
      refine w_X11_keepAll_2 hG ?_
      rw [if_pos (by decide)]
      exact k
    | succ q ih =>
      intro j hj
      refine w_X11_keepAll_2 hG ?_
      rw [if_neg (by rw [sm_of 20, nI_leI (by decide) (by omega)]; omega), sm_i20]
      refine ⟨sm_ci4 (by omega) (by decide), vp_in_nI (by omega) (by decide), ?_⟩
      rw [sm_cx4 (by omega), nI_clamp (by omega), sm_cp_s I (by decide), sm_n1]
      exact ih (j + 1) (by omega)
  refine w_X11_keepAll_0 ?_
  have := key 20 0 rfl
  rw [sm_cp_0] at this
  exact this
theorem c_X11_putBack {ex : sm_O} {n : Nat} {y : sm_Y} {I : Nat → Nat → Int32} {L : Nat → Nat → Int64} {R : Nat → Nat → Option Nat} {Q : sm_Q} {d c : Nat} {w2 : Option Value} (hG : sm_G y R) (hc : c < 18) (k : Q none (n, y, sm_cp I 128 (20 * c) 125 4 20, L, R)) : sm_W ex d 0 0 132 0 [some (.ref 123), some (.int (nI c)), w2] [] (n, y, I, L, R) Q := by
  have key : ∀ (q j : Nat), j + q = 20 → sm_W ex d 0 0 132 2 [some (.ref 123), some (.int (nI c)), some (.int (nI j))] [] (n, y, sm_cp I 128 (20 * c) 125 4 j, L, R) Q := by
    intro q
    induction q with
    | zero =>
      intro j hj
      obtain rfl : j = 20 := by omega
      refine w_X11_putBack_2 hG ?_
      rw [if_pos (by decide)]
      exact k
    | succ q ih =>
      intro j hj
      refine w_X11_putBack_2 hG ?_
      rw [if_neg (by rw [sm_of 20, nI_leI (by decide) (by omega)]; omega), sm_i20]
      refine ⟨vp_in_nI (by omega) (by decide), sm_ci4 (by omega) (by decide), ?_⟩
      rw [sm_cx4 (by omega), nI_clamp (by omega), sm_cp_s I (by decide), sm_n1]
      exact ih (j + 1) (by omega)
  refine w_X11_putBack_0 ?_
  have := key 20 0 rfl
  rw [sm_cp_0] at this
  exact this

set_option maxRecDepth 100000 in
theorem w_X11_cashier_0 {ex : sm_O} {d n : Nat} {y : sm_Y} {I : Nat → Nat → Int32} {L : Nat → Nat → Int64} {R : Nat → Nat → Option Nat} {Q : sm_Q} {a1 : Int32} (hG : sm_G y R) (k : vp_in (17 + a1) 5450 ∧ (if ((sm_st I 125 ((17 + a1).toNatClampNeg) 1) 125 8) = a1 then (Q none (n, y, sm_st (sm_st (sm_st I 125 ((17 + a1).toNatClampNeg) 1) 125 8 (-1)) 125 9 0, L, R)) else (Q none (n, y, sm_st I 125 ((17 + a1).toNatClampNeg) 1, L, R)))) : sm_W ex d 0 0 193 0 [some (.ref 123), some (.int a1)] [] (n, y, I, L, R) Q := sm_in (sm_in (And.intro (hG.1 123 (Nat.le_of_ble_eq_true rfl)) (sm_gfr rfl (hG.2 123 3 rfl) (sm_in (sm_in (sm_in (sm_in ((have e1 := k.1; have k1 := k.2; sm_in (Exists.intro 5450 (And.intro (hG.1 125 (Nat.le_of_ble_eq_true rfl)) (And.intro e1 (sm_in (sm_in (And.intro (hG.1 123 (Nat.le_of_ble_eq_true rfl)) (sm_gfr rfl (hG.2 123 3 rfl) (sm_in (sm_in (Exists.intro 5450 (And.intro (hG.1 125 (Nat.le_of_ble_eq_true rfl)) (And.intro (sm_lin (by decide)) (sm_in (sm_in (And.intro (fun c2 => have k2f := Eq.mp (if_neg c2) k1; sm_in (And.intro rfl (And.intro rfl k2f))) (fun c2 => have k2t := Eq.mp (if_pos c2) k1; sm_in (sm_in (And.intro (hG.1 123 (Nat.le_of_ble_eq_true rfl)) (sm_gfr rfl (hG.2 123 3 rfl) (sm_in (sm_in (sm_in (Exists.intro 5450 (And.intro (hG.1 125 (Nat.le_of_ble_eq_true rfl)) (And.intro (sm_lin (by decide)) (sm_in (sm_in (And.intro (hG.1 123 (Nat.le_of_ble_eq_true rfl)) (sm_gfr rfl (hG.2 123 3 rfl) (sm_in (sm_in (sm_in (Exists.intro 5450 (And.intro (hG.1 125 (Nat.le_of_ble_eq_true rfl)) (And.intro (sm_lin (by decide)) (sm_in (And.intro rfl (And.intro rfl k2t)))))))))))))))))))))))))))))))))))))))))))))))
set_option maxRecDepth 100000 in
theorem w_X11_pardonIt_0 {ex : sm_O} {d n : Nat} {y : sm_Y} {I : Nat → Nat → Int32} {L : Nat → Nat → Int64} {R : Nat → Nat → Option Nat} {Q : sm_Q} {a1 : Int32} (hG : sm_G y R) (k : vp_in (17 + a1) 5450 ∧ vp_in (10 + a1) 5450 ∧ Q none (n, y, sm_st (sm_st I 125 ((17 + a1).toNatClampNeg) 0) 125 ((10 + a1).toNatClampNeg) 0, L, R)) : sm_W ex d 0 0 196 0 [some (.ref 123), some (.int a1)] [] (n, y, I, L, R) Q := sm_in (sm_in (And.intro (hG.1 123 (Nat.le_of_ble_eq_true rfl)) (sm_gfr rfl (hG.2 123 3 rfl) (sm_in (sm_in (sm_in (sm_in ((have e1 := k.1; have k1 := k.2; sm_in (Exists.intro 5450 (And.intro (hG.1 125 (Nat.le_of_ble_eq_true rfl)) (And.intro e1 (sm_in (sm_in (And.intro (hG.1 123 (Nat.le_of_ble_eq_true rfl)) (sm_gfr rfl (hG.2 123 3 rfl) (sm_in (sm_in (sm_in (sm_in ((have e2 := k1.1; have k2 := k1.2; sm_in (Exists.intro 5450 (And.intro (hG.1 125 (Nat.le_of_ble_eq_true rfl)) (And.intro e2 (sm_in (And.intro rfl (And.intro rfl k2))))))))))))))))))))))))))))
set_option maxRecDepth 100000 in
theorem w_X11_relieveIt_0 {ex : sm_O} {d n : Nat} {y : sm_Y} {I : Nat → Nat → Int32} {L : Nat → Nat → Int64} {R : Nat → Nat → Option Nat} {Q : sm_Q} {w2 : Option Value} {a1 : Int32} {d1 : Nat} (hG : sm_G y R) (h1 : d1 < d) (k : sm_W ex d1 0 0 188 0 [some (.ref 123), some (.int a1), some (.int (I 125 8))] [] (n, y, I, L, R) (fun r μ1 => sm_W ex d 0 0 190 12 [some (.ref 123), some (.int a1), w2] (r.toList ++ []) μ1 Q)) : sm_W ex d 0 0 190 0 [some (.ref 123), some (.int a1), w2] [] (n, y, I, L, R) Q := sm_in (sm_in (sm_in (sm_in (And.intro (hG.1 123 (Nat.le_of_ble_eq_true rfl)) (sm_gfr rfl (hG.2 123 3 rfl) (sm_in (sm_in (Exists.intro 5450 (And.intro (hG.1 125 (Nat.le_of_ble_eq_true rfl)) (And.intro (sm_lin (by decide)) (sm_in (Exists.intro 11 (And.intro (hG.1 123 (Nat.le_of_ble_eq_true rfl)) (And.intro rfl (sm_calln h1 (Nat.le_of_ble_eq_true rfl) (Nat.le_of_ble_eq_true rfl) k)))))))))))))))
set_option maxRecDepth 100000 in
theorem w_X11_relieveIt_12 {ex : sm_O} {d n : Nat} {y : sm_Y} {I : Nat → Nat → Int32} {L : Nat → Nat → Int64} {R : Nat → Nat → Option Nat} {Q : sm_Q} {w2 : Option Value} {a1 : Int32} {s0 : Int32} (hG : sm_G y R) (k : Q (some (.int s0)) (n, y, sm_st (sm_st I 125 8 a1) 125 9 0, L, R)) : sm_W ex d 0 0 190 12 [some (.ref 123), some (.int a1), w2] [.int s0] (n, y, I, L, R) Q := sm_in (And.intro (Nat.le_of_ble_eq_true rfl) (sm_in (sm_in (And.intro (hG.1 123 (Nat.le_of_ble_eq_true rfl)) (sm_gfr rfl (hG.2 123 3 rfl) (sm_in (sm_in (sm_in (Exists.intro 5450 (And.intro (hG.1 125 (Nat.le_of_ble_eq_true rfl)) (And.intro (sm_lin (by decide)) (sm_in (sm_in (And.intro (hG.1 123 (Nat.le_of_ble_eq_true rfl)) (sm_gfr rfl (hG.2 123 3 rfl) (sm_in (sm_in (sm_in (Exists.intro 5450 (And.intro (hG.1 125 (Nat.le_of_ble_eq_true rfl)) (And.intro (sm_lin (by decide)) (sm_in (sm_in (And.intro rfl k))))))))))))))))))))))))
def sp_relieve (s : St) (m : Nat) : St := (sMen s, sHold s, sLook s, sTired s, sCash s, some m, 0, sTerm s)
def sp_cashier (s : St) (m : Nat) : St := (sMen s, sHold s, sLook s, sTired s, sm_up (sCash s) m true, if sUp s = some m then none else sUp s, if sUp s = some m then 0 else sHeld s, sTerm s)
def sp_pardon (s : St) (m : Nat) : St := (sMen s, sHold s, sLook s, sm_up (sTired s) m 0, sm_up (sCash s) m false, sUp s, sHeld s, sTerm s)
/-- what moving touches, in the model -/
def mFm (I I' : Nat → Nat → Int32) (L L' : Nat → Nat → Int64) : Prop := (∀ a j, ¬ (a = 123 ∧ (j = 38 ∨ j = 34)) → a ≠ 144 → ¬ (a = 125 ∧ 4 ≤ j ∧ j < 24) → I' a j = I a j) ∧ ∀ a j, a ≠ 143 → a ≠ 141 → ¬ (a = 123 ∧ (j = 39 ∨ j = 40)) → L' a j = L a j
theorem mFm.rfl' (I : Nat → Nat → Int32) (L : Nat → Nat → Int64) : mFm I I L L := ⟨fun _ _ _ _ _ => rfl, fun _ _ _ _ _ => rfl⟩
theorem mFm.trans {I I' I2 : Nat → Nat → Int32} {L L' L2 : Nat → Nat → Int64} (h1 : mFm I I' L L') (h2 : mFm I' I2 L' L2) : mFm I I2 L L2 := ⟨fun a j h g f => (h2.1 a j h g f).trans (h1.1 a j h g f), fun a j h h' h'' => (h2.2 a j h h' h'').trans (h1.2 a j h h' h'')⟩
theorem mFt.m {I I' : Nat → Nat → Int32} {L L' : Nat → Nat → Int64} (h : mFt I I' L L') : mFm I I' L L' := ⟨fun a j h1 _ _ => h.1 a j h1, h.2⟩
theorem mFm.r (I : Nat → Nat → Int32) (L : Nat → Nat → Int64) {i : Nat} (v : Int32) (h1 : 4 ≤ i) (h2 : i < 24) : mFm I (sm_st I 125 i v) L L := ⟨fun a j _ _ h => by
  by_cases ha : a = 125
  · exact sm_st_j _ _ (fun hj => h ⟨ha, by omega, by omega⟩)
  · exact sm_st_o _ _ ha, fun _ _ _ _ _ => rfl⟩
theorem mFm.t (I : Nat → Nat → Int32) (L : Nat → Nat → Int64) (i : Nat) (v : Int32) : mFm I (sm_st I 144 i v) L L := ⟨fun a j _ h _ => sm_st_o _ _ h, fun _ _ _ _ _ => rfl⟩
theorem mForce_r {I I' : Nat → Nat → Int32} {F : Option (Nat × Law)} (h : ∀ j, ¬ (4 ≤ j ∧ j < 24) → I' 125 j = I 125 j) (hF : mForce I F) : mForce I' F := by
  match F, hF with
  | none, hF =>
    show I' 125 3 = -1
    rw [h 3 (by omega)]
    exact hF
  | some (j, l), hF =>
    obtain ⟨h1, h2, h3, h4, h5⟩ := hF
    refine ⟨by rw [h 3 (by omega)]; exact h1, h2, by rw [h _ (by omega)]; exact h3, h4, fun c x hx => ?_⟩
    have e2 : cdB I' (50 + 900 * j) = cdB I (50 + 900 * j) := by
      funext k
      unfold cdB
      rw [h _ (by omega), h _ (by omega)]
    have := h5 c x hx
    unfold mCl at this ⊢
    rw [e2, h _ (by omega), h _ (by omega), h _ (by omega), h _ (by omega), h _ (by omega)]
    exact this
theorem mFm.F {I I' : Nat → Nat → Int32} {L L' : Nat → Nat → Int64} {F : Option (Nat × Law)} (h : mFm I I' L L') (hF : mForce I F) : mForce I' F := mForce_r (fun j hj => h.1 125 j (by simp) (by simp) (fun z => hj z.2)) hF
theorem mFt.S {I I' : Nat → Nat → Int32} {L L' : Nat → Nat → Int64} {s : St} (h : mFt I I' L L') (hs : mS s (I 125)) : mS s (I' 125) := by
  have : I' 125 = I 125 := funext fun j => h.1 125 j (by simp)
  rw [this]
  exact hs
theorem mS_relieve {s : St} {r : Nat → Int32} {m : Nat} (hs : mS s r) (r' : Nat → Int32) (h8 : r' 8 = nI m) (h9 : r' 9 = 0) (ho : ∀ j, j ≠ 8 → j ≠ 9 → r' j = r j) (h7 : sMen s ≤ 7) : mS (sp_relieve s m) r' := by
  obtain ⟨h0, h1, h2, h3, h4⟩ := hs
  refine ⟨by rw [ho 0 (by decide) (by decide)]; exact h0, fun i hi => ?_, h8, h9, fun j hj => ?_⟩
  · have hi' : i < sMen s := hi
    rw [ho _ (by omega) (by omega), ho _ (by omega) (by omega), ho _ (by omega) (by omega), ho _ (by omega) (by omega)]
    exact h1 i hi
  · rw [ho _ (by omega) (by omega)]
    exact h4 j hj
theorem c_X11_relieveIt {ex : sm_O} {n : Nat} {y : sm_Y} {I : Nat → Nat → Int32} {L : Nat → Nat → Int64} {R : Nat → Nat → Option Nat} {Q : sm_Q} {d m : Nat} {w2 : Option Value} {s : St} {F : Option (Nat × Law)} (hd : 6 ≤ d) (hG : sm_G y R) (hs : mS s (I 125)) (hok : sp_ok s) (hm : m < sMen s) (h20 : I 123 20 = 0) (hF : mForce I F)
    (k : ∀ (I' : Nat → Nat → Int32) (L' : Nat → Nat → Int64), mFm I I' L L' → mS (sp_relieve s m) (I' 125) → Q (some (.int (nI (sp_notice F s m (sUp s))))) (n, y, I', L', R)) : sm_W ex d 0 0 190 0 [some (.ref 123), some (.int (nI m)), w2] [] (n, y, I, L, R) Q := by
  refine w_X11_relieveIt_0 (d1 := 5) hG (by omega) ?_
  rw [hs.2.2.1]
  refine c_X11_noticed (s := s) (F := F) (Nat.le_refl 5) hG hs hok hm hok.2.2.1 h20 hF ?_
  intro I' L' hf
  refine w_X11_relieveIt_12 hG ?_
  refine k _ L' (hf.m.trans ((mFm.r I' L' _ (by decide) (by decide)).trans (mFm.r _ L' _ (by decide) (by decide)))) ?_
  refine mS_relieve (r := I' 125) (hf.S hs) _ ?_ ?_ (fun j h8 h9 => ?_) hok.1
  · rw [sm_st_j _ _ (by decide), sm_st_s]
  · rw [sm_st_s]
  · rw [sm_st_j _ _ h9, sm_st_j _ _ h8]
theorem mS_cashier {s : St} {r r' : Nat → Int32} {m : Nat} (hs : mS s r) (hok : sp_ok s) (hm : m < sMen s) (h1 : r' (17 + m) = 1) (h8 : r' 8 = if sUp s = some m then -1 else r 8) (h9 : r' 9 = if sUp s = some m then 0 else r 9) (ho : ∀ j, j ≠ 17 + m → j ≠ 8 → j ≠ 9 → r' j = r j) : mS (sp_cashier s m) r' := by
  have h7 := hok.1
  obtain ⟨g0, g1, g2, g3, g4⟩ := hs
  refine ⟨by rw [ho 0 (by omega) (by decide) (by decide)]; exact g0, fun i hi => ?_, ?_, ?_, fun j hj => ?_⟩
  · have hi' : i < sMen s := hi
    have g := g1 i hi'
    rw [ho (24 + i) (by omega) (by omega) (by omega), ho (31 + i) (by omega) (by omega) (by omega), ho (10 + i) (by omega) (by omega) (by omega)]
    refine ⟨g.1, g.2.1, g.2.2.1, ?_⟩
    show r' (17 + i) = if sm_up (sCash s) m true i = true then 1 else 0
    by_cases e : i = m
    · subst e
      rw [h1]
      simp [sm_up]
    · rw [ho (17 + i) (by omega) (by omega) (by omega)]
      simp only [sm_up, if_neg e]
      exact g.2.2.2
  · rw [h8]
    show _ = sp_up (if sUp s = some m then none else sUp s)
    split
    · rfl
    · exact g2
  · rw [h9]
    show _ = nI (if sUp s = some m then 0 else sHeld s)
    split
    · rfl
    · exact g3
  · rw [ho (4 + j) (by omega) (by omega) (by omega)]
    exact g4 j hj
theorem c_X11_cashier {ex : sm_O} {n : Nat} {y : sm_Y} {I : Nat → Nat → Int32} {L : Nat → Nat → Int64} {R : Nat → Nat → Option Nat} {Q : sm_Q} {d m : Nat} {s : St} (hG : sm_G y R) (hs : mS s (I 125)) (hok : sp_ok s) (hm : m < sMen s)
    (k : ∀ (I' : Nat → Nat → Int32), mFm I I' L L → mS (sp_cashier s m) (I' 125) → Q none (n, y, I', L, R)) : sm_W ex d 0 0 193 0 [some (.ref 123), some (.int (nI m))] [] (n, y, I, L, R) Q := by
  have h7 := hok.1
  refine w_X11_cashier_0 hG ?_
  refine ⟨sm_ci17 (by omega) (by decide), ?_⟩
  rw [sm_cx17 (by omega), sm_st_j _ _ (by omega), hs.2.2.1]
  have f1 := mFm.r I L (i := 17 + m) 1 (by omega) (by omega)
  by_cases hu : sUp s = some m
  · rw [if_pos ((sp_up_eq hok.2.2.1 (by omega) hm).mpr hu)]
    refine k _ (f1.trans ((mFm.r _ L _ (by decide) (by decide)).trans (mFm.r _ L _ (by decide) (by decide)))) ?_
    refine mS_cashier hs hok hm ?_ ?_ ?_ (fun j h1 h2 h3 => ?_)
    · rw [sm_st_j _ _ (by omega), sm_st_j _ _ (by omega), sm_st_s]
    · rw [if_pos hu, sm_st_j _ _ (by omega), sm_st_s]
    · rw [if_pos hu, sm_st_s]
    · rw [sm_st_j _ _ h3, sm_st_j _ _ h2, sm_st_j _ _ h1]
  · rw [if_neg (fun q => hu ((sp_up_eq hok.2.2.1 (by omega) hm).mp q))]
    refine k _ f1 ?_
    refine mS_cashier hs hok hm ?_ ?_ ?_ (fun j h1 h2 h3 => ?_)
    · rw [sm_st_s]
    · rw [if_neg hu, sm_st_j _ _ (by omega)]
    · rw [if_neg hu, sm_st_j _ _ (by omega)]
    · rw [sm_st_j _ _ h1]
theorem c_X11_pardonIt {ex : sm_O} {n : Nat} {y : sm_Y} {I : Nat → Nat → Int32} {L : Nat → Nat → Int64} {R : Nat → Nat → Option Nat} {Q : sm_Q} {d m : Nat} {s : St} (hG : sm_G y R) (hs : mS s (I 125)) (hok : sp_ok s) (hm : m < sMen s)
    (k : ∀ (I' : Nat → Nat → Int32), mFm I I' L L → mS (sp_pardon s m) (I' 125) → Q none (n, y, I', L, R)) : sm_W ex d 0 0 196 0 [some (.ref 123), some (.int (nI m))] [] (n, y, I, L, R) Q := by
  have h7 := hok.1
  refine w_X11_pardonIt_0 hG ?_
  refine ⟨sm_ci17 (by omega) (by decide), sm_ci10 (by omega) (by decide), ?_⟩
  rw [sm_cx17 (by omega), sm_cx10 (by omega)]
  refine k _ ((mFm.r I L (i := 17 + m) 0 (by omega) (by omega)).trans (mFm.r _ L (i := 10 + m) 0 (by omega) (by omega))) ?_
  obtain ⟨g0, g1, g2, g3, g4⟩ := hs
  have ho : ∀ j, j ≠ 17 + m → j ≠ 10 + m → sm_st (sm_st I 125 (17 + m) 0) 125 (10 + m) 0 125 j = I 125 j := fun j h1 h2 => by rw [sm_st_j _ _ h2, sm_st_j _ _ h1]
  refine ⟨by rw [ho 0 (by omega) (by omega)]; exact g0, fun i hi => ?_, by rw [ho 8 (by omega) (by omega)]; exact g2, by rw [ho 9 (by omega) (by omega)]; exact g3, fun j hj => by rw [ho (4 + j) (by omega) (by omega)]; exact g4 j hj⟩
  have hi' : i < sMen s := hi
  have g := g1 i hi'
  rw [ho (24 + i) (by omega) (by omega), ho (31 + i) (by omega) (by omega)]
  refine ⟨g.1, g.2.1, ?_, ?_⟩
  · show _ = nI (sm_up (sTired s) m 0 i)
    by_cases e : i = m
    · subst e
      rw [sm_st_s]
      simp [sm_up]
      rfl
    · rw [ho (10 + i) (by omega) (by omega)]
      simp only [sm_up, if_neg e]
      exact g.2.2.1
  · show _ = if sm_up (sCash s) m false i = true then 1 else 0
    by_cases e : i = m
    · subst e
      rw [sm_st_j _ _ (by omega), sm_st_s]
      simp [sm_up]
    · rw [ho (17 + i) (by omega) (by omega)]
      simp only [sm_up, if_neg e]
      exact g.2.2.2

