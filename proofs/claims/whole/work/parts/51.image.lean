set_option maxRecDepth 100000 in
theorem w_X10_image_0 {ex : sm_O} {d n : Nat} {y : sm_Y} {I : Nat → Nat → Int32} {L : Nat → Nat → Int64} {R : Nat → Nat → Option Nat} {Q : sm_Q} {w0 : Option Value} {a1 : Int32} (k : if a1 < 0 then (sm_W ex d 0 0 109 9 [w0, some (.int a1)] [] (n, y, I, L, R) Q) else (if a1 < 2 then (sm_W ex d 0 0 109 15 [w0, some (.int a1)] [] (n, y, I, L, R) Q) else (sm_W ex d 0 0 109 9 [w0, some (.int a1)] [] (n, y, I, L, R) Q))) : sm_W ex d 0 0 109 0 [w0, some (.int a1)] [] (n, y, I, L, R) Q := sm_in (sm_in (And.intro (fun c1 => have k1t := Eq.mp (if_pos c1) k; k1t) (fun c1 => have k1f := Eq.mp (if_neg c1) k; sm_in (sm_in (sm_in (And.intro (fun c2 => have k2t := Eq.mp (if_pos c2) k1f; k2t) (fun c2 => have k2f := Eq.mp (if_neg c2) k1f; k2f)))))))
set_option maxRecDepth 100000 in
theorem w_X10_image_9 {ex : sm_O} {d n : Nat} {y : sm_Y} {I : Nat → Nat → Int32} {L : Nat → Nat → Int64} {R : Nat → Nat → Option Nat} {Q : sm_Q} {w1 : Option Value} {d1 : Nat} (hG : sm_G y R) (h1 : d1 < d) (k : sm_W ex d1 0 0 122 0 [some (.ref 0), some (.int (-1))] [] (n, y, I, L, R) (fun r μ1 => sm_W ex d 0 0 109 14 [some (.ref 0), w1] (r.toList ++ []) μ1 Q)) : sm_W ex d 0 0 109 9 [some (.ref 0), w1] [] (n, y, I, L, R) Q := sm_in (sm_in (sm_in (Exists.intro 10 (And.intro (hG.1 0 (Nat.le_of_ble_eq_true rfl)) (And.intro rfl (sm_calln h1 (Nat.le_of_ble_eq_true rfl) (Nat.le_of_ble_eq_true rfl) k))))))
set_option maxRecDepth 100000 in
theorem w_X10_image_14 {ex : sm_O} {d n : Nat} {y : sm_Y} {I : Nat → Nat → Int32} {L : Nat → Nat → Int64} {R : Nat → Nat → Option Nat} {Q : sm_Q} {w0 : Option Value} {w1 : Option Value} {s0 : Int32} (k : Q (some (.int s0)) (n, y, I, L, R)) : sm_W ex d 0 0 109 14 [w0, w1] [.int s0] (n, y, I, L, R) Q := sm_in (And.intro rfl k)
set_option maxRecDepth 100000 in
theorem w_X10_image_59 {ex : sm_O} {d n : Nat} {y : sm_Y} {I : Nat → Nat → Int32} {L : Nat → Nat → Int64} {R : Nat → Nat → Option Nat} {Q : sm_Q} {a1 : Int32} {q0 : Nat} {d1 : Nat} (hG : sm_G y R) (ho0 : ok9 y R q0) (h1 : R 117 a1.toNatClampNeg = some q0) (h2 : d1 < d) (k : vp_in a1 2 ∧ sm_W ex d1 0 0 62 0 [some (.ref q0), some (.ref 1)] [] (n, y, I, L, R) (fun r μ1 => sm_W ex d 0 0 109 72 [some (.ref 0), some (.int a1)] (r.toList ++ []) μ1 Q)) : sm_W ex d 0 0 109 59 [some (.ref 0), some (.int a1)] [] (n, y, I, L, R) Q := sm_in (sm_in (And.intro (hG.1 0 (Nat.le_of_ble_eq_true rfl)) (sm_gfr rfl (hG.2 0 9 rfl) (sm_in ((have e1 := k.1; have k1 := k.2; sm_in (Exists.intro 2 (Exists.intro 9 (And.intro (hG.1 117 (Nat.le_of_ble_eq_true rfl)) (And.intro e1 (sm_rrs h1 (sm_in (sm_in (And.intro (hG.1 0 (Nat.le_of_ble_eq_true rfl)) (sm_gfr rfl (hG.2 0 0 rfl) (sm_in (Exists.intro 9 (And.intro (ok9_y0 ho0) (And.intro rfl (sm_calln h2 (Nat.le_of_ble_eq_true rfl) (Nat.le_of_ble_eq_true rfl) k1))))))))))))))))))))
set_option maxRecDepth 100000 in
theorem w_X10_image_72 {ex : sm_O} {d n : Nat} {y : sm_Y} {I : Nat → Nat → Int32} {L : Nat → Nat → Int64} {R : Nat → Nat → Option Nat} {Q : sm_Q} {a1 : Int32} {q0 : Nat} {d1 : Nat} (hG : sm_G y R) (ho0 : ok0 y R q0) (h1 : R 118 a1.toNatClampNeg = some q0) (h2 : d1 < d) (k : vp_in a1 2 ∧ sm_W ex d1 0 0 1 0 [some (.ref q0), some (.ref 6), none] [] (n, y, I, L, R) (fun r μ1 => sm_W ex d 0 0 109 85 [some (.ref 0), some (.int a1)] (r.toList ++ []) μ1 Q)) : sm_W ex d 0 0 109 72 [some (.ref 0), some (.int a1)] [] (n, y, I, L, R) Q := sm_in (sm_in (And.intro (hG.1 0 (Nat.le_of_ble_eq_true rfl)) (sm_gfr rfl (hG.2 0 10 rfl) (sm_in ((have e1 := k.1; have k1 := k.2; sm_in (Exists.intro 2 (Exists.intro 0 (And.intro (hG.1 118 (Nat.le_of_ble_eq_true rfl)) (And.intro e1 (sm_rrs h1 (sm_in (sm_in (And.intro (hG.1 0 (Nat.le_of_ble_eq_true rfl)) (sm_gfr rfl (hG.2 0 1 rfl) (sm_in (Exists.intro 0 (And.intro (ok0_y0 ho0) (And.intro rfl (sm_calln h2 (Nat.le_of_ble_eq_true rfl) (Nat.le_of_ble_eq_true rfl) k1))))))))))))))))))))
set_option maxRecDepth 100000 in
theorem w_X10_image_85 {ex : sm_O} {d n : Nat} {y : sm_Y} {I : Nat → Nat → Int32} {L : Nat → Nat → Int64} {R : Nat → Nat → Option Nat} {Q : sm_Q} {w1 : Option Value} {d1 : Nat} (hG : sm_G y R) (h1 : d1 < d) (k : sm_W ex d1 0 0 121 0 [some (.ref 0), some (.int 0)] [] (n, y, I, L, R) (fun r μ1 => sm_W ex d 0 0 109 90 [some (.ref 0), w1] (r.toList ++ []) μ1 Q)) : sm_W ex d 0 0 109 85 [some (.ref 0), w1] [] (n, y, I, L, R) Q := sm_in (sm_in (sm_in (Exists.intro 10 (And.intro (hG.1 0 (Nat.le_of_ble_eq_true rfl)) (And.intro rfl (sm_calln h1 (Nat.le_of_ble_eq_true rfl) (Nat.le_of_ble_eq_true rfl) k))))))
set_option maxRecDepth 100000 in
theorem w_X10_image_90 {ex : sm_O} {d n : Nat} {y : sm_Y} {I : Nat → Nat → Int32} {L : Nat → Nat → Int64} {R : Nat → Nat → Option Nat} {Q : sm_Q} {w0 : Option Value} {w1 : Option Value} {s0 : Int32} (k : Q (some (.int s0)) (n, y, I, L, R)) : sm_W ex d 0 0 109 90 [w0, w1] [.int s0] (n, y, I, L, R) Q := sm_in (And.intro rfl k)
-- WHAT IS NEW: a Book
set_option maxHeartbeats 1000000 in
theorem c_X0_init {ex : sm_O} {y : sm_Y} {I : Nat → Nat → Int32} {L : Nat → Nat → Int64} {R : Nat → Nat → Option Nat} {Q : sm_Q} {d o : Nat} {w1 : Option Value} (hd2 : 2 ≤ d) (hy : y o = some (.inl 0)) (k : ∀ (y' : sm_Y) (R' : Nat → Nat → Option Nat), nw o y y' R R' → ok0 y' R' o → Q none (o + 44, y', sm_st I o 3 (-1), L, R')) : sm_W ex d 43 1543 0 0 [some (.ref o), w1] [] (o + 1, y, I, L, R) Q := by
  have hd : 1 ≤ d := by omega
  have loop : ∀ (q i bc bs : Nat) (y2 : sm_Y) (R2 : Nat → Nat → Option Nat), i + q = 6 → bc = 6 * q → bs = 255 * q → nw o y y2 R R2 → y2 o = some (.inl 0) → y2 (o + 1) = some (.inr (9, 6)) → R2 o 0 = some (o + 1) → R2 o 1 = some (o + 2) → ok6 y2 R2 (o + 2) 0 0 → (∀ i', i' < i → R2 (o + 1) i' = some (o + (8 + 6 * i')) ∧ ok6 y2 R2 (o + (8 + 6 * i')) 200 12) → sm_W ex d bc bs 0 33 [some (.ref o), some (.int (nI i))] [] (o + (8 + 6 * i), y2, sm_st I o 3 (-1), L, R2) Q := by
    intro q
    induction q with
    | zero =>
      intro i bc bs y2 R2 hi hbc hbs hn h0 h1 r0 r1 hw hl
      obtain rfl : i = 6 := by omega
      have hfin := k y2 R2 hn ⟨h0, r0, r1, h1, hw, hl⟩
      refine sm_in (sm_in (sm_in (And.intro (fun _ => sm_in (And.intro (by omega) (And.intro rfl hfin))) (fun hc => absurd (show (6 : Int32) ≤ nI 6 by decide) hc))))
    | succ q ih =>
      intro i bc bs y2 R2 hi hbc hbs hn h0 h1 r0 r1 hw hl
      have hi6 : i < 6 := by omega
      have hcl : (nI i).toNatClampNeg = i := nI_clamp (by omega)
      refine sm_in (sm_in (sm_in (And.intro (fun hc => absurd hc (by show ¬ (6 : Int32) ≤ nI i; rw [sm_of 6, nI_leI (by decide) (by omega)]; omega)) (fun _ => sm_in (sm_in (And.intro h0 (sm_gfr rfl r0 (sm_in (sm_in (And.intro (show 1 ≤ bc by omega) (And.intro (show 7 ≤ bs by omega) (sm_in (And.intro rfl (sm_in (sm_in (sm_in (sm_cal 1 5 248 (by omega) (show 5 ≤ bc - 1 by omega) (show 248 ≤ bs - 7 by omega) (Nat.le_of_ble_eq_true rfl) (Nat.le_of_ble_eq_true rfl) ?_)))))))))))))))))
      refine c_X6_init (o := o + (8 + 6 * i)) (ns := 200) (nc := 12) (Nat.le_refl 1) sm_up_s (by decide) (by decide) ?_
      intro y3 R3 n3 ok3
      have e3 : ∀ a, a < o + (8 + 6 * i) → y3 a = y2 a := fun a ha => (n3.1 a (by omega)).trans (sm_up_ne (by omega))
      have g3 : ∀ a j, a < o + (8 + 6 * i) → R3 a j = R2 a j := fun a j ha => n3.2 a j ha
      refine sm_in (Exists.intro 6 (Exists.intro 6 (And.intro ((e3 (o + 1) (by omega)).trans h1) (And.intro ok3.1 (And.intro (vp_in_nI hi6 (by decide)) (sm_in (And.intro (Nat.le_of_ble_eq_true rfl) (sm_in ?_))))))))
      have hs1 : nI i + 1 = nI (i + 1) := sm_n1 i
      have hR : ∀ a j, ¬ (a = o + 1 ∧ j = i) → sm_st R3 (o + 1) (nI i).toNatClampNeg (some (o + (8 + 6 * i))) a j = R3 a j := fun a j q => by rw [hcl]; exact sm_st_or _ _ (by omega)
      have hfin := ih (i + 1) (bc - 1 - 5) (bs - 7 - 248) y3 (sm_st R3 (o + 1) (nI i).toNatClampNeg (some (o + (8 + 6 * i)))) (by omega) (by omega) (by omega) ⟨fun a ha => (e3 a (by omega)).trans (hn.1 a ha), fun a j ha => (hR a j (by omega)).trans ((g3 a j (by omega)).trans (hn.2 a j ha))⟩ ((e3 o (by omega)).trans h0) ((e3 (o + 1) (by omega)).trans h1) ((hR o 0 (by omega)).trans ((g3 o 0 (by omega)).trans r0)) ((hR o 1 (by omega)).trans ((g3 o 1 (by omega)).trans r1)) (ok6_kept hw (fun a _ _ => e3 a (by omega)) (fun j => (hR _ j (by omega)).trans (g3 _ j (by omega)))) (fun i' hi' => by
        by_cases e : i' = i
        · subst e
          rw [hcl]
          exact ⟨sm_st_s _ _ _ _, ok6_kept ok3 (fun _ _ _ => rfl) (fun j => sm_st_or _ _ (by omega))⟩
        · have := hl i' (by omega)
          exact ⟨(hR _ _ (by omega)).trans ((g3 _ _ (by omega)).trans this.1), ok6_kept this.2 (fun a _ _ => e3 a (by omega)) (fun j => (hR _ j (by omega)).trans (g3 _ j (by omega)))⟩)
      rw [← hs1, show o + (8 + 6 * (i + 1)) = o + (8 + 6 * i) + 6 by omega] at hfin
      exact hfin
  refine sm_in (sm_in (And.intro hd (And.intro (Nat.zero_le 8) (sm_in (sm_in (sm_in (And.intro (by decide) (And.intro (by decide) (And.intro (Nat.le_of_ble_eq_true rfl) (And.intro (Nat.le_of_ble_eq_true rfl) (sm_in (And.intro (by (repeat (refine (sm_up_ne (by omega)).trans ?_)); exact hy) (sm_in (sm_in (And.intro (Nat.le_of_ble_eq_true rfl) (And.intro (Nat.le_of_ble_eq_true rfl) (sm_in (And.intro rfl (sm_in (sm_in (sm_in (sm_cal 1 5 0 (by omega) (Nat.le_of_ble_eq_true rfl) (Nat.le_of_ble_eq_true rfl) (Nat.le_of_ble_eq_true rfl) (Nat.le_of_ble_eq_true rfl) ?_))))))))))))))))))))))
  refine c_X6_init (o := o + 1 + 1) (ns := 0) (nc := 0) (Nat.le_refl 1) sm_up_s (by decide) (by decide) ?_
  intro y3 R3 n3 ok3
  have e3 : ∀ a, a ≤ o → y3 a = y a := fun a ha => (n3.1 a (by omega)).trans (by (repeat (refine (sm_up_ne (by omega)).trans ?_)); rfl)
  have e31 : y3 (o + 1) = some (.inr (9, 6)) := (n3.1 (o + 1) (by omega)).trans ((sm_up_ne (by omega)).trans sm_up_s)
  have g3 : ∀ a j, a < o + 2 → R3 a j = sm_st R o 0 (some (o + 1)) a j := fun a j ha => n3.2 a j ha
  have hR : ∀ a j, ¬ (a = o ∧ j = 1) → sm_st R3 o 1 (some (o + 2)) a j = R3 a j := fun a j q => sm_st_or _ _ (by omega)
  refine sm_in (And.intro ((e3 o (by omega)).trans hy) (sm_in (sm_in (sm_in (And.intro ((e3 o (by omega)).trans hy) (sm_in (sm_in (And.intro (Nat.le_of_ble_eq_true rfl) ?_))))))))
  exact loop 6 0 36 1530 y3 (sm_st R3 o 1 (some (o + 2))) (by omega) (by omega) (by omega) ⟨e3, fun a j ha => (hR a j (by omega)).trans ((g3 a j (by omega)).trans (sm_st_or _ _ (by omega)))⟩ ((e3 o (by omega)).trans hy) e31 ((hR o 0 (by omega)).trans ((g3 o 0 (by omega)).trans (sm_st_s _ _ _ _))) (sm_st_s _ _ _ _) (ok6_kept ok3 (fun _ _ _ => rfl) (fun j => hR _ j (by omega))) (fun i' hi' => absurd hi' (by omega))
theorem w_X10_image_15n {ex : sm_O} {n : Nat} {y : sm_Y} {I : Nat → Nat → Int32} {L : Nat → Nat → Int64} {R : Nat → Nat → Option Nat} {Q : sm_Q} {d : Nat} {k0 : Nat} (hG : sm_G y R) (hk : k0 < 2) (hr : R 117 k0 = none) (k : sm_W ex d 0 0 109 33 [some (.ref 0), some (.int (nI k0))] [] (n, y, I, L, R) Q) : sm_W ex d 0 0 109 15 [some (.ref 0), some (.int (nI k0))] [] (n, y, I, L, R) Q := sm_in (sm_in (And.intro (hG.1 0 (Nat.le_of_ble_eq_true rfl)) (sm_gfr rfl (hG.2 0 9 rfl) (sm_in (sm_in (Exists.intro 2 (Exists.intro 9 (And.intro (hG.1 117 (Nat.le_of_ble_eq_true rfl)) (And.intro (vp_in_nI hk (by decide)) (sm_rrn (by rw [nI_clamp (by omega)]; exact hr) (sm_in k)))))))))))
theorem w_X10_image_15s {ex : sm_O} {n : Nat} {y : sm_Y} {I : Nat → Nat → Int32} {L : Nat → Nat → Int64} {R : Nat → Nat → Option Nat} {Q : sm_Q} {d : Nat} {k0 o : Nat} (hG : sm_G y R) (hk : k0 < 2) (hr : R 117 k0 = some o) (k : sm_W ex d 0 0 109 24 [some (.ref 0), some (.int (nI k0))] [] (n, y, I, L, R) Q) : sm_W ex d 0 0 109 15 [some (.ref 0), some (.int (nI k0))] [] (n, y, I, L, R) Q := sm_in (sm_in (And.intro (hG.1 0 (Nat.le_of_ble_eq_true rfl)) (sm_gfr rfl (hG.2 0 9 rfl) (sm_in (sm_in (Exists.intro 2 (Exists.intro 9 (And.intro (hG.1 117 (Nat.le_of_ble_eq_true rfl)) (And.intro (vp_in_nI hk (by decide)) (sm_rrs (by rw [nI_clamp (by omega)]; exact hr) (sm_in k)))))))))))
theorem w_X10_image_24s {ex : sm_O} {n : Nat} {y : sm_Y} {I : Nat → Nat → Int32} {L : Nat → Nat → Int64} {R : Nat → Nat → Option Nat} {Q : sm_Q} {d : Nat} {k0 o : Nat} (hG : sm_G y R) (hk : k0 < 2) (hr : R 118 k0 = some o) (k : sm_W ex d 0 0 109 59 [some (.ref 0), some (.int (nI k0))] [] (n, y, I, L, R) Q) : sm_W ex d 0 0 109 24 [some (.ref 0), some (.int (nI k0))] [] (n, y, I, L, R) Q := sm_in (sm_in (And.intro (hG.1 0 (Nat.le_of_ble_eq_true rfl)) (sm_gfr rfl (hG.2 0 10 rfl) (sm_in (sm_in (Exists.intro 2 (Exists.intro 0 (And.intro (hG.1 118 (Nat.le_of_ble_eq_true rfl)) (And.intro (vp_in_nI hk (by decide)) (sm_rrs (by rw [nI_clamp (by omega)]; exact hr) (sm_in k)))))))))))
theorem w_X10_image_n {ex : sm_O} {n : Nat} {y : sm_Y} {I : Nat → Nat → Int32} {L : Nat → Nat → Int64} {R : Nat → Nat → Option Nat} {Q : sm_Q} {d : Nat} {k0 : Nat} (hG : sm_G y R) (hk : k0 < 2) (hr : R 117 k0 = none) (k : sm_W ex d 49 1583 109 33 [some (.ref 0), some (.int (nI k0))] [] (n, y, I, L, R) Q) : sm_W ex d 49 1583 109 0 [some (.ref 0), some (.int (nI k0))] [] (n, y, I, L, R) Q := sm_in (sm_in (And.intro (fun c => absurd c (nI_pos (by omega))) (fun _ => sm_in (sm_in (sm_in (And.intro (fun _ => sm_in (sm_in (And.intro (hG.1 0 (Nat.le_of_ble_eq_true rfl)) (sm_gfr rfl (hG.2 0 9 rfl) (sm_in (sm_in (Exists.intro 2 (Exists.intro 9 (And.intro (hG.1 117 (Nat.le_of_ble_eq_true rfl)) (And.intro (vp_in_nI hk (by decide)) (sm_rrn (by rw [nI_clamp (by omega)]; exact hr) (sm_in k)))))))))))) (fun c => absurd (show nI k0 < (2 : Int32) from (nI_ltI (b := 2) (by omega) (by decide)).mpr hk) c)))))))
def othIm (g : GG) (k1 n : Nat) (y : sm_Y) (I : Nat → Nat → Int32) (R : Nat → Nat → Option Nat) (o q : Nat) : Prop := match gI g k1 with
  | none => R 117 k1 = none ∧ R 118 k1 = none
  | some x => ∃ o2 q2, R 117 k1 = some o2 ∧ R 118 k1 = some q2 ∧ ok9 y R o2 ∧ ok0 y R q2 ∧ 156 ≤ o2 ∧ o2 + 4 < q2 ∧ q2 + 43 < n ∧ cS x.1 o2 I ∧ cP x.2.1 o2 I ∧ cB x.2.2 q2 I ∧ (q2 + 43 < o ∨ q + 43 < o2)
/-- all but the images -/
def CIc (g : GG) (n : Nat) (y : sm_Y) (I : Nat → Nat → Int32) (R : Nat → Nat → Option Nat) : Prop := 156 ≤ n ∧ sm_G y R ∧ cS (gS g) 1 I ∧ cP (gP g) 1 I ∧ cB (gB g) 6 I ∧ cU (gU g) 65 I ∧ cT (gT g) I ∧ cN (gN g) I ∧ cDr (gD g) I
theorem CIc_kept {g : GG} {n n' : Nat} {y y' : sm_Y} {I I' : Nat → Nat → Int32} {R R' : Nat → Nat → Option Nat} (hw : Wf g) (hc : CIc g n y I R) (hn : 156 ≤ n') (hG : sm_G y' R') (h : ∀ a j, a < 156 → I' a j = I a j) : CIc g n' y' I' R' :=
  ⟨hn, hG, cS_kept2 (fun a j q => h a j (by omega)) hc.2.2.1, cP_kept (fun a j q => h a j (by omega)) hc.2.2.2.1, cB_kept hw.1.2.2.1 (fun a j q => h a j (by omega)) hc.2.2.2.2.1, cU_kept (fun a j q => h a j (by omega)) hc.2.2.2.2.2.1, cT_kept (fun a j q => h a j (by omega)) hc.2.2.2.2.2.2.1, cN_kept (fun a j q => h a j (by omega)) hc.2.2.2.2.2.2.2.1, cDr_kept (fun a j q => h a j (by omega)) hc.2.2.2.2.2.2.2.2⟩
set_option maxHeartbeats 1000000 in
theorem c_img {ex : sm_O} {n : Nat} {y : sm_Y} {I : Nat → Nat → Int32} {L : Nat → Nat → Int64} {R : Nat → Nat → Option Nat} {Q : sm_Q} {d k0 o q : Nat} {g : GG} (hd : 4 ≤ d) (hw : Wf g) (hk : k0 < 2) (hc : CIc g n y I R) (r1 : R 117 k0 = some o) (r2 : R 118 k0 = some q) (k9 : ok9 y R o) (kb : ok0 y R q) (n1 : 156 ≤ o) (n2 : o + 4 < q) (n3 : q + 43 < n) (hz : cLaw I (q + 2) []) (oth : othIm g (1 - k0) n y I R o q)
    (k : ∀ (I' : Nat → Nat → Int32) (L' : Nat → Nat → Int64), CI (gSt (gIm g k0 (gK g)) 0) n y I' R → cKeep I I' L L' → Q (some (.int 0)) (n, y, I', L', R)) : sm_W ex d 0 0 109 59 [some (.ref 0), some (.int (nI k0))] [] (n, y, I, L, R) Q := by
  have hG := hc.2.1
  have hcl : (nI k0).toNatClampNeg = k0 := nI_clamp (by omega)
  refine w_X10_image_59 (d1 := 3) hG k9 (by rw [hcl]; exact r1) (by omega) ?_
  refine ⟨vp_in_nI hk (by decide), ?_⟩
  refine c_X9_copyFrom (by omega) k9 (mk1 hG).1 (by unfold cApt; omega) hw.1.1.1.1 hc.2.2.1 ?_
  intro I1 f1 s1 p1
  refine w_X10_image_72 (d1 := 3) hG kb (by rw [hcl]; exact r2) (by omega) ?_
  refine ⟨vp_in_nI hk (by decide), ?_⟩
  have hb1 : cB (gB g) 6 I1 := cB_kept hw.1.2.2.1 (fun a j q => f1 a j (by omega)) hc.2.2.2.2.1
  have hz1 : cLaw I1 (q + 2) [] := cLaw_kept (fun a j q1 q2 => f1 a j (by omega)) hz
  refine c_X0_copyFrom (by omega) kb (mk0 hG) (by omega) hw.1.2.2.1 hb1 hz1 ?_
  intro I2 f2 b2
  refine w_X10_image_85 (d1 := 0) hG (by omega) ?_
  refine c_X10_accepted hG ?_
  refine w_X10_image_90 ?_
  have fr : ∀ a j, ¬ (o ≤ a ∧ a ≤ o + 4) → ¬ (q ≤ a ∧ a ≤ q + 43) → I2 a j = I a j := fun a j q1 q2 => (f2 a j q2).trans (f1 a j q1)
  have hc2 := CIc_kept hw hc hc.1 hG (fun a j q => fr a j (by omega) (by omega))
  have s2 : cS (gS g) o I2 := cS_kept2 (fun a j q => f2 a j (by omega)) s1
  have p2 : cP (gP g) o I2 := by
    unfold cP
    rw [f2 o 8 (by omega), f2 o 9 (by omega), f2 o 10 (by omega), p1.1, p1.2.1, p1.2.2]
    exact hc.2.2.2.1
  have him : cIm (gI (gIm g k0 (gK g))) n y I2 R := by
    unfold othIm at oth
    cases hg1 : gI g (1 - k0) with
    | none =>
      rw [hg1] at oth
      refine ⟨fun _ => o, fun _ => q, fun i hi => ?_, fun z0 z1 => ?_⟩
      · by_cases e : i = k0
        · subst e
          show match (if i = i then some (gK g) else gI g i) with
            | none => _
            | some x => _
          rw [if_pos rfl]
          exact ⟨r1, r2, k9, kb, n1, n2, n3, s2, p2, b2⟩
        · obtain rfl : i = 1 - k0 := by omega
          show match (if 1 - k0 = k0 then some (gK g) else gI g (1 - k0)) with
            | none => _
            | some x => _
          rw [if_neg e, hg1]
          exact oth
      · exfalso
        have hx : ∀ i, i = 1 - k0 → (gI (gIm g k0 (gK g)) i).isSome = true → False := fun i hi hs => by
          have : gI (gIm g k0 (gK g)) i = none := by
            show (if i = k0 then some (gK g) else gI g i) = none
            rw [if_neg (by omega), hi, hg1]
          rw [this] at hs
          cases hs
        by_cases e : k0 = 0
        · exact hx 1 (by omega) z1
        · exact hx 0 (by omega) z0
    | some x =>
      rw [hg1] at oth
      dsimp only at oth
      obtain ⟨o2, q2, a1, a2, a3, a4, a5, a6, a7, a8, a9, a10, a11⟩ := oth
      have hwx := hw.2.2.2.1 _ x hg1
      refine ⟨fun i => if i = k0 then o else o2, fun i => if i = k0 then q else q2, fun i hi => ?_, fun z0 z1 => ?_⟩
      · by_cases e : i = k0
        · subst e
          show match (if i = i then some (gK g) else gI g i) with
            | none => _
            | some x => _
          simp only [if_true]
          exact ⟨r1, r2, k9, kb, n1, n2, n3, s2, p2, b2⟩
        · obtain rfl : i = 1 - k0 := by omega
          show match (if 1 - k0 = k0 then some (gK g) else gI g (1 - k0)) with
            | none => _
            | some x => _
          simp only [if_neg e, hg1]
          exact ⟨a1, a2, a3, a4, a5, a6, a7, cS_kept2 (fun a j q => fr a j (by omega) (by omega)) a8, cP_kept (fun a j q => fr a j (by omega) (by omega)) a9, cB_kept hwx.2.2.1 (fun a j q => fr a j (by omega) (by omega)) a10⟩
      · by_cases e : k0 = 0
        · simp only [if_pos (show (0 : Nat) = k0 from e.symm), if_neg (show ¬ (1 : Nat) = k0 by omega)]
          omega
        · simp only [if_neg (show ¬ (0 : Nat) = k0 by omega), if_pos (show (1 : Nat) = k0 by omega)]
          omega
  have hcb : CIb (gIm g k0 (gK g)) n y I2 R := ⟨hc2.1, hc2.2.1, hc2.2.2.1, hc2.2.2.2.1, hc2.2.2.2.2.1, hc2.2.2.2.2.2.1, hc2.2.2.2.2.2.2.1, hc2.2.2.2.2.2.2.2.1, hc2.2.2.2.2.2.2.2.2, him⟩
  exact k _ L (CI_acc (Wf_im hw k0) hcb) ((cKeep_c (fun a j q => fr a j (by omega) (by omega))).trans (cKeep_acc I2 L))
theorem sm_nth_hi {α : Type} {d : α} : ∀ (l : List α) (i : Nat), l.length ≤ i → sm_nth d l i = d
  | [], _, _ => rfl
  | _ :: t, i + 1, h => sm_nth_hi t i (by simpa using h)
theorem sm_r0_hi {o j : Nat} (h : 156 ≤ o) : sm_r0 o j = 1000 := by
  unfold sm_r0
  rw [sm_nth_hi sm_rl0 o (by show 156 ≤ o; exact h)]
  cases j <;> rfl
theorem sm_r0_im {o j : Nat} (h : o = 117 ∨ o = 118) : sm_r0 o j = 1000 := by
  unfold sm_r0
  rcases h with rfl | rfl
  · rw [show sm_nth [] sm_rl0 117 = [] from rfl]
    cases j <;> rfl
  · rw [show sm_nth [] sm_rl0 118 = [] from rfl]
    cases j <;> rfl
theorem sm_G_kept {y y' : sm_Y} {R R' : Nat → Nat → Option Nat} (hG : sm_G y R) (hy : ∀ a, a < 156 → y' a = y a) (hR : ∀ a j, a < 156 → a ≠ 117 → a ≠ 118 → R' a j = R a j) : sm_G y' R' := by
  refine ⟨fun o ho => (hy o ho).trans (hG.1 o ho), fun o j h => ?_⟩
  by_cases e : o < 156 ∧ o ≠ 117 ∧ o ≠ 118
  · rw [hR o j e.1 e.2.1 e.2.2]
    exact hG.2 o j h
  · exfalso
    have : sm_r0 o j = 1000 := by
      by_cases e2 : 156 ≤ o
      · exact sm_r0_hi e2
      · exact sm_r0_im (by omega)
    rw [this] at h
    exact absurd h (by decide)
/-- image, where it takes the first time 49 cells -/
def nimg (g : GG) (a : Int32) : Nat := if 0 ≤ a ∧ a < 2 then (match gI g a.toNatClampNeg with
  | none => 1
  | some _ => 0) else 0
set_option maxHeartbeats 1000000 in
theorem C_image {ex : sm_O} {d : Nat} {g : GG} {a : Int32} (hd : 5 ≤ d) (hx : exOK ex) (hw : Wf g) : ∀ (n : Nat) (y : sm_Y) (I : Nat → Nat → Int32) (L : Nat → Nat → Int64) (R : Nat → Nat → Option Nat) (Q : sm_Q), CI g n y I R → (∀ (n' : Nat) (y' : sm_Y) (I' : Nat → Nat → Int32) (L' : Nat → Nat → Int64) (R' : Nat → Nat → Option Nat), CI (f_image g a).2 n' y' I' R' → cKeep I I' L L' → n' = n + 49 * nimg g a → Q (some (.int (f_image g a).1)) (n', y', I', L', R')) → sm_W ex d (49 * nimg g a) (1583 * nimg g a) 109 0 [some (.ref 0), some (.int a)] [] (n, y, I, L, R) Q := by
  intro n y I L R Q hc k
  have hG := hc.2.1
  have hcc : CIc g n y I R := ⟨hc.1, hc.2.1, hc.2.2.1, hc.2.2.2.1, hc.2.2.2.2.1, hc.2.2.2.2.2.1, hc.2.2.2.2.2.2.1, hc.2.2.2.2.2.2.2.1, hc.2.2.2.2.2.2.2.2.1⟩
  by_cases q1 : 0 ≤ a ∧ a < 2
  · unfold f_image nimg at k
    unfold nimg
    rw [if_pos q1] at k ⊢
    rw [if_pos q1] at k
    obtain ⟨x, hx0, rfl⟩ := nI_of (Int32.not_lt.mpr q1.1)
    have hx2 : x < 2 := (nI_ltI (b := 2) hx0 (by decide)).mp q1.2
    have hcl : (nI x).toNatClampNeg = x := nI_clamp hx0
    rw [hcl] at k ⊢
    obtain ⟨o, q, him, hap⟩ := hc.2.2.2.2.2.2.2.2.2.1
    have hix := him x hx2
    have hiy := him (1 - x) (by omega)
    cases hgx : gI g x with
    | none =>
      rw [hgx] at hix k
      dsimp only at hix k ⊢
      show sm_W ex d 49 1583 109 0 [some (.ref 0), some (.int (nI x))] [] (n, y, I, L, R) Q
      refine sm_zr (fun hzr => ?_)
      have hzI : ∀ a j, n ≤ a → I a j = 0 := fun a j h => (hzr a j h).1
      have hn156 := hc.1
      refine w_X10_image_n hG hx2 hix.1 ?_
      refine sm_in (sm_in (And.intro (hG.1 0 (Nat.le_of_ble_eq_true rfl)) (sm_gfr rfl (hG.2 0 9 rfl) (sm_in (sm_in (And.intro (Nat.le_of_ble_eq_true rfl) (And.intro (Nat.le_of_ble_eq_true rfl) (sm_in (And.intro rfl (sm_in (sm_cal 3 4 25 (by omega) (Nat.le_of_ble_eq_true rfl) (Nat.le_of_ble_eq_true rfl) (Nat.le_of_ble_eq_true rfl) (Nat.le_of_ble_eq_true rfl) ?_)))))))))))
      refine c_X9_init (o := n) (by omega) hx sm_up_s ?_
      intro y1 R1 n1 ok1
      have e1 : ∀ a, a < n → y1 a = y a := fun a ha => (n1.1 a (by omega)).trans (sm_up_ne (by omega))
      have g1 : ∀ a j, a < n → R1 a j = R a j := fun a j ha => n1.2 a j ha
      refine sm_in (Exists.intro 2 (Exists.intro 9 (And.intro ((e1 117 (by omega)).trans (hG.1 117 (Nat.le_of_ble_eq_true rfl))) (And.intro ok1.1 (And.intro (vp_in_nI hx2 (by decide)) ?_)))))
      rw [show (nI x).toNatClampNeg = x from hcl]
      show sm_W ex d 44 1547 109 46 [some (.ref 0), some (.int (nI x))] [] (n + 5, y1, nI9 n I, L, sm_st R1 117 x (some n)) Q
      have hR2 : ∀ a j, ¬ (a = 117 ∧ j = x) → sm_st R1 117 x (some n) a j = R1 a j := fun a j q => sm_st_or _ _ (by omega)
      have hR2s : sm_st R1 117 x (some n) 117 x = some n := sm_st_s _ _ _ _
      generalize sm_st R1 117 x (some n) = R2 at hR2 hR2s ⊢
      refine sm_in (sm_in (And.intro ((e1 0 (by omega)).trans (hG.1 0 (Nat.le_of_ble_eq_true rfl))) (sm_gfr rfl ((hR2 0 10 (by omega)).trans ((g1 0 10 (by omega)).trans (hG.2 0 10 rfl))) (sm_in (sm_in (And.intro (Nat.le_of_ble_eq_true rfl) (And.intro (Nat.le_of_ble_eq_true rfl) (sm_in (And.intro rfl (sm_in (sm_cal 3 43 1543 (by omega) (Nat.le_of_ble_eq_true rfl) (Nat.le_of_ble_eq_true rfl) (Nat.le_of_ble_eq_true rfl) (Nat.le_of_ble_eq_true rfl) ?_)))))))))))
      refine c_X0_init (o := n + 5) (by omega) sm_up_s ?_
      intro y4 R4 n4 ok4
      have e4 : ∀ a, a < n + 5 → y4 a = y1 a := fun a ha => (n4.1 a (by omega)).trans (sm_up_ne (by omega))
      have g4 : ∀ a j, a < n + 5 → R4 a j = R2 a j := fun a j ha => n4.2 a j ha
      refine sm_in (Exists.intro 2 (Exists.intro 0 (And.intro ((e4 118 (by omega)).trans ((e1 118 (by omega)).trans (hG.1 118 (Nat.le_of_ble_eq_true rfl)))) (And.intro ok4.1 (And.intro (vp_in_nI hx2 (by decide)) ?_)))))
      rw [show (nI x).toNatClampNeg = x from hcl]
      show sm_W ex d 0 0 109 59 [some (.ref 0), some (.int (nI x))] [] (n + 49, y4, sm_st (nI9 n I) (n + 5) 3 (-1), L, sm_st R4 118 x (some (n + 5))) Q
      have hR5 : ∀ a j, ¬ (a = 118 ∧ j = x) → sm_st R4 118 x (some (n + 5)) a j = R4 a j := fun a j q => sm_st_or _ _ (by omega)
      have hR5s : sm_st R4 118 x (some (n + 5)) 118 x = some (n + 5) := sm_st_s _ _ _ _
      generalize sm_st R4 118 x (some (n + 5)) = R5 at hR5 hR5s ⊢
      have RR : ∀ a j, a < n → ¬ (a = 117 ∧ j = x) → ¬ (a = 118 ∧ j = x) → R5 a j = R a j := fun a j h1 h2 h3 => (hR5 a j h3).trans ((g4 a j (by omega)).trans ((hR2 a j h2).trans (g1 a j h1)))
      have YY : ∀ a, a < n → y4 a = y a := fun a ha => (e4 a (by omega)).trans (e1 a ha)
      have hI4 : ∀ a j, ¬ (a = n) → a ≠ n + 4 → a ≠ n + 5 → sm_st (nI9 n I) (n + 5) 3 (-1) a j = I a j := fun a j h1 h2 h3 => by
        unfold nI9
        (repeat (refine (sm_st_or _ _ (by omega)).trans ?_)); rfl
      generalize sm_st (nI9 n I) (n + 5) 3 (-1) = I4 at hI4 ⊢
      have hG5 : sm_G y4 R5 := sm_G_kept hG (fun a ha => YY a (by omega)) (fun a j h1 h2 h3 => RR a j (by omega) (by omega) (by omega))
      show sm_W ex d 0 0 109 59 [some (.ref 0), some (.int (nI x))] [] (n + 49, y4, I4, L, R5) Q
      refine c_img (o := n) (q := n + 5) (by omega) hw hx2 (CIc_kept hw hcc (by omega) hG5 (fun a j h => hI4 a j (by omega) (by omega) (by omega))) ?_ hR5s ?_ ?_ (by omega) (by omega) (by omega) ?_ ?_ ?_
      · exact (hR5 117 x (by omega)).trans ((g4 117 x (by omega)).trans hR2s)
      · exact ok9_kept ok1 (fun a _ _ => e4 a (by omega)) (fun j => (hR5 n j (by omega)).trans ((g4 n j (by omega)).trans (hR2 n j (by omega))))
      · exact ok0_kept ok4 (fun _ _ _ => rfl) (fun a j _ _ => hR5 a j (by omega))
      · refine ⟨(hI4 _ _ (by omega) (by omega) (by omega)).trans (hzI _ _ (by omega)), by decide, fun _ => (0, 0), 0, ⟨(hI4 _ _ (by omega) (by omega) (by omega)).trans (hzI _ _ (by omega)), by decide, fun k hk => absurd hk (by omega)⟩, fun c z hz => by cases hz⟩
      · unfold othIm
        cases hgy : gI g (1 - x) with
        | none =>
          rw [hgy] at hiy
          exact ⟨(RR 117 _ (by omega) (by omega) (by omega)).trans hiy.1, (RR 118 _ (by omega) (by omega) (by omega)).trans hiy.2⟩
        | some z =>
          rw [hgy] at hiy
          dsimp only at hiy ⊢
          obtain ⟨a1, a2, a3, a4, a5, a6, a7, a8, a9, a10⟩ := hiy
          have hwz := hw.2.2.2.1 _ z hgy
          exact ⟨o (1 - x), q (1 - x), (RR 117 _ (by omega) (by omega) (by omega)).trans a1, (RR 118 _ (by omega) (by omega) (by omega)).trans a2, ok9_kept a3 (fun a _ _ => YY a (by omega)) (fun j => RR _ j (by omega) (by omega) (by omega)), ok0_kept a4 (fun a _ _ => YY a (by omega)) (fun a j _ _ => RR a j (by omega) (by omega) (by omega)), a5, a6, by omega, cS_kept2 (fun a j q => hI4 a j (by omega) (by omega) (by omega)) a8, cP_kept (fun a j q => hI4 a j (by omega) (by omega) (by omega)) a9, cB_kept hwz.2.2.1 (fun a j q => hI4 a j (by omega) (by omega) (by omega)) a10, by omega⟩
      · intro I' L' hc' hk'
        exact k _ y4 I' L' R5 hc' (cKeep.trans (cKeep_c (fun a j q => hI4 a j (by omega) (by omega) (by omega))) hk') rfl
    | some sn =>
      rw [hgx] at hix k
      dsimp only at hix k ⊢
      obtain ⟨r1, r2, k9, kb, n1, n2, n3, hs, hp, hb⟩ := hix
      show sm_W ex d 0 0 109 0 [some (.ref 0), some (.int (nI x))] [] (n, y, I, L, R) Q
      refine w_X10_image_0 ?_
      rw [if_neg (nI_pos (by omega)), if_pos q1.2]
      refine w_X10_image_15s hG hx2 r1 ?_
      refine w_X10_image_24s hG hx2 r2 ?_
      refine c_img (by omega) hw hx2 hcc r1 r2 k9 kb n1 n2 n3 hb.2.2.1 ?_ (fun I' L' hc' hk' => k n y I' L' R hc' hk' rfl)
      unfold othIm
      cases hgy : gI g (1 - x) with
      | none =>
        rw [hgy] at hiy
        exact hiy
      | some z =>
        rw [hgy] at hiy
        dsimp only at hiy ⊢
        obtain ⟨a1, a2, a3, a4, a5, a6, a7, a8, a9, a10⟩ := hiy
        refine ⟨o (1 - x), q (1 - x), a1, a2, a3, a4, a5, a6, a7, a8, a9, a10, ?_⟩
        by_cases e : x = 0
        · subst e
          have := hap (by rw [hgx]; rfl) (by rw [hgy]; rfl)
          exact this.symm
        · obtain rfl : x = 1 := by omega
          exact hap (by rw [hgy]; rfl) (by rw [hgx]; rfl)
  · unfold f_image nimg at k
    unfold nimg
    rw [if_neg q1] at k ⊢
    rw [if_neg q1] at k
    show sm_W ex d 0 0 109 0 [some (.ref 0), some (.int a)] [] (n, y, I, L, R) Q
    have fin : sm_W ex d 0 0 109 9 [some (.ref 0), some (.int a)] [] (n, y, I, L, R) Q := by
      refine w_X10_image_9 (d1 := 0) hG (by omega) ?_
      refine c_X10_refused (j := 1) hG (by omega) rfl ?_
      exact w_X10_image_14 (k n y _ L R (CI_ref hw hc (by omega)) (cKeep_ref 1 I L) rfl)
    refine w_X10_image_0 ?_
    by_cases q2 : a < 0
    · rw [if_pos q2]
      exact fin
    · rw [if_neg q2, if_neg (fun z => q1 ⟨Int32.not_lt.mp q2, z⟩)]
      exact fin

