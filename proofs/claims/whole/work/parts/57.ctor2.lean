-- WHAT IS NEW: Rota
def nI9s : Nat → Nat → (Nat → Nat → Int32) → (Nat → Nat → Int32)
  | 0, _, I => I
  | i + 1, o, I => nI9 (o + (4 + 5 * i)) (nI9s i o I)
def ok8 (y : sm_Y) (R : Nat → Nat → Option Nat) (o b0 : Nat) : Prop := y o = some (.inl 8) ∧ R o 1 = some (o + 1) ∧ R o 2 = some (o + 2) ∧ R o 3 = some (o + 3) ∧ R o 0 = some b0 ∧ y (o + 1) = some (.inr (12, 5)) ∧ y (o + 2) = some (.inr (0, 5)) ∧ y (o + 3) = some (.inr (0, 5)) ∧ ∀ i, i < 5 → R (o + 1) i = some (o + (4 + 5 * i)) ∧ ok9 y R (o + (4 + 5 * i))
theorem ok8_kept {y y' : sm_Y} {R R' : Nat → Nat → Option Nat} {o b0 : Nat} (h : ok8 y R o b0) (hy : ∀ a, o ≤ a → a ≤ o + 28 → y' a = y a) (hR : ∀ a j, o ≤ a → a ≤ o + 28 → R' a j = R a j) : ok8 y' R' o b0 := by
  obtain ⟨h1, h2, h3, h4, h5, h6, h7, h8, h9⟩ := h
  exact ⟨(hy o (by omega) (by omega)).trans h1, (hR o 1 (by omega) (by omega)).trans h2, (hR o 2 (by omega) (by omega)).trans h3, (hR o 3 (by omega) (by omega)).trans h4, (hR o 0 (by omega) (by omega)).trans h5, (hy _ (by omega) (by omega)).trans h6, (hy _ (by omega) (by omega)).trans h7, (hy _ (by omega) (by omega)).trans h8, fun i hi => ⟨(hR _ i (by omega) (by omega)).trans (h9 i hi).1, ok9_kept (h9 i hi).2 (fun a _ _ => hy a (by omega) (by omega)) (fun j => hR _ j (by omega) (by omega))⟩⟩
set_option maxHeartbeats 1000000 in
theorem c_X8_init {ex : sm_O} {y : sm_Y} {I : Nat → Nat → Int32} {L : Nat → Nat → Int64} {R : Nat → Nat → Option Nat} {Q : sm_Q} {d o b0 : Nat} {w2 : Option Value} (hd2 : 2 ≤ d) (hx : exOK ex) (hy : y o = some (.inl 8)) (k : ∀ (y' : sm_Y) (R' : Nat → Nat → Option Nat), nw o y y' R R' → ok8 y' R' o b0 → Q none (o + 29, y', nI9s 5 o I, L, R')) : sm_W ex d 28 195 55 0 [some (.ref o), some (.ref b0), w2] [] (o + 1, y, I, L, R) Q := by
  have hd : 1 ≤ d := by omega
  have loop : ∀ (q i bc bs : Nat) (y2 : sm_Y) (R2 : Nat → Nat → Option Nat), i + q = 5 → bc = 5 * q → bs = 36 * q → nw o y y2 R R2 → y2 o = some (.inl 8) → R2 o 1 = some (o + 1) → R2 o 2 = some (o + 2) → R2 o 3 = some (o + 3) → R2 o 0 = some b0 → y2 (o + 1) = some (.inr (12, 5)) → y2 (o + 2) = some (.inr (0, 5)) → y2 (o + 3) = some (.inr (0, 5)) → (∀ i', i' < i → R2 (o + 1) i' = some (o + (4 + 5 * i')) ∧ ok9 y2 R2 (o + (4 + 5 * i'))) → sm_W ex d bc bs 55 33 [some (.ref o), some (.ref b0), some (.int (nI i))] [] (o + (4 + 5 * i), y2, nI9s i o I, L, R2) Q := by
    intro q
    induction q with
    | zero =>
      intro i bc bs y2 R2 hi hbc hbs hn h0 r1 r2 r3 r0 h1 h2 h3 hl
      obtain rfl : i = 5 := by omega
      have hfin := k y2 R2 hn ⟨h0, r1, r2, r3, r0, h1, h2, h3, hl⟩
      refine sm_in (sm_in (sm_in (And.intro (fun _ => sm_in (And.intro (by omega) (And.intro rfl hfin))) (fun hc => absurd (show (5 : Int32) ≤ nI 5 by decide) hc))))
    | succ q ih =>
      intro i bc bs y2 R2 hi hbc hbs hn h0 r1 r2 r3 r0 h1 h2 h3 hl
      have hi5 : i < 5 := by omega
      have hcl : (nI i).toNatClampNeg = i := nI_clamp (by omega)
      refine sm_in (sm_in (sm_in (And.intro (fun hc => absurd hc (by show ¬ (5 : Int32) ≤ nI i; rw [sm_of 5, nI_leI (by decide) (by omega)]; omega)) (fun _ => sm_in (sm_in (And.intro h0 (sm_gfr rfl r1 (sm_in (sm_in (And.intro (show 1 ≤ bc by omega) (And.intro (show 11 ≤ bs by omega) (sm_in (And.intro rfl (sm_in (sm_cal 1 4 25 (by omega) (show 4 ≤ bc - 1 by omega) (show 25 ≤ bs - 11 by omega) (Nat.le_of_ble_eq_true rfl) (Nat.le_of_ble_eq_true rfl) ?_)))))))))))))))
      refine c_X9_init (o := o + (4 + 5 * i)) (Nat.le_refl 1) hx sm_up_s ?_
      intro y3 R3 n3 ok3
      have e3 : ∀ a, a < o + (4 + 5 * i) → y3 a = y2 a := fun a ha => (n3.1 a (by omega)).trans (sm_up_ne (by omega))
      have g3 : ∀ a j, a < o + (4 + 5 * i) → R3 a j = R2 a j := fun a j ha => n3.2 a j ha
      refine sm_in (Exists.intro 5 (Exists.intro 9 (And.intro ((e3 (o + 1) (by omega)).trans h1) (And.intro ok3.1 (And.intro (vp_in_nI hi5 (by decide)) (sm_in (And.intro (Nat.le_of_ble_eq_true rfl) (sm_in ?_))))))))
      have hs1 : nI i + 1 = nI (i + 1) := sm_n1 i
      have hR : ∀ a j, ¬ (a = o + 1 ∧ j = i) → sm_st R3 (o + 1) (nI i).toNatClampNeg (some (o + (4 + 5 * i))) a j = R3 a j := fun a j q => by rw [hcl]; exact sm_st_or _ _ (by omega)
      have hfin := ih (i + 1) (bc - 1 - 4) (bs - 11 - 25) y3 (sm_st R3 (o + 1) (nI i).toNatClampNeg (some (o + (4 + 5 * i)))) (by omega) (by omega) (by omega) ⟨fun a ha => (e3 a (by omega)).trans (hn.1 a ha), fun a j ha => (hR a j (by omega)).trans ((g3 a j (by omega)).trans (hn.2 a j ha))⟩ ((e3 o (by omega)).trans h0) ((hR o 1 (by omega)).trans ((g3 o 1 (by omega)).trans r1)) ((hR o 2 (by omega)).trans ((g3 o 2 (by omega)).trans r2)) ((hR o 3 (by omega)).trans ((g3 o 3 (by omega)).trans r3)) ((hR o 0 (by omega)).trans ((g3 o 0 (by omega)).trans r0)) ((e3 (o + 1) (by omega)).trans h1) ((e3 (o + 2) (by omega)).trans h2) ((e3 (o + 3) (by omega)).trans h3) (fun i' hi' => by
        by_cases e : i' = i
        · subst e
          rw [hcl]
          exact ⟨sm_st_s _ _ _ _, ok9_kept ok3 (fun _ _ _ => rfl) (fun j => sm_st_or _ _ (by omega))⟩
        · have := hl i' (by omega)
          exact ⟨(hR _ _ (by omega)).trans ((g3 _ _ (by omega)).trans this.1), ok9_kept this.2 (fun a _ _ => e3 a (by omega)) (fun j => (hR _ j (by omega)).trans (g3 _ j (by omega)))⟩)
      rw [← hs1, show o + (4 + 5 * (i + 1)) = o + (4 + 5 * i) + 5 by omega] at hfin
      exact hfin
  refine sm_in (sm_in (And.intro hd (And.intro (Nat.zero_le 8) (sm_in (sm_in (sm_in (And.intro (by decide) (And.intro (by decide) (And.intro (Nat.le_of_ble_eq_true rfl) (And.intro (Nat.le_of_ble_eq_true rfl) (sm_in (And.intro (by (repeat (refine (sm_up_ne (by omega)).trans ?_)); exact hy) (sm_in (sm_in (sm_in (And.intro (by decide) (And.intro (by decide) (And.intro (Nat.le_of_ble_eq_true rfl) (And.intro (Nat.le_of_ble_eq_true rfl) (sm_in (And.intro (by (repeat (refine (sm_up_ne (by omega)).trans ?_)); exact hy) (sm_in (sm_in (sm_in (And.intro (by decide) (And.intro (by decide) (And.intro (Nat.le_of_ble_eq_true rfl) (And.intro (Nat.le_of_ble_eq_true rfl) (sm_in (And.intro (by (repeat (refine (sm_up_ne (by omega)).trans ?_)); exact hy) (sm_in (sm_in (sm_in (And.intro (by (repeat (refine (sm_up_ne (by omega)).trans ?_)); exact hy) (?_)))))))))))))))))))))))))))))))))))
  show sm_W ex d 25 180 55 31 [some (.ref o), some (.ref b0), w2] [] (o + 4, (sm_up (sm_up (sm_up y (o + 1) (some (.inr (12, 5)))) (o + 2) (some (.inr (0, 5)))) (o + 3) (some (.inr (0, 5)))), I, L, (sm_st (sm_st (sm_st (sm_st R o 1 (some (o + 1))) o 2 (some (o + 2))) o 3 (some (o + 3))) o 0 (some b0))) Q
  refine sm_in (sm_in (And.intro (Nat.le_of_ble_eq_true rfl) ?_))
  refine loop 5 0 25 180 (sm_up (sm_up (sm_up y (o + 1) (some (.inr (12, 5)))) (o + 2) (some (.inr (0, 5)))) (o + 3) (some (.inr (0, 5)))) (sm_st (sm_st (sm_st (sm_st R o 1 (some (o + 1))) o 2 (some (o + 2))) o 3 (some (o + 3))) o 0 (some b0)) (by omega) (by omega) (by omega) ⟨fun a ha => by (repeat (refine (sm_up_ne (by omega)).trans ?_)); rfl, fun a j ha => by (repeat (refine (sm_st_or _ _ (by omega)).trans ?_)); rfl⟩ ?_ ?_ ?_ ?_ ?_ ?_ ?_ ?_ (fun i' hi' => absurd hi' (by omega))
  · (repeat (refine (sm_up_ne (by omega)).trans ?_)); exact hy
  · (repeat (refine (sm_st_or _ _ (by omega)).trans ?_)); exact sm_st_s _ _ _ _
  · (repeat (refine (sm_st_or _ _ (by omega)).trans ?_)); exact sm_st_s _ _ _ _
  · (repeat (refine (sm_st_or _ _ (by omega)).trans ?_)); exact sm_st_s _ _ _ _
  · exact sm_st_s _ _ _ _
  · (repeat (refine (sm_up_ne (by omega)).trans ?_)); exact sm_up_s
  · (repeat (refine (sm_up_ne (by omega)).trans ?_)); exact sm_up_s
  · exact sm_up_s

