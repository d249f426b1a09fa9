-- IMAGES: the model
def gIm (g : GG) (k : Nat) (x : Sn) : GG := (g.1, g.2.1, g.2.2.1, fun i => if i = k then some x else gI g i, g.2.2.2.2)
def f_image (g : GG) (a : Int32) : Int32 × GG := if 0 ≤ a ∧ a < 2 then (0, gSt (gIm g a.toNatClampNeg (gK g)) 0) else (-1, gRe g 1)
theorem Wf_im {g : GG} (hw : Wf g) (k : Nat) : Wf (gIm g k (gK g)) := ⟨hw.1, hw.2.1, hw.2.2.1, fun i x hx => by
  have hx : (if i = k then some (gK g) else gI g i) = some x := hx
  by_cases e : i = k
  · rw [if_pos e] at hx
    cases hx
    exact hw.1
  · rw [if_neg e] at hx
    exact hw.2.2.2.1 i x hx, hw.2.2.2.2⟩
theorem Wf_image {g : GG} (hw : Wf g) (a : Int32) : Wf (f_image g a).2 := by
  unfold f_image
  by_cases h : 0 ≤ a ∧ a < 2
  · rw [if_pos h]
    exact Wf_im hw _
  · rw [if_neg h]
    exact hw
set_option maxHeartbeats 1000000 in
theorem M_image {ex : sm_O} {d : Nat} {w2 : Option Value} {g : GG} {a : Int32} (hd : 3 ≤ d) (hw : Wf g) : MM ex d 135 [some (.ref 123), some (.int a), w2] g (f_image g a).1 (f_image g a).2 := by
  intro n y I0 L R Q hG hm k
  have hm := MI_thr hm
  have kp := mKeep_thr I0
  unfold f_image at k
  refine w_X11_image_0 hG (by omega) ?_
  generalize sm_st I0 123 0 0 = I at hm kp ⊢
  refine w_X11_image_12 (d1 := 2) hG (by omega) ?_
  have i2 : ((0 : Int64) ≤ a.toInt64 ∧ a.toInt64 ≤ (1 : Int64)) ↔ (0 ≤ a ∧ a ≤ 1) := sm_in64 (lo := 0) (hi := 1)
  have i3 : (0 ≤ a ∧ a ≤ 1) ↔ (0 ≤ a ∧ a < 2) := le1_lt2 a
  simp only [i2, i3, sm_b]
  by_cases q1 : 0 ≤ a ∧ a < 2
  · rw [if_pos q1, if_neg (show ¬ (1 : Int32) = 0 by decide)]
    rw [if_pos q1] at k
    obtain ⟨x, hx, rfl⟩ := nI_of (Int32.not_lt.mpr q1.1)
    have hx2 : x < 2 := (nI_ltI (b := 2) hx (by decide)).mp q1.2
    have hcl : (nI x).toNatClampNeg = x := nI_clamp hx
    rw [hcl] at k
    have loop : ∀ (q j : Nat) (I2 : Nat → Nat → Int32), j + q = 5450 → (∀ a i, ¬ (a = 126 ∧ 5450 * x ≤ i ∧ i < 5450 * x + 5450) → I2 a i = I a i) → (∀ i, i < j → I2 126 (5450 * x + i) = I 125 i) → sm_W ex d 0 0 135 23 [some (.ref 123), some (.int (nI x)), some (.int (nI j))] [] (n, y, I2, L, R) Q := by
      intro q
      induction q with
      | zero =>
        intro j I2 hj f2 h2
        obtain rfl : j = 5450 := by omega
        refine w_X11_image_23 (d1 := 2) hG (by omega) ?_
        rw [if_pos (show (5450 : Int32) ≤ nI 5450 by decide), hcl]
        refine ⟨vp_in_nI hx2 (by decide), ?_⟩
        refine c_X11_tellP hG (by decide) ?_
        refine w_X11_image_66 ?_
        have f3 : ∀ a i, ¬ (a = 126 ∧ 5450 * x ≤ i ∧ i < 5450 * x + 5450) → ¬ (a = 127 ∧ i = x) → sm_st I2 127 x 1 a i = I a i := fun a i q1 q2 => by rw [sm_st_or _ _ (by omega)]; exact f2 a i q1
        have g3 : ∀ i, i < 5450 → sm_st I2 127 x 1 126 (5450 * x + i) = I 125 i := fun i hi => by rw [sm_st_o _ _ (by decide)]; exact h2 i hi
        have hm2 : MI (gIm g x (gK g)) (sm_st I2 127 x 1) L := by
          obtain ⟨h1, h2', h3, h4, h5, h6, h7, h8, h9⟩ := hm
          have e125 : sm_st I2 127 x 1 125 = I 125 := funext (fun i => f3 125 i (by omega) (by omega))
          refine ⟨?_, ?_, ?_, ⟨?_, fun i z hz => ?_⟩, ⟨?_, fun j hj => ?_⟩, ⟨?_, ?_, ?_, ?_, ?_, fun j hj => ?_⟩, ?_, fun u hk => ?_, h9⟩
          · rw [e125]; exact h1
          · rw [e125]; exact h2'
          · rw [e125]; exact h3
          · rw [f3 123 8 (by omega) (by omega)]; exact h4.1
          · have e128 : ∀ j, sm_st I2 127 x 1 128 j = I 128 j := fun j => f3 128 j (by omega) (by omega)
            have e129 : ∀ j, sm_st I2 127 x 1 129 j = I 129 j := fun j => f3 129 j (by omega) (by omega)
            have := h4.2 i z hz
            simp only [e128, e129]
            exact this
          · rw [f3 123 13 (by omega) (by omega)]; exact h5.1
          · rw [f3 132 j (by omega) (by omega)]; exact h5.2 j hj
          · rw [f3 123 11 (by omega) (by omega)]; exact h6.1
          · rw [f3 123 18 (by omega) (by omega)]; exact h6.2.1
          · rw [f3 123 55 (by omega) (by omega)]; exact h6.2.2.1
          · rw [f3 123 1 (by omega) (by omega)]; exact h6.2.2.2.1
          · rw [f3 123 20 (by omega) (by omega)]; exact h6.2.2.2.2.1
          · rw [f3 124 j (by omega) (by omega)]; exact h6.2.2.2.2.2 j hj
          · have e155 : sm_st I2 127 x 1 155 = I 155 := funext (fun i => f3 155 i (by omega) (by omega))
            have e59 := f3 123 59 (by omega) (by omega)
            show mDr (gD g) (sm_st I2 127 x 1)
            have h7 : mDr (gD g) I := h7
            revert h7
            unfold mDr
            rw [e59, e155]
            exact fun h => h
          · by_cases e : u = x
            · subst e
              show match (if u = u then some (gK g) else gI g u) with
                | none => _
                | some x => _
              rw [if_pos rfl]
              exact ⟨sm_st_s _ _ _ _, mS_ext (fun j q => g3 j (by omega)) hw.1.1.1.1 h1, mP_ext (fun j q => g3 j (by omega)) hw.1.2.1.1 h2', mB_ext (fun j q => g3 j (by omega)) hw.1.2.2.1 h3⟩
            · show match (if u = x then some (gK g) else gI g u) with
                | none => _
                | some x => _
              rw [if_neg e]
              have e127 := f3 127 u (by omega) (by omega)
              have h8 := h8 u hk
              rw [e127]
              cases hgk : gI g u with
              | none =>
                rw [hgk] at h8
                exact h8
              | some z =>
                rw [hgk] at h8
                have hz := hw.2.2.2.1 u z hgk
                have e126 : ∀ j, j < 5450 → sm_st I2 127 x 1 126 (5450 * u + j) = I 126 (5450 * u + j) := fun j hj => f3 126 _ (by omega) (by omega)
                exact ⟨h8.1, mS_ext (fun j q => e126 j (by omega)) hz.1.1.1 h8.2.1, mP_ext (fun j q => e126 j (by omega)) hz.2.1.1 h8.2.2.1, mB_ext (fun j q => e126 j (by omega)) hz.2.2.1 h8.2.2.2⟩
        exact k _ L (MI_acc hm2) (kp.trans (mKeep.trans (fun a i q => f3 a i (by omega) (by omega)) (mKeep_tel _)))
      | succ q ih =>
        intro j I2 hj f2 h2
        have e5 : 5450 * nI x + nI j = nI (5450 * x + j) := by rw [show (5450 : Int32) = nI 5450 from rfl, pk_mul, nI_add]
        refine w_X11_image_23 (d1 := 2) hG (by omega) ?_
        rw [if_neg (by rw [sm_of 5450, nI_leI (by omega) (by omega)]; omega), e5, nI_clamp (by omega), nI_clamp (by omega), sm_n1]
        refine ⟨vp_in_nI (by omega) (by decide), vp_in_nI (by omega) (by decide), ?_⟩
        refine ih (j + 1) _ (by omega) (fun a i q => by rw [sm_st_or _ _ (by omega)]; exact f2 a i q) (fun i hi => ?_)
        by_cases e : i = j
        · subst e
          rw [sm_st_s]
          exact f2 125 _ (by omega)
        · rw [sm_st_j _ _ (by omega)]
          exact h2 i (by omega)
    exact loop 5450 0 I (by omega) (fun _ _ _ => rfl) (fun i hi => absurd hi (by omega))
  · rw [if_neg q1, if_pos rfl]
    rw [if_neg q1] at k
    refine c_X11_tellN (j := 1) hG (by omega) rfl ?_
    exact w_X11_image_20 (k _ L (MI_ref hm) (kp.trans (mKeep_rfu 1 I)))
-- WHAT IS NEW
/-- cells that are not yet there hold nothing -/
theorem sm_zr {ex : sm_O} {d bc bs k pc : Nat} {l : List (Option Value)} {st : List Value} {μ : sm_Mem} {Q : sm_Q} (h : (∀ o j : Nat, μ.1 ≤ o → μ.2.2.1 o j = 0 ∧ μ.2.2.2.1 o j = 0 ∧ μ.2.2.2.2 o j = none) → sm_W ex d bc bs k pc l st μ Q) : sm_W ex d bc bs k pc l st μ Q := fun z E D p l0 e R s m args below meth c Q' H locs cells slots cA ls hF hY hL => h hY.1.2.2.2 z E D p l0 e R s m args below meth c Q' H locs cells slots cA ls hF hY hL
theorem sm_up_ne {α : Type} {y : Nat → α} {n o : Nat} {v : α} (h : o ≠ n) : sm_up y n v o = y o := by
  unfold sm_up
  rw [if_neg h]
theorem sm_up_s {α : Type} {y : Nat → α} {n : Nat} {v : α} : sm_up y n v n = v := by
  unfold sm_up
  rw [if_pos rfl]
theorem sm_cal {X : sm_X} {d bc bs k pc k2 ml : Nat} {l : List (Option Value)} {μ : sm_Mem} {Q : sm_Q} {as rest : List Value} (d1 c1 s1 : Nat) (h1 : d1 < d) (hc : c1 ≤ bc) (hs : s1 ≤ bs) (h8 : sm_ct rest ≤ 8) (has : sm_ct as ≤ ml) (hX : X d1 c1 s1 k2 0 (sm_en as ml) [] μ (fun r μ1 => X d (bc - c1) (bs - s1) k (pc + 3) l (r.toList ++ rest) μ1 Q)) : sm_callN X d bc bs k pc l μ Q k2 ml as rest := ⟨d1, c1, s1, _, h1, hc, hs, h8, has, hX, fun _ _ h => h⟩
def nw (o : Nat) (y y' : sm_Y) (R R' : Nat → Nat → Option Nat) : Prop := (∀ a, a ≤ o → y' a = y a) ∧ ∀ a j, a < o → R' a j = R a j
theorem ok6_kept {y y' : sm_Y} {R R' : Nat → Nat → Option Nat} {o ns nc : Nat} (h : ok6 y R o ns nc) (hy : ∀ a, o ≤ a → a ≤ o + 5 → y' a = y a) (hR : ∀ j, R' o j = R o j) : ok6 y' R' o ns nc := by
  unfold ok6
  rw [hy o (by omega) (by omega), hy (o + 1) (by omega) (by omega), hy (o + 2) (by omega) (by omega), hy (o + 3) (by omega) (by omega), hy (o + 4) (by omega) (by omega), hy (o + 5) (by omega) (by omega), hR, hR, hR, hR, hR]
  exact h
theorem ok9_kept {y y' : sm_Y} {R R' : Nat → Nat → Option Nat} {o : Nat} (h : ok9 y R o) (hy : ∀ a, o ≤ a → a ≤ o + 4 → y' a = y a) (hR : ∀ j, R' o j = R o j) : ok9 y' R' o := by
  unfold ok9
  rw [hy o (by omega) (by omega), hy (o + 1) (by omega) (by omega), hy (o + 2) (by omega) (by omega), hy (o + 3) (by omega) (by omega), hy (o + 4) (by omega) (by omega), hR, hR, hR, hR]
  exact h
theorem ok0_kept {y y' : sm_Y} {R R' : Nat → Nat → Option Nat} {o : Nat} (h : ok0 y R o) (hy : ∀ a, o ≤ a → a ≤ o + 43 → y' a = y a) (hR : ∀ a j, o ≤ a → a ≤ o + 43 → R' a j = R a j) : ok0 y' R' o := by
  obtain ⟨h1, h2, h3, h4, h5, h6⟩ := h
  refine ⟨by rw [hy o (by omega) (by omega)]; exact h1, by rw [hR o 0 (by omega) (by omega)]; exact h2, by rw [hR o 1 (by omega) (by omega)]; exact h3, by rw [hy (o + 1) (by omega) (by omega)]; exact h4, ok6_kept h5 (fun a _ _ => hy a (by omega) (by omega)) (fun j => hR _ j (by omega) (by omega)), fun i hi => ⟨by rw [hR (o + 1) i (by omega) (by omega)]; exact (h6 i hi).1, ok6_kept (h6 i hi).2 (fun a _ _ => hy a (by omega) (by omega)) (fun j => hR _ j (by omega) (by omega))⟩⟩
theorem c_X6_init {ex : sm_O} {y : sm_Y} {I : Nat → Nat → Int32} {L : Nat → Nat → Int64} {R : Nat → Nat → Option Nat} {Q : sm_Q} {d o ns nc : Nat} (hd : 1 ≤ d) (hy : y o = some (.inl 6)) (hns : ns ≤ 200) (hnc : nc ≤ 12) (k : ∀ (y' : sm_Y) (R' : Nat → Nat → Option Nat), nw o y y' R R' → ok6 y' R' o ns nc → Q none (o + 6, y', I, L, R')) : sm_W ex d 5 (ns + 4 * nc) 34 0 [some (.ref o), some (.int (nI nc)), some (.int (nI ns))] [] (o + 1, y, I, L, R) Q := by
  have c1 : (nI ns).toNatClampNeg = ns := nI_clamp (by omega)
  have c2 : (nI nc).toNatClampNeg = nc := nI_clamp (by omega)
  have hnw : nw o y (sm_up (sm_up (sm_up (sm_up (sm_up y (o + 1) (some (.inr (0, (nI ns).toNatClampNeg)))) (o + 1 + 1) (some (.inr (0, (nI nc).toNatClampNeg)))) (o + 1 + 1 + 1) (some (.inr (0, (nI nc).toNatClampNeg)))) (o + 1 + 1 + 1 + 1) (some (.inr (0, (nI nc).toNatClampNeg)))) (o + 1 + 1 + 1 + 1 + 1) (some (.inr (0, (nI nc).toNatClampNeg)))) R (sm_st (sm_st (sm_st (sm_st (sm_st R o 0 (some (o + 1))) o 1 (some (o + 1 + 1))) o 2 (some (o + 1 + 1 + 1))) o 3 (some (o + 1 + 1 + 1 + 1))) o 4 (some (o + 1 + 1 + 1 + 1 + 1))) :=
    ⟨fun a ha => by (repeat (refine (sm_up_ne (by omega)).trans ?_)); rfl, fun a j ha => by (repeat (refine (sm_st_or _ _ (by omega)).trans ?_)); rfl⟩
  have hok : ok6 (sm_up (sm_up (sm_up (sm_up (sm_up y (o + 1) (some (.inr (0, (nI ns).toNatClampNeg)))) (o + 1 + 1) (some (.inr (0, (nI nc).toNatClampNeg)))) (o + 1 + 1 + 1) (some (.inr (0, (nI nc).toNatClampNeg)))) (o + 1 + 1 + 1 + 1) (some (.inr (0, (nI nc).toNatClampNeg)))) (o + 1 + 1 + 1 + 1 + 1) (some (.inr (0, (nI nc).toNatClampNeg)))) (sm_st (sm_st (sm_st (sm_st (sm_st R o 0 (some (o + 1))) o 1 (some (o + 1 + 1))) o 2 (some (o + 1 + 1 + 1))) o 3 (some (o + 1 + 1 + 1 + 1))) o 4 (some (o + 1 + 1 + 1 + 1 + 1))) o ns nc := by
    refine ⟨by (repeat (refine (sm_up_ne (by omega)).trans ?_)); exact hy, ?_, ?_, ?_, ?_, ?_, ?_, ?_, ?_, ?_, ?_⟩
    · (repeat (refine (sm_st_or _ _ (by omega)).trans ?_)); exact sm_st_s _ _ _ _
    · (repeat (refine (sm_st_or _ _ (by omega)).trans ?_)); exact sm_st_s _ _ _ _
    · (repeat (refine (sm_st_or _ _ (by omega)).trans ?_)); exact sm_st_s _ _ _ _
    · (repeat (refine (sm_st_or _ _ (by omega)).trans ?_)); exact sm_st_s _ _ _ _
    · exact sm_st_s _ _ _ _
    · rw [c1]; (repeat (refine (sm_up_ne (by omega)).trans ?_)); exact sm_up_s
    · rw [c1, c2]; (repeat (refine (sm_up_ne (by omega)).trans ?_)); exact sm_up_s
    · rw [c1, c2]; (repeat (refine (sm_up_ne (by omega)).trans ?_)); exact sm_up_s
    · rw [c1, c2]; (repeat (refine (sm_up_ne (by omega)).trans ?_)); exact sm_up_s
    · rw [c1, c2]; exact sm_up_s
  exact sm_in (sm_in (And.intro hd (And.intro (Nat.zero_le 8) (sm_in (sm_in (sm_in (And.intro (nI_pos (by omega)) (And.intro (by rw [c1]; omega) (And.intro (by omega) (And.intro (by simp only [c1, c2]; omega) (sm_in (And.intro (by (repeat (refine (sm_up_ne (by omega)).trans ?_)); exact hy) (sm_in (sm_in (sm_in (And.intro (nI_pos (by omega)) (And.intro (by rw [c2]; omega) (And.intro (by omega) (And.intro (by simp only [c1, c2]; omega) (sm_in (And.intro (by (repeat (refine (sm_up_ne (by omega)).trans ?_)); exact hy) (sm_in (sm_in (sm_in (And.intro (nI_pos (by omega)) (And.intro (by rw [c2]; omega) (And.intro (by omega) (And.intro (by simp only [c1, c2]; omega) (sm_in (And.intro (by (repeat (refine (sm_up_ne (by omega)).trans ?_)); exact hy) (sm_in (sm_in (sm_in (And.intro (nI_pos (by omega)) (And.intro (by rw [c2]; omega) (And.intro (by omega) (And.intro (by simp only [c1, c2]; omega) (sm_in (And.intro (by (repeat (refine (sm_up_ne (by omega)).trans ?_)); exact hy) (sm_in (sm_in (sm_in (And.intro (nI_pos (by omega)) (And.intro (by rw [c2]; omega) (And.intro (by omega) (And.intro (by simp only [c1, c2]; omega) (sm_in (And.intro (by (repeat (refine (sm_up_ne (by omega)).trans ?_)); exact hy) (sm_in (And.intro rfl (And.intro rfl (k _ _ hnw hok))))))))))))))))))))))))))))))))))))))))))))))))))))
def nI9 (o : Nat) (I : Nat → Nat → Int32) : Nat → Nat → Int32 := sm_st (sm_st (sm_st I o 6 (-1)) (o + 4) 1 1) (o + 4) 3 2
theorem c_X9_init {ex : sm_O} {y : sm_Y} {I : Nat → Nat → Int32} {L : Nat → Nat → Int64} {R : Nat → Nat → Option Nat} {Q : sm_Q} {d o : Nat} (hd : 1 ≤ d) (hx : exOK ex) (hy : y o = some (.inl 9)) (k : ∀ (y' : sm_Y) (R' : Nat → Nat → Option Nat), nw o y y' R R' → ok9 y' R' o → Q none (o + 5, y', nI9 o I, L, R')) : sm_W ex d 4 25 61 0 [some (.ref o)] [] (o + 1, y, I, L, R) Q := by
  have h4 : (ex.1 0).1 = 4 := hx.1
  have hnw : nw o y (sm_up (sm_up (sm_up (sm_up y (o + 1) (some (.inr (0, (7 : Int32).toNatClampNeg)))) (o + 1 + 1) (some (.inr (0, (7 : Int32).toNatClampNeg)))) (o + 1 + 1 + 1) (some (.inr (0, (7 : Int32).toNatClampNeg)))) (o + 1 + 1 + 1 + 1) (some (.inr (0, (nI (ex.1 0).1).toNatClampNeg)))) R (sm_st (sm_st (sm_st (sm_st R o 0 (some (o + 1))) o 1 (some (o + 1 + 1))) o 2 (some (o + 1 + 1 + 1))) o 3 (some (o + 1 + 1 + 1 + 1))) :=
    ⟨fun a ha => by (repeat (refine (sm_up_ne (by omega)).trans ?_)); rfl, fun a j ha => by (repeat (refine (sm_st_or _ _ (by omega)).trans ?_)); rfl⟩
  have hy4 : (sm_up (sm_up (sm_up (sm_up y (o + 1) (some (.inr (0, (7 : Int32).toNatClampNeg)))) (o + 1 + 1) (some (.inr (0, (7 : Int32).toNatClampNeg)))) (o + 1 + 1 + 1) (some (.inr (0, (7 : Int32).toNatClampNeg)))) (o + 1 + 1 + 1 + 1) (some (.inr (0, (nI (ex.1 0).1).toNatClampNeg)))) (o + 1 + 1 + 1 + 1) = some (.inr (0, 4)) := by rw [h4]; exact sm_up_s
  have hok : ok9 (sm_up (sm_up (sm_up (sm_up y (o + 1) (some (.inr (0, (7 : Int32).toNatClampNeg)))) (o + 1 + 1) (some (.inr (0, (7 : Int32).toNatClampNeg)))) (o + 1 + 1 + 1) (some (.inr (0, (7 : Int32).toNatClampNeg)))) (o + 1 + 1 + 1 + 1) (some (.inr (0, (nI (ex.1 0).1).toNatClampNeg)))) (sm_st (sm_st (sm_st (sm_st R o 0 (some (o + 1))) o 1 (some (o + 1 + 1))) o 2 (some (o + 1 + 1 + 1))) o 3 (some (o + 1 + 1 + 1 + 1))) o := by
    refine ⟨by (repeat (refine (sm_up_ne (by omega)).trans ?_)); exact hy, ?_, ?_, ?_, ?_, ?_, ?_, ?_, ?_⟩
    · (repeat (refine (sm_st_or _ _ (by omega)).trans ?_)); exact sm_st_s _ _ _ _
    · (repeat (refine (sm_st_or _ _ (by omega)).trans ?_)); exact sm_st_s _ _ _ _
    · (repeat (refine (sm_st_or _ _ (by omega)).trans ?_)); exact sm_st_s _ _ _ _
    · exact sm_st_s _ _ _ _
    · (repeat (refine (sm_up_ne (by omega)).trans ?_)); exact sm_up_s
    · (repeat (refine (sm_up_ne (by omega)).trans ?_)); exact sm_up_s
    · (repeat (refine (sm_up_ne (by omega)).trans ?_)); exact sm_up_s
    · exact hy4
  exact sm_in (sm_in (And.intro hd (And.intro (Nat.zero_le 8) (sm_in (sm_in (sm_in (And.intro (by decide) (And.intro (by decide) (And.intro (by omega) (And.intro (by decide) (sm_in (And.intro (by (repeat (refine (sm_up_ne (by omega)).trans ?_)); exact hy) (sm_in (sm_in (sm_in (And.intro (by decide) (And.intro (by decide) (And.intro (by omega) (And.intro (by decide) (sm_in (And.intro (by (repeat (refine (sm_up_ne (by omega)).trans ?_)); exact hy) (sm_in (sm_in (sm_in (And.intro (by decide) (And.intro (by decide) (And.intro (by omega) (And.intro (by decide) (sm_in (And.intro (by (repeat (refine (sm_up_ne (by omega)).trans ?_)); exact hy) (sm_in (sm_in (sm_in (And.intro (by decide) (sm_in (And.intro (by rw [h4]; decide) (And.intro (by rw [h4]; decide) (And.intro (by omega) (And.intro (by rw [h4]; decide) (sm_in (And.intro (by (repeat (refine (sm_up_ne (by omega)).trans ?_)); exact hy) (sm_in (sm_in (sm_in (And.intro (by (repeat (refine (sm_up_ne (by omega)).trans ?_)); exact hy) (sm_in (sm_in (And.intro (by (repeat (refine (sm_up_ne (by omega)).trans ?_)); exact hy) (sm_gfr rfl (sm_st_s _ _ _ _) (sm_in (sm_in (sm_in (Exists.intro 4 (And.intro hy4 (And.intro (sm_lin (by decide)) (sm_in (sm_in (And.intro (by (repeat (refine (sm_up_ne (by omega)).trans ?_)); exact hy) (sm_gfr rfl (sm_st_s _ _ _ _) (sm_in (sm_in (sm_in (Exists.intro 4 (And.intro hy4 (And.intro (sm_lin (by decide)) (sm_in (And.intro rfl (And.intro rfl (k _ _ hnw hok)))))))))))))))))))))))))))))))))))))))))))))))))))))))))))))))))))))

