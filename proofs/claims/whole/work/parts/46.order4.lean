-- ORDER
def orA (o : Option (Nat × Nat)) : Int32 := match o with
  | none => -1
  | some x => nI x.2
theorem bits_sub_lt {p : Nat → Bool} {men m : Nat} : sp_bits p men - 2 ^ m < 2 ^ men := Nat.lt_of_le_of_lt (Nat.sub_le _ _) (sp_bits_lt p men)
theorem GR_s {ey : Nat → Nat → Nat} {men k left p : Nat} {x : Nat × Nat} (h : bf (lfC ey men left p) men = some x) : GR ey men (k + 1) left p = x.2 :: GR ey men k (left - 2 ^ x.2) x.2 := by
  show (match bf (lfC ey men left p) men with | none => [] | some x => x.2 :: GR ey men k (left - 2 ^ x.2) x.2) = _
  rw [h]
theorem c_X11_canBegin {ex : sm_O} {n : Nat} {y : sm_Y} {I : Nat → Nat → Int32} {L : Nat → Nat → Int64} {R : Nat → Nat → Option Nat} {Q : sm_Q} {d m : Nat} {s : St} (hd : 1 ≤ d) (hG : sm_G y R) (hs : mS s (I 125)) (hok : sp_ok s) (hm : m < sMen s) (k : ∀ x : Int32, ((sCash s m = false ∧ (sUp s = none ∨ sUp s = some m)) ∧ x = 1 ∨ ¬ (sCash s m = false ∧ (sUp s = none ∨ sUp s = some m)) ∧ x = 0) → Q (some (.int x)) (n, y, I, L, R)) : sm_W ex d 0 0 212 0 [some (.ref 123), some (.int (nI m))] [] (n, y, I, L, R) Q := by
  have h7 := hok.1
  refine w_X11_canBegin_0 hG hd ?_
  refine ⟨sm_ci17 (by omega) (by decide), ?_⟩
  rw [sm_cx17 (by omega), (hs.2.1 m hm).2.2.2, hs.2.2.1]
  cases hc : sCash s m with
  | true =>
    rw [if_neg (show ¬ (if true = true then (1 : Int32) else 0) = 0 by decide)]
    exact k 0 (Or.inr ⟨fun z => by rw [hc] at z; exact absurd z.1 (by decide), rfl⟩)
  | false =>
    rw [if_pos (show (if false = true then (1 : Int32) else 0) = 0 by decide)]
    simp only [sp_up_eq hok.2.2.1 (by omega : sMen s ≤ 1000) hm]
    cases hu : sUp s with
    | none =>
      rw [if_pos (show sp_up none = -1 from rfl)]
      exact k 1 (Or.inl ⟨⟨hc, Or.inl hu⟩, rfl⟩)
    | some u =>
      have hum := hok.2.2.1 u hu
      rw [if_neg (show ¬ sp_up (some u) = -1 from nI_m1 (by omega))]
      by_cases hum2 : u = m
      · rw [if_pos (by rw [hum2])]
        exact k 1 (Or.inl ⟨⟨hc, Or.inr (by rw [hu, hum2])⟩, rfl⟩)
      · rw [if_neg (fun z => hum2 (Option.some.inj z))]
        refine k 0 (Or.inr ⟨fun z => ?_, rfl⟩)
        rcases z.2 with z1 | z1
        · rw [hu] at z1; cases z1
        · rw [hu] at z1; exact hum2 (Option.some.inj z1)
theorem pop_sub {left men o : Nat} (h : left < 2 ^ men) (ht : left.testBit o = true) : sp_pop (fun i => left.testBit i) men = sp_pop (fun i => (left - 2 ^ o).testBit i) men + 1 := by
  have ho := tb_lt h ht
  have hg : (fun i => !left.testBit i) o = false := by show (!left.testBit o) = false; rw [ht]; rfl
  have h1 := pop_m (gone := fun i => !left.testBit i) ho hg
  have h2 := bits_m (gone := fun i => !left.testBit i) ho hg
  have e1 : sp_pop (fun i => !(fun i => !left.testBit i) i) men = sp_pop (fun i => left.testBit i) men := sp_pop_ext men (fun i _ => by simp)
  have e2 : sp_bits (fun i => !(fun i => !left.testBit i) i) men = left := by
    refine Eq.trans (sp_bits_ext men (fun i _ => ?_)) (bits_of h)
    simp
  rw [e2] at h2
  have e3 : sp_pop (fun i => (left - 2 ^ o).testBit i) men = sp_pop (fun i => !sm_up (fun i => !left.testBit i) o true i) men := by
    refine sp_pop_ext men (fun i hi => ?_)
    rw [← h2, sp_bits_tb, decide_eq_true hi]
    rfl
  rw [e1] at h1
  rw [e3]
  exact h1
set_option maxHeartbeats 2000000 in
theorem M_order {ex : sm_O} {d : Nat} {w2 w3 w4 w5 w6 : Option Value} {g : GG} {b : Int32} (hd : 8 ≤ d) (hw : Wf g) : MM ex d 213 [some (.ref 123), some (.int b), w2, w3, w4, w5, w6] g (f_order g b) g := by
  intro n y I0 L0 R Q hG hm0 k
  have hok : sp_ok (gS g) := hw.1.1.1
  have h7 : sMen (gS g) ≤ 7 := hok.1
  have hey := sp_ey_le (bF (gB g)) (gS g)
  unfold f_order at k
  have hm := MI_thr hm0
  refine w_X11_order_0 (d1 := 7) hG (by omega) ?_
  refine c_X11_fitBits (s := gS g) (by omega) hG hm.1 h7 ?_
  refine w_X11_order_9 (d1 := 7) (by omega) ?_
  have k0 := k _ L0 hm (mKeep_thr I0)
  by_cases q3 : b < -1
  · rw [if_pos q3]
    rw [if_neg (fun z => absurd q3 (Int32.not_lt.mpr z.1))] at k0
    exact k0
  rw [if_neg q3]
  refine c_X11_many h7 ?_
  refine w_X11_order_20 (d1 := 7) hG (by omega) ?_
  show if b < nI (sp_fit (gS g)) then _ else _
  by_cases q4 : b < nI (sp_fit (gS g))
  · rw [if_pos q4]
    rw [if_pos ⟨Int32.not_lt.mp q3, q4⟩] at k
    have hm20 : (sm_st I0 123 0 0) 123 20 = 0 := hm.2.2.2.2.2.1.2.2.2.2.1
    refine c_X11_layOrders (s := gS g) (F := bF (gB g)) (Nat.le_refl 7) hG hm.1 hok hm20 (hm.F hw) ?_
    intro I L f1 no1 lf1
    have hm1 : MI g I L := MI_scr hw (fun a j q => f1.1 a j (by unfold mscr at q; omega) (by unfold mscr at q; omega) (by unfold mscr at q; omega)) (fun a j q => f1.2 a j (by omega) (by omega) (by omega)) hm
    have k1 := k I L hm1 ((mKeep_thr I0).trans (fun a j q => f1.1 a j (by omega) (by omega) (by omega)))
    have hs := hm1.1
    have e0 := hs.1
    have hlt := sp_bits_lt (fun i => !sCash (gS g) i) (sMen (gS g))
    have hl128 := lt128 h7 hlt
    refine w_X11_order_29 ?_
    have f0 : nI (sp_bits (fun i => !sCash (gS g) i) (sMen (gS g))) = 0 ↔ sp_bits (fun i => !sCash (gS g) i) (sMen (gS g)) = 0 := nI_eq (b := 0) (by omega) (by decide)
    simp only [f0]
    cases hk : sp_fit (gS g) with
    | zero =>
      -- nobody is fit
      have hz := pop_0 (p := fun i => !sCash (gS g) i) (sMen (gS g)) hk
      rw [hk] at q4
      have hb1 : b = -1 := by
        rcases m1_cases (Int32.not_lt.mp q3) with e | e
        · exact e
        · exact absurd (Int32.lt_of_le_of_lt e q4) (by decide)
      have harr : sp_arr (bF (gB g)) (gS g) = some (0, []) := by unfold sp_arr; rw [hk]; rfl
      rw [harr] at k1
      dsimp only at k1
      rw [if_pos hb1] at k1
      rw [if_pos hz, hz]
      have hcash : ∀ m, m < sMen (gS g) → sCash (gS g) m = true := fun m hmm => by
        cases hc : sCash (gS g) m with
        | true => rfl
        | false => exact absurd hz (bits_pos (p := fun i => !sCash (gS g) i) hmm (by simp [hc]))
      have key : ∀ (q j : Nat) (u6 : Option Value), j + q = sMen (gS g) → sm_W ex d 0 0 213 47 [some (.ref 123), some (.int b), some (.int (nI 0)), some (.int 0), some (.int (-1)), some (.int (nI j)), u6] [] (n, y, I, L, R) Q := by
        intro q
        induction q with
        | zero =>
          intro j u6 hj
          obtain rfl : j = sMen (gS g) := by omega
          refine w_X11_order_47 (d1 := 7) hG (by omega) ?_
          rw [e0, if_pos (Int32.le_refl _), if_pos hb1]
          exact k1
        | succ q ih =>
          intro j u6 hj
          refine w_X11_order_47 (d1 := 7) hG (by omega) ?_
          rw [e0, if_neg (by rw [nI_leI (by omega) (by omega)]; omega)]
          refine w_X11_canBegin_0 hG (by omega) ?_
          refine ⟨sm_ci17 (by omega) (by decide), ?_⟩
          rw [sm_cx17 (by omega), (hs.2.1 j (by omega)).2.2.2, hcash j (by omega), if_neg (show ¬ (if true = true then (1 : Int32) else 0) = 0 by decide)]
          refine w_X11_order_64 hG ?_
          rw [if_pos rfl, if_pos (by decide), sm_n1]
          exact ih (j + 1) _ (by omega)
      exact key (sMen (gS g)) 0 _ (by omega)
    | succ kk =>
      have harr := sp_arr_eq (F := bF (gB g)) hok kk hk
      have hpopk : sp_pop (fun i => !sCash (gS g) i) (sMen (gS g)) = kk + 1 := hk
      obtain ⟨i0, hi0, hpi0⟩ := pop_ex (p := fun i => !sCash (gS g) i) (sMen (gS g)) (by omega)
      have hne := bits_pos (p := fun i => !sCash (gS g) i) hi0 hpi0
      rw [if_neg hne]
      -- the least of those who may begin
      have hcl : ∀ m v, orC (bF (gB g)) (gS g) m = some v → v ≤ 693 := fun m v hv => by
        unfold orC at hv
        split at hv
        · cases hv
          exact LF_le2 hey h7 bits_sub_lt
        · cases hv
      have hbl : ∀ j, bfV (bf (orC (bF (gB g)) (gS g)) j) ≤ 100000000 := fun j => by
        cases hb : bf (orC (bF (gB g)) (gS g)) j with
        | none => exact Nat.le_refl _
        | some x =>
          obtain ⟨xv, xm⟩ := x
          have := hcl xm xv (bf_spec _ _ _ _ hb).2.1
          show xv ≤ 100000000
          omega
      have hfit7 := sp_fit_le (gS g)
      -- the rest of the row, man by man
      have walk : ∀ (q t i left p K : Nat) (u3 : Int32) (u6 : Option Value), t + q = i → b = nI i → i < 100 → left < 2 ^ sMen (gS g) → p < sMen (gS g) → q ≤ K → K = sp_pop (fun i => left.testBit i) (sMen (gS g)) → Q (some (.int (nI ((p :: GR (sp_ey (bF (gB g)) (gS g)) (sMen (gS g)) K left p).getD q 0)))) (n, y, I, L, R) → sm_W ex d 0 0 213 147 [some (.ref 123), some (.int b), some (.int (nI left)), some (.int u3), some (.int (nI p)), some (.int (nI t)), u6] [] (n, y, I, L, R) Q := by
        intro q
        induction q with
        | zero =>
          intro t i left p K u3 u6 hti hbi hi hleft hp hqK hK hq
          obtain rfl : t = i := by omega
          refine w_X11_order_147 ?_
          rw [hbi, if_pos (Int32.le_refl _)]
          exact hq
        | succ q ih =>
          intro t i left p K u3 u6 hti hbi hi hleft hp hqK hK hq
          obtain ⟨K1, rfl⟩ : ∃ K1, K = K1 + 1 := ⟨K - 1, by omega⟩
          refine w_X11_order_147 ?_
          rw [hbi, if_neg (by rw [nI_leI (by omega) (by omega)]; omega)]
          obtain ⟨j0, hj0, htj0⟩ := pop_ex (p := fun i => left.testBit i) (sMen (gS g)) (by omega)
          have hleft0 : left ≠ 0 := fun z => by rw [z] at htj0; simp at htj0
          have hl128b : left < 128 := lt128 h7 hleft
          cases hb : bf (lfC (sp_ey (bF (gB g)) (gS g)) (sMen (gS g)) left p) (sMen (gS g)) with
          | none => exact absurd hb (bf_some _ _ j0 _ hj0 (by unfold lfC; rw [if_pos htj0]))
          | some x =>
            obtain ⟨v, o⟩ := x
            obtain ⟨z1, z2, z3, z4⟩ := bf_spec _ _ _ _ hb
            have hLF : LF (sp_ey (bF (gB g)) (gS g)) (sMen (gS g)) left p = v := by rw [LF_eq, if_neg hleft0, hb]; rfl
            have eL : I 150 (7 * left + p) = nI v := by rw [lf1 left p hleft hp, hLF]
            have hv : v ≤ 693 := by rw [← hLF]; exact LF_le2 hey h7 hleft
            rw [GR_s hb] at hq
            have hto : left.testBit o = true := by
              unfold lfC at z2
              split at z2
              · assumption
              · cases z2
            -- the search of the next one
            have scan : ∀ (r a6 : Nat), a6 + r = o → sm_W ex d 0 0 213 156 [some (.ref 123), some (.int (nI i)), some (.int (nI left)), some (.int u3), some (.int (nI p)), some (.int (nI t)), some (.int (nI a6))] [] (n, y, I, L, R) Q := by
              intro r
              induction r with
              | zero =>
                intro a6 ha6
                obtain rfl : a6 = o := by omega
                refine w_X11_order_156 hG (by omega) ?_
                have e7o : (7 : Int32) * nI a6 + nI p = nI (7 * a6 + p) := by rw [show (7 : Int32) = nI 7 from rfl, pk_mul, nI_add]
                have e7l : (7 : Int32) * nI (left - 2 ^ a6) + nI a6 = nI (7 * (left - 2 ^ a6) + a6) := by rw [show (7 : Int32) = nI 7 from rfl, pk_mul, nI_add]
                have e7p : (7 : Int32) * nI left + nI p = nI (7 * left + p) := by rw [show (7 : Int32) = nI 7 from rfl, pk_mul, nI_add]
                have hsub : left - 2 ^ a6 < 128 := Nat.lt_of_le_of_lt (Nat.sub_le _ _) hl128b
                have en : I 149 (7 * a6 + p) = nI (sp_ey (bF (gB g)) (gS g) p a6) := no1 a6 p z1 hp
                have el : I 150 (7 * (left - 2 ^ a6) + a6) = nI (LF (sp_ey (bF (gB g)) (gS g)) (sMen (gS g)) (left - 2 ^ a6) a6) := lf1 (left - 2 ^ a6) a6 (tb_sub hleft) z1
                have hcv : sp_ey (bF (gB g)) (gS g) p a6 + LF (sp_ey (bF (gB g)) (gS g)) (sMen (gS g)) (left - 2 ^ a6) a6 = v := by
                  unfold lfC at z2
                  rw [if_pos hto] at z2
                  exact Option.some.inj z2
                rw [sm_bit7 _ hl128b a6 (by omega), hto, if_pos (show true = true from rfl), if_pos rfl, sm_andn7 _ hl128b a6 (by omega), sm_sub7 _ hl128b a6 (by omega) hto, e7o, e7l, e7p, nI_clamp (by omega), nI_clamp (by omega), nI_clamp (by omega), en, el, eL, nI_add, hcv, if_pos rfl, sm_n1]
                refine ⟨vp_in_nI (by omega) (by decide), vp_in_nI (by omega) (by decide), vp_in_nI (by omega) (by decide), ?_⟩
                have hps := pop_sub hleft hto
                rw [← hbi]
                exact ih (t + 1) i (left - 2 ^ a6) a6 K1 u3 _ (by omega) hbi hi (tb_sub hleft) z1 (by omega) (by omega) hq
              | succ r ihr =>
                intro a6 ha6
                have ha6m : a6 < sMen (gS g) := by omega
                refine w_X11_order_156 hG (by omega) ?_
                rw [sm_bit7 _ hl128b a6 (by omega), sm_n1 a6]
                cases ht6 : left.testBit a6 with
                | false =>
                  rw [if_neg (show ¬ (false = true) by decide), if_neg (show ¬ (0 : Int32) = 1 by decide)]
                  exact ihr (a6 + 1) (by omega)
                | true =>
                  have e7o : (7 : Int32) * nI a6 + nI p = nI (7 * a6 + p) := by rw [show (7 : Int32) = nI 7 from rfl, pk_mul, nI_add]
                  have e7l : (7 : Int32) * nI (left - 2 ^ a6) + nI a6 = nI (7 * (left - 2 ^ a6) + a6) := by rw [show (7 : Int32) = nI 7 from rfl, pk_mul, nI_add]
                  have e7p : (7 : Int32) * nI left + nI p = nI (7 * left + p) := by rw [show (7 : Int32) = nI 7 from rfl, pk_mul, nI_add]
                  have hsub : left - 2 ^ a6 < 128 := Nat.lt_of_le_of_lt (Nat.sub_le _ _) hl128b
                  have en : I 149 (7 * a6 + p) = nI (sp_ey (bF (gB g)) (gS g) p a6) := no1 a6 p ha6m hp
                  have el : I 150 (7 * (left - 2 ^ a6) + a6) = nI (LF (sp_ey (bF (gB g)) (gS g)) (sMen (gS g)) (left - 2 ^ a6) a6) := lf1 (left - 2 ^ a6) a6 (tb_sub hleft) ha6m
                  have hlt6 := z3 a6 _ (by omega) (show lfC (sp_ey (bF (gB g)) (gS g)) (sMen (gS g)) left p a6 = some (sp_ey (bF (gB g)) (gS g) p a6 + LF (sp_ey (bF (gB g)) (gS g)) (sMen (gS g)) (left - 2 ^ a6) a6) by unfold lfC; rw [if_pos ht6])
                  have b1 := LF_le2 (m := a6) hey h7 (tb_sub (o := a6) hleft)
                  have b2 := hey p a6
                  rw [if_pos (show true = true from rfl), if_pos rfl, sm_andn7 _ hl128b a6 (by omega), sm_sub7 _ hl128b a6 (by omega) ht6, e7o, e7l, e7p, nI_clamp (by omega), nI_clamp (by omega), nI_clamp (by omega), en, el, eL, nI_add, if_neg (by rw [nI_eq (by omega) (by omega)]; omega)]
                  exact ⟨vp_in_nI (by omega) (by decide), vp_in_nI (by omega) (by decide), vp_in_nI (by omega) (by decide), ihr (a6 + 1) (by omega)⟩
            exact scan o 0 (by omega)
      -- who begins
      have hend : ∀ x, bf (orC (bF (gB g)) (gS g)) (sMen (gS g)) = some x → sp_arr (bF (gB g)) (gS g) = some (x.1, x.2 :: GR (sp_ey (bF (gB g)) (gS g)) (sMen (gS g)) kk (sp_bits (fun i => !sCash (gS g) i) (sMen (gS g)) - 2 ^ x.2) x.2) := by
        intro x hx
        obtain ⟨xv, xm⟩ := x
        have := hcl xm xv (bf_spec _ _ _ _ hx).2.1
        rw [harr, hx]
        show (if 0 + xv < 1000000 then _ else _) = _
        rw [if_pos (by omega), Nat.zero_add]
        rfl
      have hbs : bf (orC (bF (gB g)) (gS g)) (sMen (gS g)) ≠ none := by
        intro z
        have := sp_arr_some (F := bF (gB g)) hw.1.1
        rw [harr, z] at this
        exact this rfl
      have key : ∀ (q j : Nat) (u6 : Option Value), j + q = sMen (gS g) → sm_W ex d 0 0 213 47 [some (.ref 123), some (.int b), some (.int (nI (sp_bits (fun i => !sCash (gS g) i) (sMen (gS g))))), some (.int (nI (bfV (bf (orC (bF (gB g)) (gS g)) j)))), some (.int (orA (bf (orC (bF (gB g)) (gS g)) j))), some (.int (nI j)), u6] [] (n, y, I, L, R) Q := by
        intro q
        induction q with
        | zero =>
          intro j u6 hj
          obtain rfl : j = sMen (gS g) := by omega
          refine w_X11_order_47 (d1 := 7) hG (by omega) ?_
          rw [e0, if_pos (Int32.le_refl _)]
          cases hx : bf (orC (bF (gB g)) (gS g)) (sMen (gS g)) with
          | none => exact absurd hx hbs
          | some x =>
            have harr2 := hend x hx
            rw [harr2] at k1
            dsimp only at k1
            obtain ⟨xv, xm⟩ := x
            obtain ⟨z1, z2, -, -⟩ := bf_spec _ _ _ _ hx
            have hxm : sCash (gS g) xm = false := by
              unfold orC at z2
              split at z2
              · rename_i hq
                exact hq.1
              · cases z2
            have htx : (sp_bits (fun i => !sCash (gS g) i) (sMen (gS g))).testBit xm = true := by rw [sp_bits_tb, decide_eq_true z1, hxm]; rfl
            rcases m1_cases (Int32.not_lt.mp q3) with e | e
            · rw [if_pos e] at k1 ⊢
              exact k1
            · have hneb : ¬ b = -1 := fun z => by rw [z] at e; exact absurd e (by decide)
              rw [if_neg hneb] at k1 ⊢
              obtain ⟨i, hi, rfl⟩ := nI_of (Int32.not_lt.mpr e)
              have hiN := (nI_ltI hi (by omega)).mp q4
              rw [nI_clamp hi] at k1
              show sm_W ex d 0 0 213 147 [some (.ref 123), some (.int (nI i)), some (.int (nI (sp_bits (fun i => !sCash (gS g) i) (sMen (gS g))) &&& (((1 : Int32) <<< (nI xm &&& 31)) ^^^ (-1)))), some (.int (nI xv)), some (.int (nI xm)), some (.int (nI 0)), u6] [] (n, y, I, L, R) Q
              rw [sm_andn7 _ hl128 xm (by omega), sm_sub7 _ hl128 xm (by omega) htx]
              have hps := pop_sub hlt htx
              have hpe : sp_pop (fun i => (sp_bits (fun i => !sCash (gS g) i) (sMen (gS g))).testBit i) (sMen (gS g)) = kk + 1 := by
                rw [← hpopk]
                exact sp_pop_bits _ _ _ (Nat.le_refl _)
              exact walk i 0 i _ xm kk (nI xv) _ (by omega) rfl (by omega) bits_sub_lt z1 (by omega) (by omega) k1
        | succ q ih =>
          intro j u6 hj
          have hjm : j < sMen (gS g) := by omega
          refine w_X11_order_47 (d1 := 7) hG (by omega) ?_
          rw [e0, if_neg (by rw [nI_leI (by omega) (by omega)]; omega)]
          refine c_X11_canBegin (s := gS g) (by omega) hG hs hok hjm ?_
          intro x hx
          refine w_X11_order_64 hG ?_
          have hbj := hbl j
          have nx := fun u6 => ih (j + 1) u6 (by omega)
          rcases hx with ⟨hx, rfl⟩ | ⟨hx, rfl⟩
          · have hc : orC (bF (gB g)) (gS g) j = some (LF (sp_ey (bF (gB g)) (gS g)) (sMen (gS g)) (sp_bits (fun i => !sCash (gS g) i) (sMen (gS g)) - 2 ^ j) j) := by unfold orC; rw [if_pos hx]
            have htj : (sp_bits (fun i => !sCash (gS g) i) (sMen (gS g))).testBit j = true := by rw [sp_bits_tb, decide_eq_true hjm, hx.1]; rfl
            have hsub : sp_bits (fun i => !sCash (gS g) i) (sMen (gS g)) - 2 ^ j < 128 := Nat.lt_of_le_of_lt (Nat.sub_le _ _) hl128
            have e7l : (7 : Int32) * nI (sp_bits (fun i => !sCash (gS g) i) (sMen (gS g)) - 2 ^ j) + nI j = nI (7 * (sp_bits (fun i => !sCash (gS g) i) (sMen (gS g)) - 2 ^ j) + j) := by rw [show (7 : Int32) = nI 7 from rfl, pk_mul, nI_add]
            have el := lf1 (sp_bits (fun i => !sCash (gS g) i) (sMen (gS g)) - 2 ^ j) j bits_sub_lt hjm
            have hv := hcl j _ hc
            rw [bf_s hc] at nx
            rw [if_neg (by decide), sm_andn7 _ hl128 j (by omega), sm_sub7 _ hl128 j (by omega) htj, e7l, nI_clamp (by omega), el, sm_n1]
            refine ⟨vp_in_nI (by omega) (by decide), ?_⟩
            generalize LF (sp_ey (bF (gB g)) (gS g)) (sMen (gS g)) (sp_bits (fun i => !sCash (gS g) i) (sMen (gS g)) - 2 ^ j) j = v at nx hv ⊢
            cases hb : bf (orC (bF (gB g)) (gS g)) j with
            | none =>
              rw [hb] at nx
              rw [if_neg (by show ¬ nI 100000000 ≤ nI v; rw [nI_leI (by omega) (by omega)]; omega)]
              exact nx _
            | some x =>
              rw [hb] at nx hbj
              dsimp only at nx
              have hbj : x.1 ≤ 100000000 := hbj
              by_cases hlt2 : v < x.1
              · rw [if_pos hlt2] at nx
                rw [if_neg (by show ¬ nI x.1 ≤ nI v; rw [nI_leI (by omega) (by omega)]; omega)]
                exact nx _
              · rw [if_neg hlt2] at nx
                rw [if_pos (by show nI x.1 ≤ nI v; rw [nI_leI (by omega) (by omega)]; omega)]
                exact nx _
          · have hc : orC (bF (gB g)) (gS g) j = none := by unfold orC; rw [if_neg hx]
            rw [bf_n hc] at nx
            rw [if_pos rfl, if_pos (by show nI _ ≤ nI 100000000; rw [nI_leI (by omega) (by omega)]; exact hbj), sm_n1]
            exact nx _
      exact key (sMen (gS g)) 0 _ (by omega)
  · rw [if_neg q4]
    rw [if_neg (fun z => q4 z.2)] at k0
    exact k0

