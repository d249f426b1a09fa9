-- ORDER (the model's memory)
def noOk (F : Option (Nat × Law)) (s : St) (I : Nat → Nat → Int32) : Prop := ∀ a b, a < sMen s → b < sMen s → I 149 (7 * a + b) = nI (sp_ey F s b a)
def noF (I I' : Nat → Nat → Int32) (L L' : Nat → Nat → Int64) : Prop := (∀ a j, ¬ (a = 123 ∧ (j = 38 ∨ j = 34)) → a ≠ 149 → I' a j = I a j) ∧ ∀ a j, a ≠ 143 → a ≠ 141 → ¬ (a = 123 ∧ (j = 39 ∨ j = 40)) → L' a j = L a j
theorem noF.rfl' (I : Nat → Nat → Int32) (L : Nat → Nat → Int64) : noF I I L L := ⟨fun _ _ _ _ => rfl, fun _ _ _ _ _ => rfl⟩
theorem noF.trans {I I' I2 : Nat → Nat → Int32} {L L' L2 : Nat → Nat → Int64} (h1 : noF I I' L L') (h2 : noF I' I2 L' L2) : noF I I2 L L2 := ⟨fun a j q1 q2 => (h2.1 a j q1 q2).trans (h1.1 a j q1 q2), fun a j q1 q2 q3 => (h2.2 a j q1 q2 q3).trans (h1.2 a j q1 q2 q3)⟩
set_option maxHeartbeats 1000000 in
theorem c_X11_layNotice {ex : sm_O} {n : Nat} {y : sm_Y} {I : Nat → Nat → Int32} {L : Nat → Nat → Int64} {R : Nat → Nat → Option Nat} {Q : sm_Q} {d : Nat} {w1 w2 : Option Value} {s : St} {F : Option (Nat × Law)} (hd : 6 ≤ d) (hG : sm_G y R) (hs : mS s (I 125)) (hok : sp_ok s) (h20 : I 123 20 = 0) (hF : mForce I F)
    (k : ∀ (I' : Nat → Nat → Int32) (L' : Nat → Nat → Int64), noF I I' L L' → noOk F s I' → Q none (n, y, I', L', R)) : sm_W ex d 0 0 210 0 [some (.ref 123), w1, w2] [] (n, y, I, L, R) Q := by
  have h7 := hok.1
  have outer : ∀ (q i : Nat) (I1 : Nat → Nat → Int32) (L1 : Nat → Nat → Int64) (w2 : Option Value), i + q = sMen s → noF I I1 L L1 → (∀ a b, a < i → b < sMen s → I1 149 (7 * a + b) = nI (sp_ey F s b a)) → sm_W ex d 0 0 210 2 [some (.ref 123), some (.int (nI i)), w2] [] (n, y, I1, L1, R) Q := by
    intro q
    induction q with
    | zero =>
      intro i I1 L1 w2 hi f1 h1
      obtain rfl : i = sMen s := by omega
      refine w_X11_layNotice_2 hG ?_
      rw [f1.1 125 0 (by omega) (by omega), hs.1, if_pos (Int32.le_refl _)]
      exact k I1 L1 f1 h1
    | succ q ih =>
      intro i I1 L1 w2 hi f1 h1
      have him : i < sMen s := by omega
      have inner : ∀ (p j : Nat) (I2 : Nat → Nat → Int32) (L2 : Nat → Nat → Int64), j + p = sMen s → noF I I2 L L2 → (∀ a b, (a < i ∨ (a = i ∧ b < j)) → b < sMen s → I2 149 (7 * a + b) = nI (sp_ey F s b a)) → sm_W ex d 0 0 210 14 [some (.ref 123), some (.int (nI i)), some (.int (nI j))] [] (n, y, I2, L2, R) Q := by
        intro p
        induction p with
        | zero =>
          intro j I2 L2 hj f2 h2
          obtain rfl : j = sMen s := by omega
          refine w_X11_layNotice_14 (d1 := 5) hG (by omega) ?_
          rw [f2.1 125 0 (by omega) (by omega), hs.1, if_pos (Int32.le_refl _), sm_n1]
          exact ih (i + 1) I2 L2 _ (by omega) f2 (fun a b ha hb => h2 a b (by omega) hb)
        | succ p ihp =>
          intro j I2 L2 hj f2 h2
          have hjm : j < sMen s := by omega
          have e7 : (7 : Int32) * nI i + nI j = nI (7 * i + j) := by rw [show (7 : Int32) = nI 7 from rfl, pk_mul, nI_add]
          have put : ∀ (I3 : Nat → Nat → Int32) (L3 : Nat → Nat → Int64) (v : Nat), mFt I2 I3 L2 L3 → v = sp_ey F s j i → sm_W ex d 0 0 210 49 [some (.ref 123), some (.int (nI i)), some (.int (nI j))] [.int (nI v), .int (nI (7 * i + j)), .ref 149] (n, y, I3, L3, R) Q := by
            intro I3 L3 v f3 hv
            refine w_X11_layNotice_49 hG ?_
            rw [nI_clamp (by omega), sm_n1]
            refine ⟨vp_in_nI (by omega) (by decide), ihp (j + 1) _ _ (by omega) ⟨fun a j q1 q2 => by rw [sm_st_o _ _ q2, f3.1 a j q1]; exact f2.1 a j q1 q2, fun a j q1 q2 q3 => (f3.2 a j q1 q2 q3).trans (f2.2 a j q1 q2 q3)⟩ (fun a b hab hb => ?_)⟩
            by_cases e : a = i ∧ b = j
            · obtain ⟨rfl, rfl⟩ := e
              rw [sm_st_s, hv]
            · rw [sm_st_j _ _ (by omega), f3.1 149 _ (by omega)]
              exact h2 a b (by omega) hb
          refine w_X11_layNotice_14 (d1 := 5) hG (by omega) ?_
          rw [f2.1 125 0 (by omega) (by omega), hs.1, if_neg (by rw [nI_leI (by omega) (by omega)]; omega), e7]
          by_cases eij : i = j
          · rw [if_pos (by rw [eij])]
            exact put I2 L2 0 (mFt.rfl' I2 L2) (by unfold sp_ey; rw [if_pos eij.symm])
          · rw [if_neg (by rw [nI_eq (by omega) (by omega)]; omega)]
            refine c_X11_noticed (s := s) (F := F) (other := some j) (by omega) hG (mS_ext (fun j q => f2.1 125 j (by omega) (by omega)) h7 hs) hok him (fun o ho => by cases ho; exact hjm) ((f2.1 123 20 (by omega) (by omega)).trans h20) (mForce_r (fun j hj => f2.1 125 j (by omega) (by omega)) hF) ?_
            intro I3 L3 f3
            exact put I3 L3 _ f3 (by unfold sp_ey; rw [if_neg (fun z => eij z.symm)])
      refine w_X11_layNotice_2 hG ?_
      rw [f1.1 125 0 (by omega) (by omega), hs.1, if_neg (by rw [nI_leI (by omega) (by omega)]; omega)]
      exact inner (sMen s) 0 I1 L1 (by omega) f1 (fun a b hab hb => h1 a b (by omega) hb)
  refine w_X11_layNotice_0 ?_
  exact outer (sMen s) 0 I L _ (by omega) (noF.rfl' I L) (fun a b ha => absurd ha (by omega))
theorem bf_s {c : Nat → Option Nat} {j v : Nat} (h : c j = some v) : bf c (j + 1) = match bf c j with
    | none => some (v, j)
    | some x => if v < x.1 then some (v, j) else some x := by
  show (match c j with | none => bf c j | some v => (match bf c j with | none => some (v, j) | some x => if v < x.1 then some (v, j) else some x)) = _
  rw [h]
theorem bf_n {c : Nat → Option Nat} {j : Nat} (h : c j = none) : bf c (j + 1) = bf c j := by
  show (match c j with | none => bf c j | some v => (match bf c j with | none => some (v, j) | some x => if v < x.1 then some (v, j) else some x)) = _
  rw [h]
theorem bits_of {left men : Nat} (h : left < 2 ^ men) : sp_bits (fun i => left.testBit i) men = left := by
  apply Nat.eq_of_testBit_eq
  intro i
  rw [sp_bits_tb]
  by_cases hi : i < men
  · simp [hi]
  · rw [Nat.testBit_lt_two_pow (Nat.lt_of_lt_of_le h (Nat.pow_le_pow_right (by decide) (by omega)))]
    simp
theorem LF_le2 {ey : Nat → Nat → Nat} {men left m : Nat} (hey : ∀ a b, ey a b ≤ 99) (h7 : men ≤ 7) (h : left < 2 ^ men) : LF ey men left m ≤ 693 := by
  have h1 := LF_le (men := men) hey (sp_pop (fun i => !(fun i => !left.testBit i) i) men) (fun i => !left.testBit i) m rfl
  have h2 := sp_pop_le (fun i => !(fun i => !left.testBit i) i) men
  have e : sp_bits (fun i => !(fun i => !left.testBit i) i) men = left := by
    refine Eq.trans (sp_bits_ext men (fun i _ => ?_)) (bits_of h)
    simp
  rw [e] at h1
  omega
theorem sm_sub7 : ∀ s, s < 128 → ∀ o, o < 7 → s.testBit o = true → s &&& (127 - 2 ^ o) = s - 2 ^ o := by decide +kernel
theorem tb_sub {left men o : Nat} (h : left < 2 ^ men) : left - 2 ^ o < 2 ^ men := Nat.lt_of_le_of_lt (Nat.sub_le _ _) h
theorem tb_lt {left men o : Nat} (h : left < 2 ^ men) (ht : left.testBit o = true) : o < men := by
  by_cases hi : o < men
  · exact hi
  · rw [Nat.testBit_lt_two_pow (Nat.lt_of_lt_of_le h (Nat.pow_le_pow_right (by decide) (by omega)))] at ht
    cases ht
theorem tb_ge {left o : Nat} (ht : left.testBit o = true) : 2 ^ o ≤ left := Nat.ge_two_pow_of_testBit ht
def lfOk (F : Option (Nat × Law)) (s : St) (I : Nat → Nat → Int32) : Prop := ∀ left m, left < 2 ^ sMen s → m < sMen s → I 150 (7 * left + m) = nI (LF (sp_ey F s) (sMen s) left m)
def lfF2 (I I' : Nat → Nat → Int32) (L L' : Nat → Nat → Int64) : Prop := (∀ a j, ¬ (a = 123 ∧ (j = 38 ∨ j = 34)) → a ≠ 149 → a ≠ 150 → I' a j = I a j) ∧ ∀ a j, a ≠ 143 → a ≠ 141 → ¬ (a = 123 ∧ (j = 39 ∨ j = 40)) → L' a j = L a j
set_option maxHeartbeats 2000000 in
theorem c_X11_layOrders {ex : sm_O} {n : Nat} {y : sm_Y} {I : Nat → Nat → Int32} {L : Nat → Nat → Int64} {R : Nat → Nat → Option Nat} {Q : sm_Q} {d : Nat} {w1 w2 w3 w4 w5 : Option Value} {s : St} {F : Option (Nat × Law)} (hd : 7 ≤ d) (hG : sm_G y R) (hs : mS s (I 125)) (hok : sp_ok s) (h20 : I 123 20 = 0) (hF : mForce I F)
    (k : ∀ (I' : Nat → Nat → Int32) (L' : Nat → Nat → Int64), lfF2 I I' L L' → noOk F s I' → lfOk F s I' → Q none (n, y, I', L', R)) : sm_W ex d 0 0 211 0 [some (.ref 123), w1, w2, w3, w4, w5] [] (n, y, I, L, R) Q := by
  have h7 := hok.1
  have hp7 : 2 ^ sMen s ≤ 128 := show 2 ^ sMen s ≤ 2 ^ 7 from Nat.pow_le_pow_right (by decide) h7
  refine w_X11_layOrders_0 (d1 := 6) hG (by omega) ?_
  refine c_X11_layNotice (s := s) (F := F) (Nat.le_refl 6) hG hs hok h20 hF ?_
  intro I1 L1 f1 no1
  refine w_X11_layOrders_4 ?_
  have e0 : ∀ I2 : Nat → Nat → Int32, (∀ a j, a ≠ 150 → I2 a j = I1 a j) → I2 125 0 = nI (sMen s) := fun I2 f2 => by rw [f2 125 0 (by decide), f1.1 125 0 (by omega) (by omega)]; exact hs.1
  have hey := sp_ey_le F s
  have outer : ∀ (q left : Nat) (I2 : Nat → Nat → Int32) (w2 w3 w4 w5 : Option Value), left + q = 128 → (∀ a j, a ≠ 150 → I2 a j = I1 a j) → (∀ l m, l < left → l < 2 ^ sMen s → m < sMen s → I2 150 (7 * l + m) = nI (LF (sp_ey F s) (sMen s) l m)) → sm_W ex d 0 0 211 6 [some (.ref 123), some (.int (nI left)), w2, w3, w4, w5] [] (n, y, I2, L1, R) Q := by
    intro q
    induction q with
    | zero =>
      intro left I2 w2 w3 w4 w5 hl f2 h2
      obtain rfl : left = 128 := by omega
      refine w_X11_layOrders_6 ?_
      rw [if_pos (by decide)]
      exact k I2 L1 ⟨fun a j q1 q2 q3 => (f2 a j q3).trans (f1.1 a j q1 q2), f1.2⟩ (fun a b ha hb => (f2 149 _ (by decide)).trans (no1 a b ha hb)) (fun l m hl hm => h2 l m (by omega) hl hm)
    | succ q ih =>
      intro left I2 w2 w3 w4 w5 hl f2 h2
      have middle : ∀ (p m : Nat) (I3 : Nat → Nat → Int32) (w3 w4 w5 : Option Value), m + p = sMen s → (∀ a j, a ≠ 150 → I3 a j = I1 a j) → (∀ l m', (l < left ∨ (l = left ∧ m' < m)) → l < 2 ^ sMen s → m' < sMen s → I3 150 (7 * l + m') = nI (LF (sp_ey F s) (sMen s) l m')) → sm_W ex d 0 0 211 15 [some (.ref 123), some (.int (nI left)), some (.int (nI m)), w3, w4, w5] [] (n, y, I3, L1, R) Q := by
        intro p
        induction p with
        | zero =>
          intro m I3 w3 w4 w5 hm f3 h3
          obtain rfl : m = sMen s := by omega
          refine w_X11_layOrders_15 hG ?_
          rw [e0 I3 f3, if_pos (Int32.le_refl _), sm_n1]
          exact ih (left + 1) I3 _ _ _ _ (by omega) f3 (fun l m' hl1 hl2 hm' => h3 l m' (by omega) hl2 hm')
        | succ p ihp =>
          intro m I3 w3 w4 w5 hm f3 h3
          have hmm : m < sMen s := by omega
          have e7 : (7 : Int32) * nI left + nI m = nI (7 * left + m) := by rw [show (7 : Int32) = nI 7 from rfl, pk_mul, nI_add]
          -- it is put
          have put : ∀ (v : Int32) (w5 : Option Value), (left < 2 ^ sMen s → v = nI (LF (sp_ey F s) (sMen s) left m)) → sm_W ex d 0 0 211 40 [some (.ref 123), some (.int (nI left)), some (.int (nI m)), some (.int v), some (.int (nI (sMen s))), w5] [] (n, y, I3, L1, R) Q := by
            intro v w5 hv
            refine w_X11_layOrders_40 hG (by omega) ?_
            rw [e0 I3 f3, if_pos (Int32.le_refl _), e7, nI_clamp (by omega), sm_n1]
            refine ⟨vp_in_nI (by omega) (by decide), ihp (m + 1) _ _ _ _ (by omega) (fun a j q => by rw [sm_st_o _ _ q]; exact f3 a j q) (fun l m' hlm hl2 hm' => ?_)⟩
            by_cases e : l = left ∧ m' = m
            · obtain ⟨rfl, rfl⟩ := e
              rw [sm_st_s]
              exact hv hl2
            · rw [sm_st_j _ _ (by omega)]
              exact h3 l m' (by omega) hl2 hm'
          -- the loop of those that are left
          have inner : ∀ (r o : Nat) (v : Int32) (w5 : Option Value), o + r = sMen s → (left < 2 ^ sMen s → v = if left = 0 then 0 else nI (bfV (bf (lfC (sp_ey F s) (sMen s) left m) o))) → sm_W ex d 0 0 211 40 [some (.ref 123), some (.int (nI left)), some (.int (nI m)), some (.int v), some (.int (nI o)), w5] [] (n, y, I3, L1, R) Q := by
            intro r
            induction r with
            | zero =>
              intro o v w5 ho hv
              obtain rfl : o = sMen s := by omega
              refine put v w5 (fun hl2 => ?_)
              rw [hv hl2, LF_eq]
              split
              · rfl
              · rfl
            | succ r ihr =>
              intro o v w5 ho hv
              have hom : o < sMen s := by omega
              have hl128 : left < 128 := by omega
              refine w_X11_layOrders_40 hG (by omega) ?_
              rw [e0 I3 f3, if_neg (by rw [nI_leI (by omega) (by omega)]; omega), sm_bit7 _ hl128 o (by omega), sm_n1]
              cases ht : left.testBit o with
              | false =>
                rw [if_neg (show ¬ (false = true) by decide), if_neg (show ¬ (0 : Int32) = 1 by decide)]
                refine ihr (o + 1) v _ (by omega) (fun hl2 => ?_)
                have eb : bf (lfC (sp_ey F s) (sMen s) left m) (o + 1) = bf (lfC (sp_ey F s) (sMen s) left m) o := by
                  have : lfC (sp_ey F s) (sMen s) left m o = none := by unfold lfC; rw [ht]; rfl
                  show (match lfC (sp_ey F s) (sMen s) left m o with | none => _ | some v => _) = _
                  rw [this]
                rw [eb]
                exact hv hl2
              | true =>
                have e7o : (7 : Int32) * nI o + nI m = nI (7 * o + m) := by rw [show (7 : Int32) = nI 7 from rfl, pk_mul, nI_add]
                have hsub : left - 2 ^ o < 128 := Nat.lt_of_le_of_lt (Nat.sub_le _ _) hl128
                have e7l : (7 : Int32) * nI (left - 2 ^ o) + nI o = nI (7 * (left - 2 ^ o) + o) := by rw [show (7 : Int32) = nI 7 from rfl, pk_mul, nI_add]
                rw [if_pos (show true = true from rfl), if_pos rfl, sm_andn7 _ hl128 o (by omega), sm_sub7 _ hl128 o (by omega) ht, e7o, e7l, nI_clamp (by omega), nI_clamp (by omega)]
                refine ⟨vp_in_nI (by omega) (by decide), vp_in_nI (by omega) (by decide), ?_⟩
                by_cases hl2 : left < 2 ^ sMen s
                · have hge := tb_ge ht
                  have h2o : 0 < 2 ^ o := Nat.two_pow_pos o
                  have en : I3 149 (7 * o + m) = nI (sp_ey F s m o) := (f3 149 _ (by decide)).trans (no1 o m hom hmm)
                  have el : I3 150 (7 * (left - 2 ^ o) + o) = nI (LF (sp_ey F s) (sMen s) (left - 2 ^ o) o) := h3 (left - 2 ^ o) o (by omega) (tb_sub hl2) hom
                  rw [en, el, nI_add]
                  have hle := LF_le2 (m := o) hey h7 (tb_sub (o := o) hl2)
                  have hle2 := hey m o
                  have hl0 : left ≠ 0 := by omega
                  have hv2 := hv hl2
                  rw [if_neg hl0] at hv2
                  have hc : lfC (sp_ey F s) (sMen s) left m o = some (sp_ey F s m o + LF (sp_ey F s) (sMen s) (left - 2 ^ o) o) := by unfold lfC; rw [if_pos ht]
                  have hu := bf_s hc
                  have hbl : bfV (bf (lfC (sp_ey F s) (sMen s) left m) o) ≤ 100000000 := by
                    cases hb : bf (lfC (sp_ey F s) (sMen s) left m) o with
                    | none => exact Nat.le_refl _
                    | some x =>
                      obtain ⟨xv, xm⟩ := x
                      obtain ⟨z1, z2, -, -⟩ := bf_spec _ _ _ _ hb
                      unfold lfC at z2
                      split at z2
                      · cases z2
                        have a1 := LF_le2 (m := xm) hey h7 (tb_sub (o := xm) hl2)
                        have a2 := hey m xm
                        show sp_ey F s m xm + LF (sp_ey F s) (sMen s) (left - 2 ^ xm) xm ≤ 100000000
                        omega
                      · cases z2
                  generalize sp_ey F s m o + LF (sp_ey F s) (sMen s) (left - 2 ^ o) o = u at hu hle hle2 hc ⊢
                  have hu2 : u ≤ 1000 := by
                    have := hc
                    unfold lfC at this
                    rw [if_pos ht] at this
                    have := Option.some.inj this
                    omega
                  rw [hv2]
                  by_cases hlt : u < bfV (bf (lfC (sp_ey F s) (sMen s) left m) o)
                  · rw [if_neg (by rw [nI_leI (by omega) (by omega)]; omega)]
                    refine ihr (o + 1) _ _ (by omega) (fun _ => ?_)
                    rw [if_neg hl0, hu]
                    cases hb : bf (lfC (sp_ey F s) (sMen s) left m) o with
                    | none => rfl
                    | some x =>
                      rw [hb] at hlt
                      dsimp only
                      rw [if_pos (show u < x.1 from hlt)]
                      rfl
                  · rw [if_pos (by rw [nI_leI (by omega) (by omega)]; omega)]
                    refine ihr (o + 1) _ _ (by omega) (fun _ => ?_)
                    rw [if_neg hl0, hu]
                    cases hb : bf (lfC (sp_ey F s) (sMen s) left m) o with
                    | none =>
                      rw [hb] at hlt
                      exact absurd (show u < 100000000 by omega) hlt
                    | some x =>
                      rw [hb] at hlt
                      dsimp only
                      rw [if_neg (show ¬ u < x.1 from hlt)]
                · split
                  · exact ihr (o + 1) _ _ (by omega) (fun z => absurd z hl2)
                  · exact ihr (o + 1) _ _ (by omega) (fun z => absurd z hl2)
          refine w_X11_layOrders_15 hG ?_
          rw [e0 I3 f3, if_neg (by rw [nI_leI (by omega) (by omega)]; omega)]
          have f0 : nI left = 0 ↔ left = 0 := nI_eq (b := 0) (by omega) (by decide)
          simp only [f0]
          by_cases hl0 : left = 0
          · rw [if_pos hl0]
            exact inner (sMen s) 0 0 _ (by omega) (fun _ => by rw [if_pos hl0])
          · rw [if_neg hl0]
            exact inner (sMen s) 0 100000000 _ (by omega) (fun _ => by rw [if_neg hl0]; rfl)
      refine w_X11_layOrders_6 ?_
      rw [if_neg (by rw [sm_of 128, nI_leI (by decide) (by omega)]; omega)]
      exact middle (sMen s) 0 I2 _ _ _ (by omega) f2 (fun l m' hlm hl2 hm' => h2 l m' (by omega) hl2 hm')
  exact outer 128 0 I1 _ _ _ _ (by omega) (fun _ _ _ => rfl) (fun l m hl => absurd hl (by omega))

