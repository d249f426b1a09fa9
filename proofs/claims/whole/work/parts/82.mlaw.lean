-- LAW() AND ORDERS() OF THE MODEL
theorem MI_rd {g : GG} {I J : Nat → Nat → Int32} {L L' : Nat → Nat → Int64} {v w : Int32} (hw : Wf g) (hm : MI g I L) (hf : ∀ a j, ¬ (a = 123 ∧ (j = 0 ∨ 13 ≤ j ∧ j ≤ 30 ∨ j = 55)) → ¬ (133 ≤ a ∧ a ≤ 137) → a ≠ 154 → J a j = I a j) (hl : mL1 L L') (h13 : J 123 13 = 0) (h18 : J 123 18 = v) (h20 : J 123 20 = 0) (h55 : J 123 55 = w) : MI (gRd g v w) J L' := by
  obtain ⟨h1, h2, h3, h4, h5, h6, h7, h8, h9⟩ := hm
  refine ⟨mS_ext (fun j _ => hf 125 j (by omega) (by omega) (by omega)) hw.1.1.1.1 h1, mP_ext (fun j _ => hf 125 j (by omega) (by omega) (by omega)) hw.1.2.1.1 h2, mB_ext (fun j _ => hf 125 j (by omega) (by omega) (by omega)) hw.1.2.2.1 h3, mU_ext hw.2.1 (fun a j q => hf a j (by omega) (by omega) (by omega)) h4, ⟨h13, fun j hj => absurd hj (Nat.not_lt_zero _)⟩, ?_, mDr_ext (fun a j q => hf a j (by omega) (by omega) (by omega)) h7, mIm_ext (fun a j q => hf a j (by omega) (by omega) (by omega)) h8, hl.W h9⟩
  exact ⟨(hf 123 11 (by omega) (by omega) (by omega)).trans h6.1, h18, h55, (hf 123 1 (by omega) (by omega) (by omega)).trans h6.2.2.2.1, h20, fun j hj => (hf 124 j (by omega) (by omega) (by omega)).trans (h6.2.2.2.2.2 j hj)⟩
theorem mEnd_o {I : Nat → Nat → Int32} {a j : Nat} (h : ¬ (a = 123 ∧ (j = 13 ∨ j = 20))) : mEnd I a j = I a j := by
  unfold mEnd
  rw [sm_st_or _ _ (by omega), sm_st_or _ _ (by omega)]
theorem mEnd_13 (I : Nat → Nat → Int32) : mEnd I 123 13 = 0 := by unfold mEnd; rw [sm_st_s]
theorem mEnd_20 (I : Nat → Nat → Int32) : mEnd I 123 20 = 0 := by unfold mEnd; rw [sm_st_j _ _ (by decide), sm_st_s]
theorem mLaw_new {r : Nat → Int32} {I : Nat → Nat → Int32} {B len : Nat} {l : List OC} (hc : mCs false 133 3 I len l) (h400 : len ≤ 400) (h1 : r (B + 1) = nI l.length) (h2 : ∀ k, k < 8 * l.length → r (B + 2 + k) = I 133 k) (h3 : ∀ k, k < len → r (B + 98 + 2 * k) = I 134 k ∧ r (B + 98 + 2 * k + 1) = I 135 k) : mLaw (fun _ => r) B (l.map Prod.fst) := by
  refine ⟨by rw [List.length_map]; exact h1, by rw [List.length_map]; exact hc.2.1, fun c x hx => ?_⟩
  rw [List.getElem?_map] at hx
  cases hz : l[c]? with
  | none => rw [hz] at hx; cases hx
  | some z =>
    rw [hz] at hx
    cases hx
    have hcl : c < l.length := (List.getElem?_eq_some_iff.mp hz).1
    obtain ⟨a, a', s, s', e0, e1, e3, e4, e5, e6, e7, e8, e9, e10, e11, e12, e13, e14, e15⟩ := hc.2.2 c z hz
    have cd : ∀ k, k < len → cdB (fun _ => r) B k = cdO I k := fun k hk => by
      show (r _, r _) = (I 134 k, I 135 k)
      rw [(h3 k hk).1, (h3 k hk).2]
    refine ⟨a, a', s, s', ?_, e1, ?_, ?_, ?_, ?_, by omega, by omega, e9, fun q => ⟨(e11 q).2.1, (e11 q).2.2 _ (fun k q1 q2 => cd k (by omega))⟩, ?_⟩
    · show r _ = _; rw [h2 _ (by omega)]; exact e0
    · show r _ = _; rw [show B + 2 + 8 * c + 3 = B + 2 + (8 * c + 3) by omega, h2 _ (by omega)]; exact e3
    · show r _ = _; rw [show B + 2 + 8 * c + 4 = B + 2 + (8 * c + 3 + 1) by omega, h2 _ (by omega)]; exact e4
    · show r _ = _; rw [show B + 2 + 8 * c + 5 = B + 2 + (8 * c + 5) by omega, h2 _ (by omega)]; exact e5
    · show r _ = _; rw [show B + 2 + 8 * c + 6 = B + 2 + (8 * c + 6) by omega, h2 _ (by omega)]; exact e6
    · show match z.1.2.2 with
        | none => s' = s
        | some T => s < s' ∧ sp_in T ∧ mSeg (cdB (fun _ => r) B) s s' (mD T)
      cases hT : z.1.2.2 with
      | none => rw [hT] at e13; exact e13
      | some T => rw [hT] at e13; exact ⟨e13.1, e13.2.1.In, e13.2.2 _ (fun k q1 q2 => cd k (by omega))⟩
theorem mCs_ord {I : Nat → Nat → Int32} {len : Nat} {l : List OC} (hc : mCs true 154 1 I len l) (h400 : len ≤ 400) : mOrd I l := by
  refine ⟨hc.1, hc.2.1, fun c z hz => ?_⟩
  obtain ⟨a, a', s, s', e0, e1, e3, e4, e5, e6, e7, e8, e9, e10, e11, e12, e13, e14, e15⟩ := hc.2.2 c z hz
  refine ⟨a, a', s, s', e0, e1, e3, e4, e5, e6, by omega, by omega, e7, e9, fun q => ⟨(e11 q).1, (e11 q).2.1, (e11 q).2.2 _ (fun _ _ _ => rfl)⟩, e12, ?_, e15 rfl, e14⟩
  cases hT : z.1.2.2 with
  | none => rw [hT] at e13; exact e13
  | some T => rw [hT] at e13; exact ⟨e13.1, e13.2.1.In, e13.2.2 _ (fun _ _ _ => rfl)⟩
theorem mG_end {I I1 I' : Nat → Nat → Int32} (f1 : ∀ a j, ¬ (a = 123 ∧ 14 ≤ j ∧ j ≤ 26) → I1 a j = I a j) (g : mG I1 I') : ∀ a j, ¬ (a = 123 ∧ (13 ≤ j ∧ j ≤ 30)) → ¬ (133 ≤ a ∧ a ≤ 137) → a ≠ 154 → mEnd I' a j = I a j := fun a j q1 q2 q3 => by
  rw [mEnd_o (by omega), g a j (by omega) q2 q3, f1 a j (by omega)]
set_option maxHeartbeats 2000000 in
theorem M_law {ex : sm_O} {d : Nat} {g : GG} {w1 w2 : Option Value} (hd : 10 ≤ d) (hw : Wf g) : MM ex d 178 [some (.ref 123), w1, w2] g (f_law g).1 (f_law g).2 := by
  intro n y I L R Q hG hm k
  have hb := hm.2.2.1
  have ht := hm.2.2.2.2.1
  have h6 : (gB g).1.length ≤ 6 := hw.1.2.2.1
  have h400 := hw.2.2.2.2.1
  refine w_X11_law_0 (d1 := 9) hG (by omega) ?_
  rw [hb.1]
  unfold f_law at k
  have e6 : nI (gB g).1.length = 6 ↔ (gB g).1.length = 6 := nI_eq (b := 6) (by omega) (by decide)
  simp only [e6]
  by_cases h : (gB g).1.length = 6
  · rw [if_pos h] at k ⊢
    refine c_X11_tellN (j := 5) hG (by omega) (by decide) ?_
    refine w_X11_law_27 (k _ L ?_ (((mKeep_thr I).trans (mKeep.s _ (by omega) _ _)).trans (mKeep_rfu 5 _)))
    refine MI_ref (g := gTa g (0, (gT g).2)) ?_
    exact ⟨hm.1, hm.2.1, hm.2.2.1, hm.2.2.2.1, ⟨rfl, fun j hj => absurd hj (Nat.not_lt_zero _)⟩, hm.2.2.2.2.2⟩
  · rw [if_neg h] at k ⊢
    have hlt : (gB g).1.length < 6 := by omega
    refine m_beginText (o := false) (t := gT g) (by omega) hG ⟨(sm_st_j _ _ (by decide)).trans ht.1, h400, fun j hj => ⟨(sm_st_o _ _ (by decide)).trans (ht.2 j hj), hw.2.2.2.2.2 j⟩⟩ hm.2.2.2.2.2.2.2.2 ?_
    intro I1 L1 f1 g1 x1 h21
    have f1' : ∀ a j, ¬ (a = 123 ∧ (j = 0 ∨ 14 ≤ j ∧ j ≤ 26)) → I1 a j = I a j := fun a j q => by rw [f1 a j (by omega), sm_st_or _ _ (by omega)]
    refine w_X11_law_33 (d1 := 8) hG (by omega) ?_
    refine lp_lawT (I0 := I1) (L0 := L1) (t := gT g) (by omega) hG (fun I' L' q e g' gl h19 h18 => ?_) (fun I' L' l' len' e g' gl h19 h18 h23 hl4 cs => ?_) 12 (tkAt (gT g) 0) 0 0 [] I1 L1 _ rfl rfl x1 ⟨h21, by simp, fun c x hx => by simp at hx⟩ (mG.rfl' I1) (mL1.rfl' L1) (fun I' L' hh => hh)
    · rw [e] at k
      refine w_X11_law_68 (d1 := 9) hG (by omega) ?_
      rw [mEnd_o (by omega), h19, if_neg (by decide)]
      refine c_X11_tellN (j := 6) hG (by omega) (by decide) ?_
      have gg : ∀ a j, ¬ (a = 123 ∧ (j = 0 ∨ 13 ≤ j ∧ j ≤ 30)) → ¬ (133 ≤ a ∧ a ≤ 137) → a ≠ 154 → mEnd I' a j = I a j := fun a j q1 q2 q3 => by rw [mEnd_o (by omega), g' a j (by omega) q2 q3, f1' a j (by omega)]
      refine w_X11_law_81 (k _ L' (MI_ref (MI_rd hw hm (fun a j q1 q2 q3 => gg a j (by omega) q2 q3) (g1.trans gl) (mEnd_13 _) ((mEnd_o (by omega)).trans h18) (mEnd_20 _) ?_)) ?_)
      · rw [gg 123 55 (by omega) (by omega) (by omega)]; exact hm.2.2.2.2.2.1.2.2.1
      · exact mKeep.trans (fun a j q => gg a j (by omega) (by omega) (by omega)) (mKeep_rfu 6 _)
    · rw [e] at k
      dsimp only at k
      have gg : ∀ a j, ¬ (a = 123 ∧ (j = 0 ∨ 13 ≤ j ∧ j ≤ 30)) → ¬ (133 ≤ a ∧ a ≤ 137) → a ≠ 154 → mEnd I' a j = I a j := fun a j q1 q2 q3 => by rw [mEnd_o (by omega), g' a j (by omega) q2 q3, f1' a j (by omega)]
      have j19 : mEnd I' 123 19 = 0 := (mEnd_o (by omega)).trans h19
      have j21 : mEnd I' 123 21 = nI l'.length := (mEnd_o (by omega)).trans cs.1
      have j23 : mEnd I' 123 23 = nI len' := (mEnd_o (by omega)).trans h23
      have jb : mEnd I' 125 2 = nI (gB g).1.length := (gg 125 2 (by omega) (by omega) (by omega)).trans hb.1
      have jo : ∀ a j, a ≠ 123 → mEnd I' a j = I' a j := fun a j q => mEnd_o (by omega)
      have hmR : MI (gRd g (-1) (gN g).2.2.1) (mEnd I') L' := MI_rd hw hm (fun a j q1 q2 q3 => gg a j (by omega) q2 q3) (g1.trans gl) (mEnd_13 _) ((mEnd_o (by omega)).trans h18) (mEnd_20 _) (by rw [gg 123 55 (by omega) (by omega) (by omega)]; exact hm.2.2.2.2.2.1.2.2.1)
      have kpJ : mKeep I (mEnd I') := fun a j q => gg a j (by omega) (by omega) (by omega)
      have hl12 := cs.2.1
      generalize hJ : mEnd I' = J at *
      generalize hlen : (gB g).1.length = len at *
      generalize hB : 50 + 900 * len = B
      have hB2 : B + 900 ≤ 5450 := by omega
      have iB : 50 + 900 * nI len = nI B := by rw [sm_of 50, sm_of 900, pk_mul, nI_add, hB]
      refine w_X11_law_68 (d1 := 9) hG (by omega) ?_
      rw [j19, if_pos rfl, jb, iB, sm_n1, nI_clamp (by omega), j21]
      refine ⟨vp_in_nI (by omega) (by decide), ?_⟩
      -- what is written: the new law's place
      have fin : ∀ K : Nat → Nat → Int32, (∀ a j, ¬ (a = 125 ∧ B + 1 ≤ j ∧ j < B + 900) → K a j = J a j) → K 125 (B + 1) = nI l'.length → (∀ i, i < 8 * l'.length → K 125 (B + 2 + i) = I' 133 i) → (∀ i, i < len' → K 125 (B + 98 + 2 * i) = I' 134 i ∧ K 125 (B + 98 + 2 * i + 1) = I' 135 i) → ∀ (v1 v2 : Option Value), sm_W ex 9 0 0 128 0 [some (.ref 123), some (.int (nI len))] [] (n, y, sm_st K 125 2 (nI (len + 1)), L', R) (fun r μ1 => sm_W ex d 0 0 178 221 [some (.ref 123), v1, v2] (r.toList ++ []) μ1 Q) := by
        intro K ko k1 k2 k3 v1 v2
        refine c_X11_tellP hG (nI_pos' (by omega)) ?_
        have kk2 : ∀ a j, ¬ (a = 125 ∧ (j = 2 ∨ B + 1 ≤ j ∧ j < B + 900)) → sm_st K 125 2 (nI (len + 1)) a j = J a j := fun a j q => by rw [sm_st_or _ _ (by omega), ko a j (by omega)]
        refine w_X11_law_221 (k _ L' ?_ ((kpJ.trans (fun a j q => kk2 a j (by omega))).trans (mKeep_tel _)))
        obtain ⟨h1, h2, h3, h4, h5, h6', h7, h8, h9⟩ := hmR
        refine MI_acc ⟨mS_ext (fun j q => kk2 125 j (by omega)) hw.1.1.1.1 h1, mP_ext (fun j q => kk2 125 j (by omega)) hw.1.2.1.1 h2, ?_, mU_ext hw.2.1 (fun a j q => kk2 a j (by omega)) h4, mT_ext (fun a j q => kk2 a j (by omega)) h5, mN_ext (fun a j q => kk2 a j (by omega)) h6', mDr_ext (fun a j q => kk2 a j (by omega)) h7, mIm_ext (fun a j q => kk2 a j (by omega)) h8, h9⟩
        refine ⟨?_, (kk2 125 3 (by omega)).trans h3.2.1, fun i l hi => ?_⟩
        · show sm_st K 125 2 (nI (len + 1)) 125 2 = nI ((gB g).1 ++ [l'.map Prod.fst]).length
          rw [sm_st_s, List.length_append, hlen]
          rfl
        · have hi : ((gB g).1 ++ [l'.map Prod.fst])[i]? = some l := hi
          by_cases ei : i < len
          · rw [List.getElem?_append_left (by omega)] at hi
            exact mLaw_ext (fun j q1 q2 => kk2 125 j (by omega)) (h3.2.2 i l hi)
          · have hi2 : i < ((gB g).1 ++ [l'.map Prod.fst]).length := (List.getElem?_eq_some_iff.mp hi).1
            rw [List.length_append, hlen] at hi2
            have hi3 : i = len := by
              have : i < len + 1 := hi2
              omega
            rw [List.getElem?_append_right (by omega), hlen, hi3, Nat.sub_self] at hi
            cases hi
            rw [hi3, hB]
            refine mLaw_new cs hl4 ?_ (fun i hi => ?_) (fun i hi => ?_)
            · rw [sm_st_j _ _ (by omega)]; exact k1
            · rw [sm_st_j _ _ (by omega)]; exact k2 i hi
            · rw [sm_st_j _ _ (by omega), sm_st_j _ _ (by omega)]; exact k3 i hi
      -- the code
      have lp2 : ∀ (r i : Nat) (K : Nat → Nat → Int32), i + r = len' → (∀ a j, ¬ (a = 125 ∧ B + 1 ≤ j ∧ j < B + 900) → K a j = J a j) → K 125 (B + 1) = nI l'.length → (∀ i, i < 8 * l'.length → K 125 (B + 2 + i) = I' 133 i) → (∀ k, k < i → K 125 (B + 98 + 2 * k) = I' 134 k ∧ K 125 (B + 98 + 2 * k + 1) = I' 135 k) → sm_W ex d 0 0 178 145 [some (.ref 123), some (.int (nI B)), some (.int (nI i))] [] (n, y, K, L', R) Q := by
        intro r
        induction r with
        | zero =>
          intro i K hi ko k1 k2 k3
          refine w_X11_law_145 (d1 := 9) hG (by omega) ?_
          have e2 : K 125 2 = nI len := (ko 125 2 (by omega)).trans jb
          rw [ko 123 23 (by omega), j23, if_pos ((nI_leI (by omega) (by omega)).mpr (by omega)), e2, sm_n1, sm_of 1, pk_sub (by omega), Nat.add_sub_cancel]
          exact fin K ko k1 k2 (fun k hk => k3 k (by omega)) _ _
        | succ r ih =>
          intro i K hi ko k1 k2 k3
          refine w_X11_law_145 (d1 := 9) hG (by omega) ?_
          have i98 : nI B + 98 + 2 * nI i = nI (B + 98 + 2 * i) := sm_i98 B i
          rw [ko 123 23 (by omega), j23, if_neg (by rw [nI_leI (by omega) (by omega)]; omega), i98, sm_n1, nI_clamp (by omega), nI_clamp (by omega), nI_clamp (by omega), sm_n1, ko 134 i (by omega), ko 135 i (by omega), jo 134 i (by decide), jo 135 i (by decide)]
          refine ⟨vp_in_nI (by omega) (by decide), vp_in_nI (by omega) (by decide), vp_in_nI (by omega) (by decide), ?_⟩
          refine ih (i + 1) _ (by omega) (fun a j q => by rw [sm_st_or _ _ (by omega), sm_st_or _ _ (by omega), ko a j q]) (by rw [sm_st_j _ _ (by omega), sm_st_j _ _ (by omega)]; exact k1) (fun j hj => by rw [sm_st_j _ _ (by omega), sm_st_j _ _ (by omega)]; exact k2 j hj) (fun j hj => ?_)
          by_cases ej : j = i
          · rw [ej]
            exact ⟨by rw [sm_st_j _ _ (by omega), sm_st_s], by rw [sm_st_s]⟩
          · have := k3 j (by omega)
            exact ⟨by rw [sm_st_j _ _ (by omega), sm_st_j _ _ (by omega)]; exact this.1, by rw [sm_st_j _ _ (by omega), sm_st_j _ _ (by omega)]; exact this.2⟩
      -- the clauses
      have lp1 : ∀ (r i : Nat) (K : Nat → Nat → Int32), i + r = 8 * l'.length → (∀ a j, ¬ (a = 125 ∧ B + 1 ≤ j ∧ j < B + 900) → K a j = J a j) → K 125 (B + 1) = nI l'.length → (∀ k, k < i → K 125 (B + 2 + k) = I' 133 k) → sm_W ex d 0 0 178 110 [some (.ref 123), some (.int (nI B)), some (.int (nI i))] [] (n, y, K, L', R) Q := by
        intro r
        induction r with
        | zero =>
          intro i K hi ko k1 k2
          refine w_X11_law_110 hG ?_
          rw [ko 123 21 (by omega), j21, sm_of 8, pk_mul, if_pos ((nI_leI (by omega) (by omega)).mpr (by omega))]
          exact lp2 len' 0 K (by omega) ko k1 (fun k hk => k2 k (by omega)) (fun k hk => absurd hk (by omega))
        | succ r ih =>
          intro i K hi ko k1 k2
          refine w_X11_law_110 hG ?_
          rw [ko 123 21 (by omega), j21, sm_of 8, pk_mul, if_neg (by rw [nI_leI (by omega) (by omega)]; omega), sm_of 2, nI_add, nI_add, nI_clamp (by omega), nI_clamp (by omega), sm_n1, ko 133 i (by omega), jo 133 i (by decide)]
          refine ⟨vp_in_nI (by omega) (by decide), vp_in_nI (by omega) (by decide), ?_⟩
          refine ih (i + 1) _ (by omega) (fun a j q => by rw [sm_st_or _ _ (by omega), ko a j q]) (by rw [sm_st_j _ _ (by omega)]; exact k1) (fun j hj => ?_)
          by_cases ej : j = i
          · rw [ej, sm_st_s]
          · rw [sm_st_j _ _ (by omega)]; exact k2 j (by omega)
      exact lp1 (8 * l'.length) 0 _ (by omega) (fun a j q => sm_st_or _ _ (by omega)) (sm_st_s _ _ _ _) (fun k hk => absurd hk (by omega))
theorem M_orders {ex : sm_O} {d : Nat} {g : GG} {w1 w2 w3 : Option Value} (hd : 12 ≤ d) (hw : Wf g) : MM ex d 231 [some (.ref 123), w1, w2, w3] g (f_orders g).1 (f_orders g).2 := by
  intro n y I L R Q hG hm k
  have ht := hm.2.2.2.2.1
  have h6 : (gB g).1.length ≤ 6 := hw.1.2.2.1
  have h400 := hw.2.2.2.2.1
  refine w_X11_orders_0 (d1 := 9) hG (by omega) ?_
  unfold f_orders at k
  refine m_beginText (o := true) (t := gT g) (by omega) hG ⟨by rw [sm_st_j _ _ (by decide), sm_st_j _ _ (by decide)]; exact ht.1, h400, fun j hj => ⟨by rw [sm_st_o _ _ (by decide), sm_st_o _ _ (by decide)]; exact ht.2 j hj, hw.2.2.2.2.2 j⟩⟩ hm.2.2.2.2.2.2.2.2 ?_
  intro I1 L1 f1 g1 x1 h21
  have f1' : ∀ a j, ¬ (a = 123 ∧ (j = 0 ∨ 14 ≤ j ∧ j ≤ 26 ∨ j = 55)) → I1 a j = I a j := fun a j q => by rw [f1 a j (by omega), sm_st_or _ _ (by omega), sm_st_or _ _ (by omega)]
  have e55 : I1 123 55 = -1 := by rw [f1 123 55 (by omega), sm_st_s]
  refine w_X11_orders_15 (d1 := 8) hG (by omega) ?_
  refine lp_ordersT (I0 := I1) (L0 := L1) (t := gT g) (by omega) hG (fun I' L' q e g' gl h19 h18 => ?_) (fun I' L' l' len' e g' gl h19 h18 h23 hl4 cs => ?_) 12 (tkAt (gT g) 0) 0 0 [] I1 L1 _ rfl rfl x1 ⟨h21, by simp, fun c x hx => by simp at hx⟩ (mG.rfl' I1) (mL1.rfl' L1) (fun I' L' hh => hh)
  · rw [e] at k
    refine w_X11_orders_50 (d1 := 9) hG (by omega) ?_
    rw [mEnd_o (by omega), h19, if_neg (by decide)]
    refine c_X11_tellN (j := 6) hG (by omega) (by decide) ?_
    have gg : ∀ a j, ¬ (a = 123 ∧ (j = 0 ∨ 13 ≤ j ∧ j ≤ 30 ∨ j = 55)) → ¬ (133 ≤ a ∧ a ≤ 137) → a ≠ 154 → mEnd I' a j = I a j := fun a j q1 q2 q3 => by rw [mEnd_o (by omega), g' a j (by omega) q2 q3, f1' a j (by omega)]
    refine w_X11_orders_63 (k _ L' (MI_ref (MI_rd hw hm gg (g1.trans gl) (mEnd_13 _) ((mEnd_o (by omega)).trans h18) (mEnd_20 _) ?_)) ?_)
    · rw [mEnd_o (by omega), g' 123 55 (by omega) (by omega) (by omega)]; exact e55
    · exact mKeep.trans (fun a j q => gg a j (by omega) (by omega) (by omega)) (mKeep_rfu 6 _)
  · rw [e] at k
    dsimp only at k
    have gg : ∀ a j, ¬ (a = 123 ∧ (j = 0 ∨ 13 ≤ j ∧ j ≤ 30 ∨ j = 55)) → ¬ (133 ≤ a ∧ a ≤ 137) → a ≠ 154 → mEnd I' a j = I a j := fun a j q1 q2 q3 => by rw [mEnd_o (by omega), g' a j (by omega) q2 q3, f1' a j (by omega)]
    have j55 : mEnd I' 123 55 = -1 := by rw [mEnd_o (by omega), g' 123 55 (by omega) (by omega) (by omega)]; exact e55
    have hmR : MI (gRd g (-1) (-1)) (mEnd I') L' := MI_rd hw hm gg (g1.trans gl) (mEnd_13 _) ((mEnd_o (by omega)).trans h18) (mEnd_20 _) j55
    have kpJ : mKeep I (mEnd I') := fun a j q => gg a j (by omega) (by omega) (by omega)
    have cs2 : mCs true 154 1 (mEnd I') len' l' := ⟨(mEnd_o (by omega)).trans cs.1, cs.2.1, fun c z hz => (cs.2.2 c z hz).mono (by decide) (fun j _ _ => mEnd_o (by omega)) (Nat.le_refl _) (fun k _ => by show (mEnd I' 134 k, mEnd I' 135 k) = (I' 134 k, I' 135 k); rw [mEnd_o (by omega), mEnd_o (by omega)])⟩
    have hwR := Wf_rd hw (-1) (-1)
    have j20 := mEnd_20 I'
    have j19 : mEnd I' 123 19 = 0 := (mEnd_o (by omega)).trans h19
    generalize mEnd I' = J at *
    refine c_ordT (s := gS g) (u := gU g) (F := bF (gB g)) (by omega) hG j19 hmR.1 hmR.2.2.2.1 hw.1.1 hw.2.1 (mB_F h6 hw.1.2.2.2 hmR.2.2.1) j20 (mCs_ord cs2 hl4) (fun c e2 I2 L2 f2 s2 u2 h55 => ?_) (fun z e2 hz I2 L2 f2 s2 u2 h55 => ?_)
    · rw [e2] at k
      refine k _ L2 (MI_ref ?_) ((kpJ.trans (fun a j q => f2.1 a j (by omega) (by omega) (by omega) (by omega) (by omega) (by omega) (by omega))).trans (mKeep_rfu 3 _))
      obtain ⟨h1, h2, h3, h4, h5, h6', h7, h8, h9⟩ := hmR
      refine ⟨s2, mP_ext (fun j q => f2.1 125 j (by omega) (by omega) (by omega) (by omega) (by omega) (by omega) (by omega)) hw.1.2.1.1 h2, mB_ext (fun j q => f2.1 125 j (by omega) (by omega) (by omega) (by omega) (by omega) (by omega) (by omega)) h6 h3, u2, mT_ext (fun a j q => f2.1 a j (by omega) (by omega) (by omega) (by omega) (by omega) (by omega) (by omega)) h5, ?_, mDr_ext (fun a j q => f2.1 a j (by omega) (by omega) (by omega) (by omega) (by omega) (by omega) (by omega)) h7, mIm_ext (fun a j q => f2.1 a j (by omega) (by omega) (by omega) (by omega) (by omega) (by omega) (by omega)) h8, ?_⟩
      · exact ⟨(f2.1 123 11 (by omega) (by omega) (by omega) (by omega) (by omega) (by omega) (by omega)).trans h6'.1, (f2.1 123 18 (by omega) (by omega) (by omega) (by omega) (by omega) (by omega) (by omega)).trans h6'.2.1, h55, (f2.1 123 1 (by omega) (by omega) (by omega) (by omega) (by omega) (by omega) (by omega)).trans h6'.2.2.2.1, f2.2.2, fun j hj => (f2.1 124 j (by omega) (by omega) (by omega) (by omega) (by omega) (by omega) (by omega)).trans (h6'.2.2.2.2.2 j hj)⟩
      · have e : ∀ a, a = 138 ∨ a = 139 ∨ a = 140 ∨ a = 153 → L2 a = L' a := fun a q => funext fun j => f2.2.1 a j (by omega) (by omega) (by omega) (by omega)
        unfold mWs
        rw [e 138 (by omega), e 139 (by omega), e 140 (by omega), e 153 (by omega)]
        exact h9
    · rw [e2] at k
      refine k _ L2 (MI_acc ?_) ((kpJ.trans (fun a j q => f2.1 a j (by omega) (by omega) (by omega) (by omega) (by omega) (by omega) (by omega))).trans (mKeep_tel _))
      obtain ⟨h1, h2, h3, h4, h5, h6', h7, h8, h9⟩ := hmR
      refine ⟨s2, mP_ext (fun j q => f2.1 125 j (by omega) (by omega) (by omega) (by omega) (by omega) (by omega) (by omega)) hw.1.2.1.1 h2, mB_ext (fun j q => f2.1 125 j (by omega) (by omega) (by omega) (by omega) (by omega) (by omega) (by omega)) h6 h3, u2, mT_ext (fun a j q => f2.1 a j (by omega) (by omega) (by omega) (by omega) (by omega) (by omega) (by omega)) h5, ?_, mDr_ext (fun a j q => f2.1 a j (by omega) (by omega) (by omega) (by omega) (by omega) (by omega) (by omega)) h7, mIm_ext (fun a j q => f2.1 a j (by omega) (by omega) (by omega) (by omega) (by omega) (by omega) (by omega)) h8, ?_⟩
      · exact ⟨(f2.1 123 11 (by omega) (by omega) (by omega) (by omega) (by omega) (by omega) (by omega)).trans h6'.1, (f2.1 123 18 (by omega) (by omega) (by omega) (by omega) (by omega) (by omega) (by omega)).trans h6'.2.1, h55.trans j55, (f2.1 123 1 (by omega) (by omega) (by omega) (by omega) (by omega) (by omega) (by omega)).trans h6'.2.2.2.1, f2.2.2, fun j hj => (f2.1 124 j (by omega) (by omega) (by omega) (by omega) (by omega) (by omega) (by omega)).trans (h6'.2.2.2.2.2 j hj)⟩
      · have e : ∀ a, a = 138 ∨ a = 139 ∨ a = 140 ∨ a = 153 → L2 a = L' a := fun a q => funext fun j => f2.2.1 a j (by omega) (by omega) (by omega) (by omega)
        unfold mWs
        rw [e 138 (by omega), e 139 (by omega), e 140 (by omega), e 153 (by omega)]
        exact h9

