-- CLAUSES OF ORDERS, THE MODEL
set_option maxHeartbeats 2000000 in
theorem m_readOrder {ex : sm_O} {n : Nat} {y : sm_Y} {I : Nat → Nat → Int32} {L : Nat → Nat → Int64} {R : Nat → Nat → Option Nat} {Q : sm_Q} {d p pt len : Nat} {t : Tp} {l : List OC} {w1 w2 w3 : Option Value} (hd : 7 ≤ d) (hG : sm_G y R) (hx : mE t true I L p pt len) (hcs : mCs true 154 1 I len l)
    (kf : ∀ (I' : Nat → Nat → Int32) (L' : Nat → Nat → Int64) (q : Nat), (l.length < 12 → rClause t true p pt = .inl q) → (¬ l.length < 12 → q = p) → mG I I' → mL1 L L' → I' 123 19 = 1 → I' 123 18 = nI q → Q none (n, y, I', L', R))
    (kk : ∀ (I' : Nat → Nat → Int32) (L' : Nat → Nat → Int64) (q pt' : Nat) (x : OC) (len' : Nat), l.length < 12 → rClause t true p pt = .inr (q, pt', x) → mG I I' → mL1 L L' → mE t true I' L' q pt' len' → mCs true 154 1 I' len' (l ++ [x]) → Q none (n, y, I', L', R)) :
    sm_W ex d 0 0 227 0 [some (.ref 123), w1, w2, w3] [] (n, y, I, L, R) Q := by
  have hle := hx.le
  obtain ⟨c1, c2, c3⟩ := id hcs
  refine lp_readOrder0 (by omega) hG hx.1 hx.2.1 ?_
  refine w_X11_readOrder_4 (d1 := 6) hG (by omega) ?_
  rw [if_pos (show (4 : Int32) ≤ nI 4 by decide), c1]
  have bad : (l.length < 12 → rClause t true p pt = .inl p) → ∀ (a : Int32) (u2 u3 : Option Value), sm_W ex 6 0 0 157 0 [some (.ref 123), some (.int 0)] [] (n, y, I, L, R) (fun r μ1 => sm_W ex d 0 0 227 57 [some (.ref 123), some (.int a), u2, u3] (r.toList ++ []) μ1 Q) := fun h a u2 u3 => by
    refine m_must (by omega) hG hx.1 hx.2.2.2.1 (fun _ => ?_) (fun z => absurd rfl z)
    refine w_X11_readOrder_57 hG ?_
    have b1 : mBad p I 123 19 = 1 := by unfold mBad; rw [sm_st_j _ _ (by decide), sm_st_s]
    rw [b1, if_neg (by decide)]
    exact kf _ L p h (fun _ => rfl) (mBad_X p I).G (mL1.rfl' L) b1 (by unfold mBad; rw [sm_st_s])
  cases hw : wIx ordKinds (tkWd t p) with
  | none =>
    rw [if_pos (show pI 0 none = -1 from rfl)]
    refine bad (fun _ => ?_) _ _ _
    unfold rClause
    rw [if_pos rfl, hw]
  | some kd =>
    have hkd := (wIx_lt _ _ _ hw).1
    have hk4 : kd < 4 := hkd
    have hlen2 : 2 ≤ (tkWd t p).length := wIx_ne hw (by decide)
    obtain ⟨ek, eE, eN, ept⟩ := tkW_k (t := t) (p := p) rfl (by intro z; rw [z] at hlen2; exact absurd hlen2 (by decide))
    have hnb := (nx_b hle.1).2
    have hr : rClause t true p pt = if kd = 3 then rTimes t true kd (dNum 0) (nx t p) pt else match rSum t true 8 (nx t p) pt with
      | .inl q => .inl q
      | .inr (q, pt', D) => rTimes t true kd D q pt' := by
      unfold rClause
      rw [if_pos rfl, hw]
      rfl
    rw [show pI 0 (some kd) = nI kd from rfl, if_neg (nI_m1 (by omega))]
    by_cases h12 : l.length < 12
    · rw [if_neg (show ¬ (12 : Int32) ≤ nI l.length from fun z => by have := (nI_leI (a := 12) (by decide) (by omega)).mp z; omega)]
      have kf := fun I' L' q h => kf I' L' q (fun _ => h) (fun z => absurd h12 z)
      have kk := fun I' L' q pt' x len' => kk I' L' q pt' x len' h12
      refine m_must (by omega) hG hx.1 hx.2.2.2.1 (fun z => absurd z (by decide)) (fun _ I1 L1 f1 g1 r1 => ?_)
      have x1 := hx.nx f1 g1 (by omega) r1
      refine w_X11_readOrder_57 hG ?_
      have e21 : I1 123 21 = nI l.length := (f1 123 21 (by omega)).trans c1
      rw [x1.2.2.2.1, if_pos rfl, e21, sm_of 8, pk_mul, sm_n1]
      generalize hc8 : 8 * l.length = c8
      have hc8' : c8 + 8 ≤ 96 := by omega
      -- the clause's end: the store at 6
      have s233 : ∀ (K : Nat → Nat → Int32) (L2 : Nat → Nat → Int64) (v1 v3 : Option Value), Q none (n, y, sm_st K 154 (c8 + 6) (K 123 23), L2, R) → sm_W ex d 0 0 227 233 [some (.ref 123), v1, some (.int (nI c8)), v3] [] (n, y, K, L2, R) Q := fun K L2 v1 v3 h => by
        refine w_X11_readOrder_233 hG ?_
        rw [sm_of 6, nI_add, nI_clamp (by omega)]
        exact ⟨vp_in_nI (by omega) (by decide), h⟩
      have bad233 : ∀ (J : Nat → Nat → Int32) (L2 : Nat → Nat → Int64) (q : Nat) (v1 v3 : Option Value), rClause t true p pt = .inl q → mG I J → mL1 L L2 → J 123 19 = 1 → J 123 18 = nI q → sm_W ex d 0 0 227 233 [some (.ref 123), v1, some (.int (nI c8)), v3] [] (n, y, J, L2, R) Q := fun J L2 q v1 v3 e g gl h19 h18 => by
        refine s233 _ _ _ _ (kf _ L2 q e (g.st (Or.inr rfl) _ _) gl ?_ ?_)
        · rw [sm_st_o _ _ (by decide)]; exact h19
        · rw [sm_st_o _ _ (by decide)]; exact h18
      -- the test
      have s_if : ∀ (K : Nat → Nat → Int32) (L2 : Nat → Nat → Int64) (p2 pt2 len2 tm : Nat) (D : DD) (v1 v3 : Option Value), rClause t true p pt = rIf t true kd D tm p2 pt2 → mE t true K L2 p2 pt2 len2 → mG I K → mL1 L L2 → (∀ j, j < c8 → K 154 j = I 154 j) → K 123 21 = nI (l.length + 1) → (∀ k, k < len → cdO K k = cdO I k) → K 154 c8 = nI kd → K 154 (c8 + 1) = nI len → K 154 (c8 + 2) = nI len2 → K 154 (c8 + 5) = nI len2 → K 154 (c8 + 7) = nI tm → tm ≤ 20 → len ≤ len2 → (kd ≠ 3 → len < len2 ∧ sp_inB D ∧ mSX (wdO true) (cdO K) len len2 D) → (kd = 3 → len2 = len) → sm_W ex 6 0 0 155 0 [some (.ref 123), some (.long 294), none] [] (n, y, K, L2, R) (fun r μ1 => sm_W ex d 0 0 227 221 [some (.ref 123), v1, some (.int (nI c8)), v3] (r.toList ++ []) μ1 Q) := by
        intro K L2 p2 pt2 len2 tm D v1 v3 e kE kg gl lo h21 agr k0 k1 k2 k5 k7 htm hll hsum h3
        have hle2 := kE.le
        have rcd : ∀ (M : Nat → Nat → Int32) (T : Option DD) (len3 : Nat), (∀ j, ¬ j = c8 + 6 → M 154 j = K 154 j) → M 123 21 = K 123 21 → (∀ k, k < len2 → cdO M k = cdO K k) → M 154 (c8 + 6) = nI len3 → len2 ≤ len3 → (match T with
            | none => len3 = len2
            | some T => len2 < len3 ∧ sp_01 T ∧ mSX (wdO true) (cdO M) len2 len3 T) → mCs true 154 1 M len3 (l ++ [((kd, D, T), tm)]) := by
          intro M T len3 mo m21 mcd m6 hl3 hT
          refine hcs.snoc (by decide) h12 (by rw [m21]; exact h21) (fun j hj => by rw [mo j (by omega)]; exact lo j (by omega)) (by omega) (fun k hk => by rw [mcd k (by omega)]; exact agr k hk) ?_
          refine ⟨len, len2, len2, len3, ?_, by show kd ≤ 3; omega, ?_, ?_, ?_, ?_, hll, by omega, hl3, Nat.le_refl _, fun z => ⟨(hsum z).1, (hsum z).2.1, (hsum z).2.2.mono (fun k q1 q2 => mcd k q2)⟩, h3, hT, htm, fun _ => ?_⟩
          · rw [hc8, mo _ (by omega)]; exact k0
          · rw [hc8, mo _ (by omega)]; exact k1
          · rw [hc8, mo _ (by omega)]; exact k2
          · rw [hc8, mo _ (by omega)]; exact k5
          · rw [hc8]; exact m6
          · rw [hc8, mo _ (by omega)]; exact k7
        refine m_word (w := wdIf) hG kE.1 rfl wdNot_g.2.2.2.1 (fun nif => ?_) (fun yif => ?_)
        · refine w_X11_readOrder_221 (d1 := 6) hG (by omega) ?_
          rw [if_pos rfl]
          refine s233 _ _ _ _ ?_
          rw [kE.2.2.2.2.2.1]
          have er : rIf t true kd D tm p2 pt2 = .inr (p2, pt2, ((kd, D, none), tm)) := by unfold rIf; rw [if_neg nif]
          refine kk _ L2 p2 pt2 ((kd, D, none), tm) len2 (e.trans er) (kg.st (Or.inr rfl) _ _) gl (kE.kept (fun j _ _ _ => sm_st_o _ _ (by decide)) (fun j => sm_st_o _ _ (by decide))) ?_
          exact rcd _ none len2 (fun j hj => sm_st_j _ _ hj) (sm_st_o _ _ (by decide)) (fun k _ => by rw [cd_st (by decide)]) (sm_st_s _ _ _ _) (Nat.le_refl _) rfl
        · have er : rIf t true kd D tm p2 pt2 = match rTest t true 8 (nx t p2) pt2 with
            | .inl q => .inl q
            | .inr (q, pt', T) => .inr (q, pt', ((kd, D, some T), tm)) := by
            unfold rIf
            rw [if_pos yif]
            rfl
          have hp2n := (tkW_k yif (by decide)).2.2.1
          refine w_X11_readOrder_221 (d1 := 6) hG (by omega) ?_
          rw [if_neg (by decide)]
          refine m_next (by omega) hG kE.1 ?_
          intro I3 L3 f3 g3 r3
          have x3 := kE.nx f3 g3 (by omega) r3
          refine w_X11_readOrder_228 (d1 := 6) hG (by omega) ?_
          refine m_exprT (by omega) hG x3 (fun I4 L4 q e4 f4 g4 h19 h18 => ?_) (fun I4 L4 q pt' T len3 e4 f4 g4 x4 agr4 sg4 t01 => ?_)
          · exact bad233 I4 L4 q _ _ (by rw [e, er, e4]) ((kg.trans f3.X.G).trans f4.G) ((gl.trans g3).trans g4) h19 h18
          · refine s233 _ _ _ _ ?_
            rw [x4.2.2.2.2.2.1]
            refine kk _ L4 q pt' ((kd, D, some T), tm) len3 (by rw [e, er, e4]) (((kg.trans f3.X.G).trans f4.G).st (Or.inr rfl) _ _) ((gl.trans g3).trans g4) (x4.kept (fun j _ _ _ => sm_st_o _ _ (by decide)) (fun j => sm_st_o _ _ (by decide))) ?_
            have hlt := mSX_lt sg4
            refine rcd _ (some T) len3 (fun j hj => by rw [sm_st_j _ _ hj, f4 154 j (by omega) (by omega), f3 154 j (by omega)]) (by rw [sm_st_o _ _ (by decide), f4 123 21 (by omega) (by omega), f3 123 21 (by omega)]) (fun k hk => by rw [cd_st (by decide), agr4 k hk, f3.cd]) (sm_st_s _ _ _ _) (by omega) ⟨hlt, t01, by rw [cd_st (by decide)]; exact sg4⟩
      -- behind the sum
      have bad135 : ∀ (J : Nat → Nat → Int32) (L2 : Nat → Nat → Int64) (q : Nat) (v1 v3 : Option Value), rClause t true p pt = .inl q → mG I J → mL1 L L2 → J 123 19 = 1 → J 123 18 = nI q → sm_W ex d 0 0 227 135 [some (.ref 123), v1, some (.int (nI c8)), v3] [] (n, y, J, L2, R) Q := by
        intro J L2 q v1 v3 e g gl h19 h18
        refine w_X11_readOrder_135 (d1 := 6) hG (by omega) ?_
        rw [sm_of 2, sm_of 7, sm_of 5, nI_add, nI_add, nI_add, nI_clamp (by omega), nI_clamp (by omega), nI_clamp (by omega), h19, if_neg (by decide)]
        refine ⟨vp_in_nI (by omega) (by decide), vp_in_nI (by omega) (by decide), vp_in_nI (by omega) (by decide), ?_⟩
        refine bad233 _ L2 q _ _ e (((g.st (Or.inr rfl) _ _).st (Or.inr rfl) _ _).st (Or.inr rfl) _ _) gl ?_ ?_
        · rw [sm_st_o _ _ (by decide), sm_st_o _ _ (by decide), sm_st_o _ _ (by decide)]; exact h19
        · rw [sm_st_o _ _ (by decide), sm_st_o _ _ (by decide), sm_st_o _ _ (by decide)]; exact h18
      have s135 : ∀ (J : Nat → Nat → Int32) (L2 : Nat → Nat → Int64) (p2 pt2 len2 : Nat) (D : DD) (v1 v3 : Option Value), rClause t true p pt = rTimes t true kd D p2 pt2 → mE t true J L2 p2 pt2 len2 → mG I J → mL1 L L2 → (∀ j, j < c8 → J 154 j = I 154 j) → J 123 21 = nI (l.length + 1) → (∀ k, k < len → cdO J k = cdO I k) → J 154 c8 = nI kd → J 154 (c8 + 1) = nI len → len ≤ len2 → (kd ≠ 3 → len < len2 ∧ sp_inB D ∧ mSX (wdO true) (cdO J) len len2 D) → (kd = 3 → len2 = len) → sm_W ex d 0 0 227 135 [some (.ref 123), v1, some (.int (nI c8)), v3] [] (n, y, J, L2, R) Q := by
        intro J L2 p2 pt2 len2 D v1 v3 e hE g gl lo h21 agr j0 j1 hll hsum h3
        have hle2 := hE.le
        refine w_X11_readOrder_135 (d1 := 6) hG (by omega) ?_
        rw [hE.2.2.2.1, if_pos rfl, sm_of 2, sm_of 7, nI_add, nI_add, nI_clamp (by omega), nI_clamp (by omega), hE.2.2.2.2.2.1]
        refine ⟨vp_in_nI (by omega) (by decide), vp_in_nI (by omega) (by decide), ?_⟩
        generalize hK : sm_st (sm_st J 154 (c8 + 2) (nI len2)) 154 (c8 + 7) 1 = K
        have ko : ∀ a j, ¬ (a = 154 ∧ (j = c8 + 2 ∨ j = c8 + 7)) → K a j = J a j := fun a j h => by rw [← hK, sm_st_or _ _ (by omega), sm_st_or _ _ (by omega)]
        have k2 : K 154 (c8 + 2) = nI len2 := by rw [← hK, sm_st_j _ _ (by omega), sm_st_s]
        have k7 : K 154 (c8 + 7) = nI 1 := by rw [← hK, sm_st_s]; rfl
        have kcd : cdO K = cdO J := by rw [← hK, cd_st (by decide), cd_st (by decide)]
        have kE : mE t true K L2 p2 pt2 len2 := hE.kept (fun j _ _ _ => ko 123 j (by omega)) (fun j => ko 132 j (by omega))
        have kg : mG I K := by rw [← hK]; exact (g.st (Or.inr rfl) _ _).st (Or.inr rfl) _ _
        refine m_word (w := wdTimes) hG kE.1 rfl wdNot_g.2.2.2.2 (fun nt => ?_) (fun yt => ?_)
        · have er : rTimes t true kd D p2 pt2 = rIf t true kd D 1 p2 pt2 := by unfold rTimes; rw [if_neg (fun z => nt z.2)]
          refine w_X11_readOrder_171 (d1 := 6) hG (by omega) ?_
          rw [if_pos rfl, sm_of 5, nI_add, nI_clamp (by omega), kE.2.2.2.1, if_pos rfl, kE.2.2.2.2.2.1]
          refine ⟨vp_in_nI (by omega) (by decide), ?_⟩
          have so : ∀ a j, ¬ (a = 154 ∧ j = c8 + 5) → sm_st K 154 (c8 + 5) (nI len2) a j = K a j := fun a j h => sm_st_or _ _ (by omega)
          refine s_if _ L2 p2 pt2 len2 1 D _ _ (e.trans er) (kE.kept (fun j _ _ _ => so 123 j (by omega)) (fun j => so 132 j (by omega))) (kg.st (Or.inr rfl) _ _) gl (fun j hj => by rw [so 154 j (by omega), ko 154 j (by omega)]; exact lo j hj) (by rw [so 123 21 (by omega), ko 123 21 (by omega)]; exact h21) (fun k hk => by rw [cd_st (by decide), kcd]; exact agr k hk) (by rw [so 154 _ (by omega), ko 154 _ (by omega)]; exact j0) (by rw [so 154 _ (by omega), ko 154 _ (by omega)]; exact j1) (by rw [so 154 _ (by omega)]; exact k2) (sm_st_s _ _ _ _) (by rw [so 154 _ (by omega)]; exact k7) (by decide) hll (fun z => by rw [cd_st (by decide), kcd]; exact hsum z) h3
        · have er : rTimes t true kd D p2 pt2 = if tkK t (nx t p2) = 2 ∧ 1 ≤ tkN t (nx t p2) ∧ tkN t (nx t p2) ≤ 20 then rIf t true kd D (tkN t (nx t p2)) (nx t (nx t p2)) pt2 else .inl (nx t p2) := by
            unfold rTimes
            rw [if_pos ⟨rfl, yt⟩]
          have hp2n := (tkW_k yt (by decide)).2.2.1
          refine w_X11_readOrder_171 (d1 := 6) hG (by omega) ?_
          rw [if_neg (by decide)]
          refine m_next (by omega) hG kE.1 ?_
          intro I3 L3 f3 g3 r3
          have x3 := kE.nx f3 g3 (by omega) r3
          refine w_X11_readOrder_178 (d1 := 6) hG (by omega) ?_
          rw [sm_of 7, nI_add]
          refine m_number (lo := 1) (hi := 20) (by omega) hG x3.1 x3.2.2.2.1 (by decide) (by decide) (fun hno v => ?_) (fun hyes I4 L4 f4 g4 r4 => ?_)
          · rw [if_neg hno] at er
            refine w_X11_readOrder_194 (d1 := 6) hG (by omega) ?_
            have b1 : mBad (nx t p2) I3 123 19 = 1 := by unfold mBad; rw [sm_st_j _ _ (by decide), sm_st_s]
            have b2 : mBad (nx t p2) I3 123 18 = nI (nx t p2) := by unfold mBad; rw [sm_st_s]
            rw [sm_of 5, nI_add, nI_clamp (by omega), nI_clamp (by omega), b1, if_neg (by decide)]
            refine ⟨vp_in_nI (by omega) (by decide), vp_in_nI (by omega) (by decide), ?_⟩
            refine bad233 _ L3 _ _ _ (e.trans er) ((((kg.trans f3.X.G).trans (mBad_X _ _).G).st (Or.inr rfl) _ _).st (Or.inr rfl) _ _) (gl.trans g3) ?_ ?_
            · rw [sm_st_o _ _ (by decide), sm_st_o _ _ (by decide)]; exact b1
            · rw [sm_st_o _ _ (by decide), sm_st_o _ _ (by decide)]; exact b2
          · rw [if_pos hyes] at er
            have hlt2 := nx_lt (t := t) (p := nx t p2) (by omega)
            have x4 := x3.nx f4 g4 (by omega) r4
            refine w_X11_readOrder_194 (d1 := 6) hG (by omega) ?_
            rw [sm_of 5, nI_add, nI_clamp (by omega), nI_clamp (by omega), x4.2.2.2.1, if_pos rfl, x4.2.2.2.2.2.1]
            refine ⟨vp_in_nI (by omega) (by decide), vp_in_nI (by omega) (by decide), ?_⟩
            generalize hM : sm_st (sm_st I4 154 (c8 + 7) (nI (tkN t (nx t p2)))) 154 (c8 + 5) (nI len2) = M
            have mo : ∀ a j, ¬ (a = 154 ∧ (j = c8 + 5 ∨ j = c8 + 7)) → M a j = I4 a j := fun a j h => by rw [← hM, sm_st_or _ _ (by omega), sm_st_or _ _ (by omega)]
            have m5 : M 154 (c8 + 5) = nI len2 := by rw [← hM, sm_st_s]
            have m7 : M 154 (c8 + 7) = nI (tkN t (nx t p2)) := by rw [← hM, sm_st_j _ _ (by omega), sm_st_s]
            have mcd : cdO M = cdO J := by rw [← hM, cd_st (by decide), cd_st (by decide), f4.cd, f3.cd, kcd]
            have mk : ∀ a j, ¬ (a = 154 ∧ (j = c8 + 5 ∨ j = c8 + 7)) → ¬ (a = 123 ∧ 14 ≤ j ∧ j ≤ 16) → M a j = K a j := fun a j h h2 => by rw [mo a j h, f4 a j h2, f3 a j h2]
            have mg : mG I M := by rw [← hM]; exact (((kg.trans f3.X.G).trans f4.X.G).st (Or.inr rfl) _ _).st (Or.inr rfl) _ _
            exact s_if M L4 _ pt2 len2 (tkN t (nx t p2)) D _ _ (e.trans er) (x4.kept (fun j _ _ _ => mo 123 j (by omega)) (fun j => mo 132 j (by omega))) mg ((gl.trans g3).trans g4) (fun j hj => by rw [mk 154 j (by omega) (by omega), ko 154 j (by omega)]; exact lo j hj) (by rw [mk 123 21 (by omega) (by omega), ko 123 21 (by omega)]; exact h21) (fun k hk => by rw [mcd]; exact agr k hk) (by rw [mk 154 _ (by omega) (by omega), ko 154 _ (by omega)]; exact j0) (by rw [mk 154 _ (by omega) (by omega), ko 154 _ (by omega)]; exact j1) (by rw [mk 154 _ (by omega) (by omega)]; exact k2) m5 m7 hyes.2.2 hll (fun z => by rw [mcd]; exact hsum z) h3
      -- zeros
      have zeros : ∀ (r j : Nat) (K : Nat → Nat → Int32), j + r = 8 → (∀ a i, ¬ (a = 154 ∧ c8 ≤ i ∧ i < c8 + 8) → ¬ (a = 123 ∧ i = 21) → K a i = I1 a i) → K 123 21 = nI (l.length + 1) → sm_W ex d 0 0 227 85 [some (.ref 123), some (.int (nI kd)), some (.int (nI c8)), some (.int (nI j))] [] (n, y, K, L1, R) Q := by
        intro r
        induction r with
        | zero =>
          intro j K hj ko k21
          refine w_X11_readOrder_85 (d1 := 6) hG (by omega) ?_
          rw [if_pos (show (8 : Int32) ≤ nI j from (nI_leI (a := 8) (by decide) (by omega)).mpr (by omega)), sm_n1, nI_clamp (by omega), nI_clamp (by omega), ko 123 23 (by omega) (by omega), x1.2.2.2.2.2.1]
          refine ⟨vp_in_nI (by omega) (by decide), vp_in_nI (by omega) (by decide), ?_⟩
          generalize hJ : sm_st (sm_st K 154 c8 (nI kd)) 154 (c8 + 1) (nI len) = J
          have jo : ∀ a i, ¬ (a = 154 ∧ c8 ≤ i ∧ i < c8 + 8) → ¬ (a = 123 ∧ i = 21) → J a i = I1 a i := fun a i q1 q2 => by rw [← hJ, sm_st_or _ _ (by omega), sm_st_or _ _ (by omega), ko a i q1 q2]
          have j0 : J 154 c8 = nI kd := by rw [← hJ, sm_st_j _ _ (by omega), sm_st_s]
          have j3 : J 154 (c8 + 1) = nI len := by rw [← hJ, sm_st_s]
          have j21 : J 123 21 = nI (l.length + 1) := by rw [← hJ, sm_st_o _ _ (by decide), sm_st_o _ _ (by decide)]; exact k21
          have jE : mE t true J L1 (nx t p) pt len := x1.kept (fun i q1 q2 q3 => jo 123 i (by omega) (by omega)) (fun i => jo 132 i (by omega) (by omega))
          have jG : mG I J := fun a i q1 q2 q3 => (jo a i (by omega) (by omega)).trans (f1 a i (by omega))
          have jcd : cdO J = cdO I := by
            rw [← f1.cd]
            funext k
            show (J 134 k, J 135 k) = (I1 134 k, I1 135 k)
            rw [jo 134 k (by omega) (by omega), jo 135 k (by omega) (by omega)]
          have jlo : ∀ i, i < c8 → J 154 i = I 154 i := fun i hi => (jo 154 i (by omega) (by omega)).trans (f1 154 i (by omega))
          have e3 : nI kd = 3 ↔ kd = 3 := nI_eq (b := 3) (by omega) (by decide)
          simp only [e3]
          by_cases h3 : kd = 3
          · rw [if_pos h3] at hr ⊢
            exact s135 J L1 (nx t p) pt len (dNum 0) _ _ hr jE jG g1 jlo j21 (fun k _ => by rw [jcd]) j0 j3 (Nat.le_refl _) (fun z => absurd h3 z) (fun _ => rfl)
          · rw [if_neg h3] at hr ⊢
            refine m_exprS (by omega) hG jE (fun I4 L4 q e4 f4 g4 h19 h18 => ?_) (fun I4 L4 q pt' D len3 e4 f4 g4 x4 agr4 sg4 => ?_)
            · exact bad135 I4 L4 q _ _ (by rw [hr, e4]) (jG.trans f4.G) (g1.trans g4) h19 h18
            · have hlt := mSX_lt sg4
              exact s135 I4 L4 q pt' len3 D _ _ (by rw [hr, e4]) x4 (jG.trans f4.G) (g1.trans g4) (fun i hi => by rw [f4 154 i (by omega) (by omega)]; exact jlo i hi) (by rw [f4 123 21 (by omega) (by omega)]; exact j21) (fun k hk => by rw [agr4 k hk, jcd]) (by rw [f4 154 _ (by omega) (by omega)]; exact j0) (by rw [f4 154 _ (by omega) (by omega)]; exact j3) (by omega) (fun _ => ⟨hlt, (rP_sum t true 8 _ _ _ _ _ e4).B, sg4⟩) (fun z => absurd z h3)
        | succ r ih =>
          intro j K hj ko k21
          refine w_X11_readOrder_85 (d1 := 6) hG (by omega) ?_
          rw [if_neg (show ¬ (8 : Int32) ≤ nI j from fun z => by have := (nI_leI (a := 8) (by decide) (by omega)).mp z; omega), nI_add, nI_clamp (by omega), sm_n1]
          exact ⟨vp_in_nI (by omega) (by decide), ih (j + 1) _ (by omega) (fun a i q q2 => (sm_st_or _ _ (by omega)).trans (ko a i q q2)) ((sm_st_o _ _ (by decide)).trans k21)⟩
      exact zeros 8 0 _ rfl (fun a i q1 q2 => sm_st_or _ _ (by omega)) (sm_st_s _ _ _ _)
    · rw [if_pos (show (12 : Int32) ≤ nI l.length from (nI_leI (a := 12) (by decide) (by omega)).mpr (by omega))]
      exact bad (fun z => absurd z h12) _ _ _

