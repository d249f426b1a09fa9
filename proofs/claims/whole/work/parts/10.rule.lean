set_option maxHeartbeats 4000000 in
theorem sm_in1 {ex : sm_O} {d bc bs k pc : Nat} {l : List (Option Value)} {st : List Value} {μ : sm_Mem} {Q : sm_Q} {ins : Instr} {n a b c0 pl : Nat} {v : Value} (hc : sm_ck k pc (ins, n, a, b, c0, pl, v) = true) (h : sm_i ex (sm_W ex) d bc bs k pc l st μ Q ins a b c0 v) : sm_W ex d bc bs k pc l st μ Q := by
  intro z E D p l0 e R s m args below meth c Q' H locs cells slots cA ls hF hY hL
  have hF0 := hF
  obtain ⟨hx, hb, hml, hnm, hown, hts, hfr, hlo, hz, hK, hEx, hret⟩ := hF0
  cases ins
  case iconst i =>
    simp only [sm_ck, Bool.and_eq_true, decide_eq_true_eq] at hc
    obtain ⟨hd, rfl, rfl⟩ := hc
    exact lv_iconst hx hb hd rfl (h z E D p l0 e R s m args below meth c Q' H locs cells slots cA ls hF hY hL)
  case lconst i =>
    simp only [sm_ck, Bool.and_eq_true, decide_eq_true_eq] at hc
    obtain ⟨hd, rfl, rfl⟩ := hc
    exact lv_lconst hx hb hd rfl (h z E D p l0 e R s m args below meth c Q' H locs cells slots cA ls hF hY hL)
  case bipush i =>
    simp only [sm_ck, Bool.and_eq_true, decide_eq_true_eq] at hc
    obtain ⟨hd, rfl, rfl⟩ := hc
    exact lv_bipush hx hb hd rfl (h z E D p l0 e R s m args below meth c Q' H locs cells slots cA ls hF hY hL)
  case sipush i =>
    simp only [sm_ck, Bool.and_eq_true, decide_eq_true_eq] at hc
    obtain ⟨hd, rfl, rfl⟩ := hc
    exact lv_sipush hx hb hd rfl (h z E D p l0 e R s m args below meth c Q' H locs cells slots cA ls hF hY hL)
  case ldc i =>
    simp only [sm_ck, Bool.and_eq_true, decide_eq_true_eq] at hc
    obtain ⟨hd, hc⟩ := hc
    split at hc
    · split at hc
      · rename_i x
        simp only [Bool.and_eq_true, decide_eq_true_eq] at hc
        obtain ⟨rfl, hw⟩ := hc
        exact lv_ldc hx hb hown (hts _ (sm_wd_all hw rfl)) hd (h z E D p l0 e R s m args below meth c Q' H locs cells slots cA ls hF hY hL)
      · cases hc
    · split at hc
      · rename_i j
        simp only [decide_eq_true_eq] at hc
        obtain ⟨rfl, h2, h11, hw, hcl⟩ := hc
        rw [hcl] at hown
        exact sm_ldcS hx hb hown hEx h2 h11 (hcl ▸ hw) hd (h z E D p l0 e R s m args below meth c Q' H locs cells slots cA ls hF hY hL)
      · cases hc
  case ldc_w i =>
    simp only [sm_ck, Bool.and_eq_true, decide_eq_true_eq] at hc
    obtain ⟨hd, hc⟩ := hc
    split at hc
    · rename_i x
      simp only [Bool.and_eq_true, decide_eq_true_eq] at hc
      obtain ⟨rfl, hw⟩ := hc
      exact lv_ldcw hx hb hown (hts _ (sm_wd_all hw rfl)) hd (h z E D p l0 e R s m args below meth c Q' H locs cells slots cA ls hF hY hL)
    · cases hc
  case ldc2_w i =>
    simp only [sm_ck, Bool.and_eq_true, decide_eq_true_eq] at hc
    obtain ⟨hd, hc⟩ := hc
    split at hc
    · rename_i x
      simp only [Bool.and_eq_true, decide_eq_true_eq] at hc
      obtain ⟨rfl, hw⟩ := hc
      exact lv_ldc2 hx hb hown (hts _ (sm_wd_all hw rfl)) hd (h z E D p l0 e R s m args below meth c Q' H locs cells slots cA ls hF hY hL)
    · cases hc
  case iload i =>
    simp only [sm_ck, Bool.and_eq_true, decide_eq_true_eq] at hc
    obtain ⟨hd, rfl⟩ := hc
    obtain ⟨x, hi, h⟩ := sm_li_e h
    exact lv_iload hx hb hd (hL.2.2.2 i _ hi) (h z E D p l0 e R s m args below meth c Q' H locs cells slots cA ls hF hY hL)
  case iload_n i =>
    simp only [sm_ck, Bool.and_eq_true, decide_eq_true_eq] at hc
    obtain ⟨hd, rfl⟩ := hc
    obtain ⟨x, hi, h⟩ := sm_li_e h
    exact lv_iload_n hx hb hd rfl (hL.2.2.2 i.val _ hi) (h z E D p l0 e R s m args below meth c Q' H locs cells slots cA ls hF hY hL)
  case lload i =>
    simp only [sm_ck, Bool.and_eq_true, decide_eq_true_eq] at hc
    obtain ⟨hd, rfl⟩ := hc
    obtain ⟨x, hi, h⟩ := sm_ll_e h
    exact lv_lload hx hb hd (hL.2.2.2 i _ hi) (h z E D p l0 e R s m args below meth c Q' H locs cells slots cA ls hF hY hL)
  case lload_n i =>
    simp only [sm_ck, Bool.and_eq_true, decide_eq_true_eq] at hc
    obtain ⟨hd, rfl⟩ := hc
    obtain ⟨x, hi, h⟩ := sm_ll_e h
    exact lv_lload_n hx hb hd rfl (hL.2.2.2 i.val _ hi) (h z E D p l0 e R s m args below meth c Q' H locs cells slots cA ls hF hY hL)
  case aload i =>
    simp only [sm_ck, Bool.and_eq_true, decide_eq_true_eq] at hc
    obtain ⟨hd, rfl⟩ := hc
    have h9 : sm_la l i (fun x => sm_W ex d bc bs k (pc + 2) l (x :: st) μ Q) := h
    rcases sm_la_e h9 with ⟨x, hi, h⟩ | ⟨x, hi, h⟩
    · exact lv_aload hx hb hd (hL.2.2.2 i _ hi) (h z E D p l0 e R s m args below meth c Q' H locs cells slots cA ls hF hY hL)
    · exact lv_aload hx hb hd (hL.2.2.2 i _ hi) (h z E D p l0 e R s m args below meth c Q' H locs cells slots cA ls hF hY hL)
  case aload_n i =>
    simp only [sm_ck, Bool.and_eq_true, decide_eq_true_eq] at hc
    obtain ⟨hd, rfl⟩ := hc
    have h9 : sm_la l i.val (fun x => sm_W ex d bc bs k (pc + 1) l (x :: st) μ Q) := h
    rcases sm_la_e h9 with ⟨x, hi, h⟩ | ⟨x, hi, h⟩
    · exact lv_aload_n hx hb hd rfl (hL.2.2.2 i.val _ hi) (h z E D p l0 e R s m args below meth c Q' H locs cells slots cA ls hF hY hL)
    · exact lv_aload_n hx hb hd rfl (hL.2.2.2 i.val _ hi) (h z E D p l0 e R s m args below meth c Q' H locs cells slots cA ls hF hY hL)
  case istore i =>
    simp only [sm_ck, Bool.and_eq_true, decide_eq_true_eq] at hc
    obtain ⟨hd, rfl⟩ := hc
    obtain ⟨x, t, rfl, hi, h⟩ := sm_p1_e h
    exact lv_istore hx hb hd hL.has (by rw [← hL.1]; exact hi) rfl (fun ls' hl' => (h z E D p l0 e R s m args below meth c Q' H locs cells slots cA ls' hF hY (sm_L.st1 (v := .int x) hL hi hl')))
  case istore_n i =>
    simp only [sm_ck, Bool.and_eq_true, decide_eq_true_eq] at hc
    obtain ⟨hd, rfl⟩ := hc
    obtain ⟨x, t, rfl, hi, h⟩ := sm_p1_e h
    exact lv_istore_n hx hb hd rfl hL.has (by rw [← hL.1]; exact hi) rfl (fun ls' hl' => (h z E D p l0 e R s m args below meth c Q' H locs cells slots cA ls' hF hY (sm_L.st1 (v := .int x) hL hi hl')))
  case lstore i =>
    simp only [sm_ck, Bool.and_eq_true, decide_eq_true_eq] at hc
    obtain ⟨hd, rfl⟩ := hc
    obtain ⟨x, t, rfl, hi, h⟩ := sm_q1_e h
    exact lv_lstore hx hb hd hL.has (by rw [← hL.1]; exact hi) rfl (fun ls' hl' => (h z E D p l0 e R s m args below meth c Q' H locs cells slots cA ls' hF hY (sm_L.st2 (v := .long x) hL hi hl')))
  case lstore_n i =>
    simp only [sm_ck, Bool.and_eq_true, decide_eq_true_eq] at hc
    obtain ⟨hd, rfl⟩ := hc
    obtain ⟨x, t, rfl, hi, h⟩ := sm_q1_e h
    exact lv_lstore_n hx hb hd rfl hL.has (by rw [← hL.1]; exact hi) rfl (fun ls' hl' => (h z E D p l0 e R s m args below meth c Q' H locs cells slots cA ls' hF hY (sm_L.st2 (v := .long x) hL hi hl')))
  case astore i =>
    simp only [sm_ck, Bool.and_eq_true, decide_eq_true_eq] at hc
    obtain ⟨hd, rfl⟩ := hc
    obtain ⟨x, t, rfl, hi, h⟩ := sm_pr_e h
    exact lv_astore hx hb hd hL.has (by rw [← hL.1]; exact hi) rfl (fun ls' hl' => (h z E D p l0 e R s m args below meth c Q' H locs cells slots cA ls' hF hY (sm_L.st1 (v := .ref x) hL hi hl')))
  case astore_n i =>
    simp only [sm_ck, Bool.and_eq_true, decide_eq_true_eq] at hc
    obtain ⟨hd, rfl⟩ := hc
    obtain ⟨x, t, rfl, hi, h⟩ := sm_pr_e h
    exact lv_astore_n hx hb hd rfl hL.has (by rw [← hL.1]; exact hi) rfl (fun ls' hl' => (h z E D p l0 e R s m args below meth c Q' H locs cells slots cA ls' hF hY (sm_L.st1 (v := .ref x) hL hi hl')))
  case iinc i w0 =>
    simp only [sm_ck, Bool.and_eq_true, decide_eq_true_eq] at hc
    obtain ⟨hd, rfl, rfl⟩ := hc
    have h9 : sm_li l i fun x => i < l.length ∧ sm_W ex d bc bs k (pc + 3) (sm_se l i (some (.int (x + Int32.ofInt w0)))) st μ Q := h
    obtain ⟨x, hx1, hi, h⟩ := sm_li_e h9
    obtain ⟨q, hq⟩ := List.getElem?_of_mem (sm_lv_mem (z := z) (E := E) hx1)
    exact lv_iinc hx hb hd hL.has hq rfl (by rw [← hL.1]; exact hi) rfl (fun ls' hl' => (h z E D p l0 e R s m args below meth c Q' H locs cells slots cA ls' hF hY (sm_L.st1 (v := .int (x + Int32.ofInt w0)) hL hi hl')))
  case iadd =>
    simp only [sm_ck, Bool.and_eq_true, decide_eq_true_eq] at hc
    obtain ⟨hd, rfl⟩ := hc
    obtain ⟨x, y, t, rfl, h⟩ := sm_p2_e h
    exact lv_iadd hx hb hd (h z E D p l0 e R s m args below meth c Q' H locs cells slots cA ls hF hY hL)
  case isub =>
    simp only [sm_ck, Bool.and_eq_true, decide_eq_true_eq] at hc
    obtain ⟨hd, rfl⟩ := hc
    obtain ⟨x, y, t, rfl, h⟩ := sm_p2_e h
    exact lv_isub hx hb hd (h z E D p l0 e R s m args below meth c Q' H locs cells slots cA ls hF hY hL)
  case imul =>
    simp only [sm_ck, Bool.and_eq_true, decide_eq_true_eq] at hc
    obtain ⟨hd, rfl⟩ := hc
    obtain ⟨x, y, t, rfl, h⟩ := sm_p2_e h
    exact lv_imul hx hb hd (h z E D p l0 e R s m args below meth c Q' H locs cells slots cA ls hF hY hL)
  case iand =>
    simp only [sm_ck, Bool.and_eq_true, decide_eq_true_eq] at hc
    obtain ⟨hd, rfl⟩ := hc
    obtain ⟨x, y, t, rfl, h⟩ := sm_p2_e h
    exact lv_iand hx hb hd (h z E D p l0 e R s m args below meth c Q' H locs cells slots cA ls hF hY hL)
  case ior =>
    simp only [sm_ck, Bool.and_eq_true, decide_eq_true_eq] at hc
    obtain ⟨hd, rfl⟩ := hc
    obtain ⟨x, y, t, rfl, h⟩ := sm_p2_e h
    exact lv_ior hx hb hd (h z E D p l0 e R s m args below meth c Q' H locs cells slots cA ls hF hY hL)
  case ixor =>
    simp only [sm_ck, Bool.and_eq_true, decide_eq_true_eq] at hc
    obtain ⟨hd, rfl⟩ := hc
    obtain ⟨x, y, t, rfl, h⟩ := sm_p2_e h
    exact lv_ixor hx hb hd (h z E D p l0 e R s m args below meth c Q' H locs cells slots cA ls hF hY hL)
  case ishl =>
    simp only [sm_ck, Bool.and_eq_true, decide_eq_true_eq] at hc
    obtain ⟨hd, rfl⟩ := hc
    obtain ⟨x, y, t, rfl, h⟩ := sm_p2_e h
    exact lv_ishl hx hb hd (h z E D p l0 e R s m args below meth c Q' H locs cells slots cA ls hF hY hL)
  case ishr =>
    simp only [sm_ck, Bool.and_eq_true, decide_eq_true_eq] at hc
    obtain ⟨hd, rfl⟩ := hc
    obtain ⟨x, y, t, rfl, h⟩ := sm_p2_e h
    exact lv_ishr hx hb hd (h z E D p l0 e R s m args below meth c Q' H locs cells slots cA ls hF hY hL)
  case iushr =>
    simp only [sm_ck, Bool.and_eq_true, decide_eq_true_eq] at hc
    obtain ⟨hd, rfl⟩ := hc
    obtain ⟨x, y, t, rfl, h⟩ := sm_p2_e h
    exact lv_iushr hx hb hd rfl (h z E D p l0 e R s m args below meth c Q' H locs cells slots cA ls hF hY hL)
  case ineg =>
    simp only [sm_ck, Bool.and_eq_true, decide_eq_true_eq] at hc
    obtain ⟨hd, rfl⟩ := hc
    obtain ⟨x, t, rfl, h⟩ := sm_p1_e h
    exact lv_ineg hx hb hd (h z E D p l0 e R s m args below meth c Q' H locs cells slots cA ls hF hY hL)
  case irem =>
    simp only [sm_ck, Bool.and_eq_true, decide_eq_true_eq] at hc
    obtain ⟨hd, rfl⟩ := hc
    obtain ⟨x, y, t, rfl, h0, h⟩ := sm_p2_e h
    exact lv_irem hx hb hd h0 (h z E D p l0 e R s m args below meth c Q' H locs cells slots cA ls hF hY hL)
  case ladd =>
    simp only [sm_ck, Bool.and_eq_true, decide_eq_true_eq] at hc
    obtain ⟨hd, rfl⟩ := hc
    obtain ⟨x, y, t, rfl, h⟩ := sm_q2_e h
    exact lv_ladd hx hb hd (h z E D p l0 e R s m args below meth c Q' H locs cells slots cA ls hF hY hL)
  case lsub =>
    simp only [sm_ck, Bool.and_eq_true, decide_eq_true_eq] at hc
    obtain ⟨hd, rfl⟩ := hc
    obtain ⟨x, y, t, rfl, h⟩ := sm_q2_e h
    exact lv_lsub hx hb hd (h z E D p l0 e R s m args below meth c Q' H locs cells slots cA ls hF hY hL)
  case lmul =>
    simp only [sm_ck, Bool.and_eq_true, decide_eq_true_eq] at hc
    obtain ⟨hd, rfl⟩ := hc
    obtain ⟨x, y, t, rfl, h⟩ := sm_q2_e h
    exact lv_lmul hx hb hd (h z E D p l0 e R s m args below meth c Q' H locs cells slots cA ls hF hY hL)
  case ldiv =>
    simp only [sm_ck, Bool.and_eq_true, decide_eq_true_eq] at hc
    obtain ⟨hd, rfl⟩ := hc
    obtain ⟨x, y, t, rfl, h0, h⟩ := sm_q2_e h
    exact lv_ldiv hx hb hd h0 (h z E D p l0 e R s m args below meth c Q' H locs cells slots cA ls hF hY hL)
  case lrem =>
    simp only [sm_ck, Bool.and_eq_true, decide_eq_true_eq] at hc
    obtain ⟨hd, rfl⟩ := hc
    obtain ⟨x, y, t, rfl, h0, h⟩ := sm_q2_e h
    exact lv_lrem hx hb hd h0 (h z E D p l0 e R s m args below meth c Q' H locs cells slots cA ls hF hY hL)
  case lcmp =>
    simp only [sm_ck, Bool.and_eq_true, decide_eq_true_eq] at hc
    obtain ⟨hd, rfl⟩ := hc
    obtain ⟨x, y, t, rfl, h⟩ := sm_q2_e h
    exact W.lcmp hx hb hd (h z E D p l0 e R s m args below meth c Q' H locs cells slots cA ls hF hY hL)
  case i2l =>
    simp only [sm_ck, Bool.and_eq_true, decide_eq_true_eq] at hc
    obtain ⟨hd, rfl⟩ := hc
    obtain ⟨x, t, rfl, h⟩ := sm_p1_e h
    exact lv_i2l hx hb hd rfl (h z E D p l0 e R s m args below meth c Q' H locs cells slots cA ls hF hY hL)
  case l2i =>
    simp only [sm_ck, Bool.and_eq_true, decide_eq_true_eq] at hc
    obtain ⟨hd, rfl⟩ := hc
    obtain ⟨x, t, rfl, h⟩ := sm_q1_e h
    exact lv_l2i hx hb hd rfl (h z E D p l0 e R s m args below meth c Q' H locs cells slots cA ls hF hY hL)
  case dup =>
    simp only [sm_ck, Bool.and_eq_true, decide_eq_true_eq] at hc
    obtain ⟨hd, rfl⟩ := hc
    obtain ⟨x, t, rfl, h1, h⟩ := sm_ph_e h
    exact lv_dup hx hb hd ((sm_v_cat z E x).trans h1) (h z E D p l0 e R s m args below meth c Q' H locs cells slots cA ls hF hY hL)
  case pop =>
    simp only [sm_ck, Bool.and_eq_true, decide_eq_true_eq] at hc
    obtain ⟨hd, rfl⟩ := hc
    obtain ⟨x, t, rfl, h1, h⟩ := sm_ph_e h
    exact lv_pop hx hb hd ((sm_v_cat z E x).trans h1) (h z E D p l0 e R s m args below meth c Q' H locs cells slots cA ls hF hY hL)
  case dup2 =>
    simp only [sm_ck, Bool.and_eq_true, decide_eq_true_eq] at hc
    obtain ⟨hd, rfl⟩ := hc
    obtain ⟨x, t, rfl, h⟩ := sm_ph_e h
    obtain ⟨y, t, rfl, h1, h2, h⟩ := sm_ph_e h
    exact lv_dup2_11 hx hb hd ((sm_v_cat z E x).trans h1) ((sm_v_cat z E y).trans h2) (h z E D p l0 e R s m args below meth c Q' H locs cells slots cA ls hF hY hL)
  case goto off =>
    simp only [sm_ck, Bool.and_eq_true, decide_eq_true_eq] at hc
    obtain ⟨hd, rfl, ht⟩ := hc
    exact lv_goto hx hb hd ht (h z E D p l0 e R s m args below meth c Q' H locs cells slots cA ls hF hY hL)
  case ifCond q off =>
    simp only [sm_ck, Bool.and_eq_true, decide_eq_true_eq] at hc
    obtain ⟨hd, rfl, ht⟩ := hc
    obtain ⟨x, t, rfl, h⟩ := sm_p1_e h
    cases q
    case eq => exact lv_if_eq hx hb hd ht (fun q => (h.1 q z E D p l0 e R s m args below meth c Q' H locs cells slots cA ls hF hY hL)) (fun q => (h.2 q z E D p l0 e R s m args below meth c Q' H locs cells slots cA ls hF hY hL))
    case ne => exact lv_if_ne hx hb hd ht (fun q => (h.1 q z E D p l0 e R s m args below meth c Q' H locs cells slots cA ls hF hY hL)) (fun q => (h.2 q z E D p l0 e R s m args below meth c Q' H locs cells slots cA ls hF hY hL))
    case lt => exact lv_if_lt hx hb hd ht (fun q => (h.1 q z E D p l0 e R s m args below meth c Q' H locs cells slots cA ls hF hY hL)) (fun q => (h.2 q z E D p l0 e R s m args below meth c Q' H locs cells slots cA ls hF hY hL))
    case ge => exact lv_if_ge hx hb hd ht (fun q => (h.1 q z E D p l0 e R s m args below meth c Q' H locs cells slots cA ls hF hY hL)) (fun q => (h.2 q z E D p l0 e R s m args below meth c Q' H locs cells slots cA ls hF hY hL))
    case gt => exact lv_if_gt hx hb hd ht (fun q => (h.1 q z E D p l0 e R s m args below meth c Q' H locs cells slots cA ls hF hY hL)) (fun q => (h.2 q z E D p l0 e R s m args below meth c Q' H locs cells slots cA ls hF hY hL))
    case le => exact lv_if_le hx hb hd ht (fun q => (h.1 q z E D p l0 e R s m args below meth c Q' H locs cells slots cA ls hF hY hL)) (fun q => (h.2 q z E D p l0 e R s m args below meth c Q' H locs cells slots cA ls hF hY hL))
  case if_icmp q off =>
    simp only [sm_ck, Bool.and_eq_true, decide_eq_true_eq] at hc
    obtain ⟨hd, rfl, ht⟩ := hc
    obtain ⟨x, y, t, rfl, h⟩ := sm_p2_e h
    cases q
    case eq => exact lv_icmp_eq hx hb hd ht (fun q => (h.1 q z E D p l0 e R s m args below meth c Q' H locs cells slots cA ls hF hY hL)) (fun q => (h.2 q z E D p l0 e R s m args below meth c Q' H locs cells slots cA ls hF hY hL))
    case ne => exact lv_icmp_ne hx hb hd ht (fun q => (h.1 q z E D p l0 e R s m args below meth c Q' H locs cells slots cA ls hF hY hL)) (fun q => (h.2 q z E D p l0 e R s m args below meth c Q' H locs cells slots cA ls hF hY hL))
    case lt => exact lv_icmp_lt hx hb hd ht (fun q => (h.1 q z E D p l0 e R s m args below meth c Q' H locs cells slots cA ls hF hY hL)) (fun q => (h.2 q z E D p l0 e R s m args below meth c Q' H locs cells slots cA ls hF hY hL))
    case ge => exact lv_icmp_ge hx hb hd ht (fun q => (h.1 q z E D p l0 e R s m args below meth c Q' H locs cells slots cA ls hF hY hL)) (fun q => (h.2 q z E D p l0 e R s m args below meth c Q' H locs cells slots cA ls hF hY hL))
    case gt => exact lv_icmp_gt hx hb hd ht (fun q => (h.1 q z E D p l0 e R s m args below meth c Q' H locs cells slots cA ls hF hY hL)) (fun q => (h.2 q z E D p l0 e R s m args below meth c Q' H locs cells slots cA ls hF hY hL))
    case le => exact lv_icmp_le hx hb hd ht (fun q => (h.1 q z E D p l0 e R s m args below meth c Q' H locs cells slots cA ls hF hY hL)) (fun q => (h.2 q z E D p l0 e R s m args below meth c Q' H locs cells slots cA ls hF hY hL))
  case ifnull off =>
    simp only [sm_ck, Bool.and_eq_true, decide_eq_true_eq] at hc
    obtain ⟨hd, rfl, ht⟩ := hc
    obtain ⟨x, t, rfl, hh⟩ := sm_ph_e h
    clear h
    have h := hh
    split at h
    · exact lv_ifnullN hx hb hd ht (h z E D p l0 e R s m args below meth c Q' H locs cells slots cA ls hF hY hL)
    · exact lv_ifnull hx hb hd (h z E D p l0 e R s m args below meth c Q' H locs cells slots cA ls hF hY hL)
    · exact h.elim
  case ifnonnull off =>
    simp only [sm_ck, Bool.and_eq_true, decide_eq_true_eq] at hc
    obtain ⟨hd, rfl, ht⟩ := hc
    obtain ⟨x, t, rfl, hh⟩ := sm_ph_e h
    clear h
    have h := hh
    split at h
    · exact lv_ifnonnullN hx hb hd (h z E D p l0 e R s m args below meth c Q' H locs cells slots cA ls hF hY hL)
    · exact lv_ifnonnull hx hb hd ht (h z E D p l0 e R s m args below meth c Q' H locs cells slots cA ls hF hY hL)
    · exact h.elim
  case tableswitch off lo hi offs =>
    exact sm_in_sw hc h z E D p l0 e R s m args below meth c Q' H locs cells slots cA ls hF hY hL
  case getfield i =>
    exact sm_in_getfield hc h z E D p l0 e R s m args below meth c Q' H locs cells slots cA ls hF hY hL
  case putfield i =>
    exact sm_in_putfield hc h z E D p l0 e R s m args below meth c Q' H locs cells slots cA ls hF hY hL
  case getstatic i =>
    exact sm_in_getstatic hc h z E D p l0 e R s m args below meth c Q' H locs cells slots cA ls hF hY hL
  case iaload =>
    exact sm_in_iaload hc h z E D p l0 e R s m args below meth c Q' H locs cells slots cA ls hF hY hL
  case baload =>
    exact sm_in_baload hc h z E D p l0 e R s m args below meth c Q' H locs cells slots cA ls hF hY hL
  case laload =>
    exact sm_in_laload hc h z E D p l0 e R s m args below meth c Q' H locs cells slots cA ls hF hY hL
  case aaload =>
    exact sm_in_aaload hc h z E D p l0 e R s m args below meth c Q' H locs cells slots cA ls hF hY hL
  case iastore =>
    exact sm_in_iastore hc h z E D p l0 e R s m args below meth c Q' H locs cells slots cA ls hF hY hL
  case bastore =>
    exact sm_in_bastore hc h z E D p l0 e R s m args below meth c Q' H locs cells slots cA ls hF hY hL
  case lastore =>
    exact sm_in_lastore hc h z E D p l0 e R s m args below meth c Q' H locs cells slots cA ls hF hY hL
  case aastore =>
    exact sm_in_aastore hc h z E D p l0 e R s m args below meth c Q' H locs cells slots cA ls hF hY hL
  case arraylength =>
    exact sm_in_arraylength hc h z E D p l0 e R s m args below meth c Q' H locs cells slots cA ls hF hY hL
  case new i =>
    exact sm_in_new hc h z E D p l0 e R s m args below meth c Q' H locs cells slots cA ls hF hY hL
  case newarray i =>
    exact sm_in_newarray hc h z E D p l0 e R s m args below meth c Q' H locs cells slots cA ls hF hY hL
  case anewarray i =>
    exact sm_in_anewarray hc h z E D p l0 e R s m args below meth c Q' H locs cells slots cA ls hF hY hL
  case ireturn =>
    exact sm_in_ireturn hc h z E D p l0 e R s m args below meth c Q' H locs cells slots cA ls hF hY hL
  case lreturn =>
    exact sm_in_lreturn hc h z E D p l0 e R s m args below meth c Q' H locs cells slots cA ls hF hY hL
  case areturn =>
    exact sm_in_areturn hc h z E D p l0 e R s m args below meth c Q' H locs cells slots cA ls hF hY hL
  case return_ =>
    exact sm_in_return hc h z E D p l0 e R s m args below meth c Q' H locs cells slots cA ls hF hY hL
  case invokevirtual i =>
    exact sm_in_invokevirtual hc h z E D p l0 e R s m args below meth c Q' H locs cells slots cA ls hF hY hL
  case invokespecial i =>
    exact sm_in_invokespecial hc h z E D p l0 e R s m args below meth c Q' H locs cells slots cA ls hF hY hL
  case invokestatic i =>
    exact sm_in_invokestatic hc h z E D p l0 e R s m args below meth c Q' H locs cells slots cA ls hF hY hL
  all_goals exact (show False from h).elim
/-- THE RULE: a step of the plain machine is one of the real machine -/
theorem sm_in {ex : sm_O} {d bc bs k pc : Nat} {l : List (Option Value)} {st : List Value} {μ : sm_Mem} {Q : sm_Q} (h : sm_F ex (sm_W ex) d bc bs k pc l st μ Q) : sm_W ex d bc bs k pc l st μ Q := by
  unfold sm_F at h
  split at h
  · exact h.elim
  · rename_i e hlk
    exact sm_in1 (sm_ck_at hlk) h
