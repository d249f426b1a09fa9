theorem sm_ck_at {k pc : Nat} {e : sm_E} (h : sm_lk (sm_cd k) pc = some e) : sm_ck k pc e = true := sorry
theorem sm_mk_at {k : Nat} (h : k < sm_klaw) : sm_mk k (sm_nth (0, 0, 0, 0, 0, 0) sm_mkl k) = true := sorry
