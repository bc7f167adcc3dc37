/-! ## children sorted: the act -/
noncomputable def kTs' (s : kSt) (j b : Nat) : Int32 × kSt := if kCl s.o j = [] then (-(nI 6), kRef s 6) else (nI (kCt (fun i => (kSrt s.o b (kCl s.o j)).getD i 0 ≠ (kCl s.o j).getD i 0) (kCl s.o j).length), (kBeg s).setO (kSoz s.o j b))
section KXA
variable {adK a : Nat → Nat} {f : ky_H} {s : kSt} {Q : ky_Q} {x y v : Int32} {p t w i e l j k b : Nat}
theorem kx164 (h : kK a f s) (hj : j ≤ s.o.n) (hx : x = nI j - 1) (hb : b ≤ 2) (hQ : ∀ a' f' s', kSe (kTs' s j b).2 s' → kK a' f' s' → kAl a f a' f' kL7 → Q (.inl (some (.int (kTs' s j b).1))) f') : ky_cl adK 164 [.ref (a 0), .int x, .int (nI b)] f Q := by
  obtain ⟨kh0, kh1, kh2, kh23, kh30, kh40, kh42, ⟨_, kh37⟩, ⟨_, kh44⟩, ⟨_, kh46⟩, kh47, ⟨_, kh48⟩, ⟨_, kh12⟩, kh53⟩ := kK_hd h
  have ho := h.2.2.2.o
  have hn := ho.n60
  have hcn := kCl_le hj
  have hsp := kSrt_p s.o b (kCl s.o j)
  obtain ⟨hcp, hcl⟩ := kCl_part ho hj
  have hclt : ∀ c ∈ kCl s.o j, c < s.o.n := fun c hc => (hcl c hc).1
  have hslt : ∀ c ∈ kSrt s.o b (kCl s.o j), c < s.o.n := fun c hc => hclt c (hsp.mem_iff.mp hc)
  have hsl : (kSrt s.o b (kCl s.o j)).length = (kCl s.o j).length := hsp.length_eq
  have hpm := kOrg_p ho hj hsp
  have holen : (kOrg s.o j (kSrt s.o b (kCl s.o j))).length = s.o.n := by rw [hpm.length_eq, kRa_len]
  obtain ⟨E1, E2, E3, E4⟩ := kEj_V ho hj
  have hok := kSoz_ok (b := b) ho hj
  unfold kTs' at hQ
  unfold kSoz at hok hQ
  generalize hsl0 : kSrt s.o b (kCl s.o j) = sl at hslt hsl hpm holen hQ hok
  generalize hcl0 : kCl s.o j = cl at hcn hclt hsl hQ
  refine ⟨Nat.le_of_ble_eq_true rfl, fun z => absurd z (by decide), ?_⟩; show ky_ok adK 164 0 [some (.ref (a 0)), some (.int x), some (.int (nI b)), none, none, none, none, none] [] f 0 0 _
  repeat' (first | ((refine kx38k h hj hx ?_; rw [hcl0])) | (refine ky_ok_stp rfl ?_; simp (disch := first | omega | assumption) only [ky_stp, ky_inv, ky_ldi, ky_ldl, ky_ldd, ky_lda, ky_cl2, ky_st1, ky_st2, ky_s1i, ky_s2i, ky_s1l, ky_s2l, ky_sli, ky_s1f, ky_s2f, ky_s1d, ky_s2d, ky_sr, ky_sai, ky_sasi, ky_sasl, ky_sasr, ky_svr, ky_sv, ky_sv2, ky_s1, ky_cs, ky_pop, ky_nth, ky_snt, ky_obj, ky_ari, ky_arl, ky_arr, ky_arn, ky_fv, ky_rcv, List.map_cons, List.map_nil, List.drop_succ_cons, List.drop_zero, Value.category, Nat.reduceAdd, Nat.reduceSub, true_and, and_true, true_or, or_true, reduceCtorEq, ite_true, ite_false, eq_self, Nat.reduceEqDiff, Nat.reduceLeDiff, nI_add, nI_1, nI_leI, nI_ltI, nI_eq, nI_clamp, kz_m1, kz_mn, kz_mn2, kz_n0, kz_0n, kz_0, kz_le0, kz_0lt, false_implies, true_implies, not_false_eq_true, not_true_eq_false, Nat.zero_le, kb_0, kz_10, kz_of, ky_sw, kz_mx, kz_mi, kh0, kh1, kh2, kh23, kh30, kh40, kh42, kh37, kh44, kh46, kh47, kh48, kh12, kh53]) | (refine ⟨vp_in_nI (by omega) (by omega), ?_⟩) | (rw [if_neg (by decide)]; refine ⟨by decide, by decide, ?_⟩) | (refine ⟨by decide, by decide, ?_⟩) | (refine ⟨fun zc => ?_, fun zc => ?_⟩ <;> try (exfalso; omega)) | fail)
  intro PL f0 h0 hP hF0
  simp only [ky_aft, ky_vl, Nat.reduceAdd]
  by_cases hc0 : cl = []
  case pos =>
    rw [if_pos hc0] at hQ
    have hl0 : cl.length = 0 := by rw [hc0]; rfl
    obtain ⟨kh0, kh1, kh2, kh23, kh30, kh40, kh42, ⟨_, kh37⟩, ⟨_, kh44⟩, ⟨_, kh46⟩, kh47, ⟨_, kh48⟩, ⟨_, kh12⟩, kh53⟩ := kK_hd h0
    repeat' (first | (refine kx155 h0 (k := 6) (by omega) (by omega) ?_) | (refine ky_ok_stp rfl ?_; simp (disch := first | omega | assumption) only [ky_stp, ky_inv, ky_ldi, ky_ldl, ky_ldd, ky_lda, ky_cl2, ky_st1, ky_st2, ky_s1i, ky_s2i, ky_s1l, ky_s2l, ky_sli, ky_s1f, ky_s2f, ky_s1d, ky_s2d, ky_sr, ky_sai, ky_sasi, ky_sasl, ky_sasr, ky_svr, ky_sv, ky_sv2, ky_s1, ky_cs, ky_pop, ky_nth, ky_snt, ky_obj, ky_ari, ky_arl, ky_arr, ky_arn, ky_fv, ky_rcv, List.map_cons, List.map_nil, List.drop_succ_cons, List.drop_zero, Value.category, Nat.reduceAdd, Nat.reduceSub, true_and, and_true, true_or, or_true, reduceCtorEq, ite_true, ite_false, eq_self, Nat.reduceEqDiff, Nat.reduceLeDiff, nI_add, nI_1, nI_leI, nI_ltI, nI_eq, nI_clamp, kz_m1, kz_mn, kz_mn2, kz_n0, kz_0n, kz_0, kz_le0, kz_0lt, false_implies, true_implies, not_false_eq_true, not_true_eq_false, Nat.zero_le, kb_0, kz_10, kz_of, ky_sw, kz_mx, kz_mi, kh0, kh1, kh2, kh23, kh30, kh40, kh42, kh37, kh44, kh46, kh47, kh48, kh12, kh53, hl0, kz_6]) | (refine ⟨vp_in_nI (by omega) (by omega), ?_⟩) | (rw [if_neg (by decide)]; refine ⟨by decide, by decide, ?_⟩) | (refine ⟨by decide, by decide, ?_⟩) | (refine ⟨fun zc => ?_, fun zc => ?_⟩ <;> try (exfalso; omega)) | fail)
    intro f1 h1 hF1
    simp only [ky_aft, ky_vl, Nat.reduceAdd]
    repeat' (first | (refine ky_ok_stp rfl ?_; simp (disch := first | omega | assumption) only [ky_stp, ky_inv, ky_ldi, ky_ldl, ky_ldd, ky_lda, ky_cl2, ky_st1, ky_st2, ky_s1i, ky_s2i, ky_s1l, ky_s2l, ky_sli, ky_s1f, ky_s2f, ky_s1d, ky_s2d, ky_sr, ky_sai, ky_sasi, ky_sasl, ky_sasr, ky_svr, ky_sv, ky_sv2, ky_s1, ky_cs, ky_pop, ky_nth, ky_snt, ky_obj, ky_ari, ky_arl, ky_arr, ky_arn, ky_fv, ky_rcv, List.map_cons, List.map_nil, List.drop_succ_cons, List.drop_zero, Value.category, Nat.reduceAdd, Nat.reduceSub, true_and, and_true, true_or, or_true, reduceCtorEq, ite_true, ite_false, eq_self, Nat.reduceEqDiff, Nat.reduceLeDiff, nI_add, nI_1, nI_leI, nI_ltI, nI_eq, nI_clamp, kz_m1, kz_mn, kz_mn2, kz_n0, kz_0n, kz_0, kz_le0, kz_0lt, false_implies, true_implies, not_false_eq_true, not_true_eq_false, Nat.zero_le, kb_0, kz_10, kz_of, ky_sw, kz_mx, kz_mi]) | (refine ⟨vp_in_nI (by omega) (by omega), ?_⟩) | (refine ⟨fun zc => ?_, fun zc => ?_⟩ <;> try (exfalso; omega)) | fail)
    exact hQ a f1 (kRef s 6) (kSe_rf _) h1 (kAl_fr h.1 (kfr_tr hF0 hF1 fun j hj => ⟨hj, by unfold kL7 at hj; omega⟩))
  rw [if_neg hc0] at hQ
  have hlp : 0 < cl.length := List.length_pos_iff.mpr hc0
  obtain ⟨kh0, kh1, kh2, kh23, kh30, kh40, kh42, ⟨_, kh37⟩, ⟨_, kh44⟩, ⟨_, kh46⟩, kh47, ⟨_, kh48⟩, ⟨_, kh12⟩, kh53⟩ := kK_hd h0
  obtain ⟨G0, hW0⟩ := h0.2.1.z.1
  repeat' (first | ((refine kx32 (j := j) hW0.1 hn hj hx ?_; show ky_aft _ _ _ _ _ _ _ _ _ (.inl (some (.int (nI (kEj s.o j))))) _; simp only [ky_aft, ky_vl, Nat.reduceAdd])) | (refine kx156 h0 ?_) | (refine ky_ok_stp rfl ?_; simp (disch := first | omega | assumption) only [ky_stp, ky_inv, ky_ldi, ky_ldl, ky_ldd, ky_lda, ky_cl2, ky_st1, ky_st2, ky_s1i, ky_s2i, ky_s1l, ky_s2l, ky_sli, ky_s1f, ky_s2f, ky_s1d, ky_s2d, ky_sr, ky_sai, ky_sasi, ky_sasl, ky_sasr, ky_svr, ky_sv, ky_sv2, ky_s1, ky_cs, ky_pop, ky_nth, ky_snt, ky_obj, ky_ari, ky_arl, ky_arr, ky_arn, ky_fv, ky_rcv, List.map_cons, List.map_nil, List.drop_succ_cons, List.drop_zero, Value.category, Nat.reduceAdd, Nat.reduceSub, true_and, and_true, true_or, or_true, reduceCtorEq, ite_true, ite_false, eq_self, Nat.reduceEqDiff, Nat.reduceLeDiff, nI_add, nI_1, nI_leI, nI_ltI, nI_eq, nI_clamp, kz_m1, kz_mn, kz_mn2, kz_n0, kz_0n, kz_0, kz_le0, kz_0lt, false_implies, true_implies, not_false_eq_true, not_true_eq_false, Nat.zero_le, kb_0, kz_10, kz_of, ky_sw, kz_mx, kz_mi, kh0, kh1, kh2, kh23, kh30, kh40, kh42, kh37, kh44, kh46, kh47, kh48, kh12, kh53, kz_0, show ¬ cl.length = 0 by omega]) | (refine ⟨vp_in_nI (by omega) (by omega), ?_⟩) | (rw [if_neg (by decide)]; refine ⟨by decide, by decide, ?_⟩) | (refine ⟨by decide, by decide, ?_⟩) | (refine ⟨fun zc => ?_, fun zc => ?_⟩ <;> try (exfalso; omega)) | fail)
  intro a' f1 z' B hA hB1 hB2 he hzB h1
  simp only [ky_aft, ky_vl, Nat.reduceAdd]
  have e0 : a' 0 = a 0 := hA.2.2
  have hP1 : f1 (a' 54) = some (.inl (1, 60, .inl (kput PL cl))) := (kAl_at hA (by unfold kBF kHF; omega) hP).2
  rw [← e0]
  obtain ⟨kh0, kh1, kh2, kh23, kh30, kh40, kh42, ⟨_, kh37⟩, ⟨_, kh44⟩, ⟨_, kh46⟩, kh47, ⟨_, kh48⟩, ⟨_, kh12⟩, kh53⟩ := kK_hd h1
  obtain ⟨G1, hW1⟩ := h1.2.1.z.1
  obtain ⟨⟨GB, hWB⟩, hSB⟩ := hzB
  have hzn : z'.n = s.o.n := he.1
  have yB := kW_lv hWB
  obtain ⟨P5, hP5⟩ := h1.2.2.1.so
  repeat' (first | ((refine kx38 (q := 55) hW1.1 hn hj hx hP5 h1.1 (by omega) ?_; show ky_aft _ _ _ _ _ _ _ _ _ (.inl (some (.int (nI (kCl s.o j).length)))) (ky_up f1 (a' 55) (.inl (1, 60, .inl (kput P5 (kCl s.o j))))); rw [hcl0]; simp only [ky_aft, ky_vl, Nat.reduceAdd])) | (refine ky_ok_stp rfl ?_; simp (disch := first | omega | assumption) only [ky_stp, ky_inv, ky_ldi, ky_ldl, ky_ldd, ky_lda, ky_cl2, ky_st1, ky_st2, ky_s1i, ky_s2i, ky_s1l, ky_s2l, ky_sli, ky_s1f, ky_s2f, ky_s1d, ky_s2d, ky_sr, ky_sai, ky_sasi, ky_sasl, ky_sasr, ky_svr, ky_sv, ky_sv2, ky_s1, ky_cs, ky_pop, ky_nth, ky_snt, ky_obj, ky_ari, ky_arl, ky_arr, ky_arn, ky_fv, ky_rcv, List.map_cons, List.map_nil, List.drop_succ_cons, List.drop_zero, Value.category, Nat.reduceAdd, Nat.reduceSub, true_and, and_true, true_or, or_true, reduceCtorEq, ite_true, ite_false, eq_self, Nat.reduceEqDiff, Nat.reduceLeDiff, nI_add, nI_1, nI_leI, nI_ltI, nI_eq, nI_clamp, kz_m1, kz_mn, kz_mn2, kz_n0, kz_0n, kz_0, kz_le0, kz_0lt, false_implies, true_implies, not_false_eq_true, not_true_eq_false, Nat.zero_le, kb_0, kz_10, kz_of, ky_sw, kz_mx, kz_mi, kh0, kh1, kh2, kh23, kh30, kh40, kh42, kh37, kh44, kh46, kh47, kh48, kh12, kh53]) | (refine ⟨vp_in_nI (by omega) (by omega), ?_⟩) | (rw [if_neg (by decide)]; refine ⟨by decide, by decide, ?_⟩) | (refine ⟨by decide, by decide, ?_⟩) | (refine ⟨fun zc => ?_, fun zc => ?_⟩ <;> try (exfalso; omega)) | fail)
  have hF2 : kfr a' f1 (ky_up f1 (a' 55) (.inl (1, 60, .inl (kput P5 cl)))) (fun j => j = 55) := kfr_up h1.1 kfr_rf rfl
  have hP2 : (ky_up f1 (a' 55) (.inl (1, 60, .inl (kput P5 cl)))) (a' 55) = some (.inl (1, 60, .inl (kput P5 cl))) := kz_same
  generalize ky_up f1 (a' 55) (.inl (1, 60, .inl (kput P5 cl))) = f2 at hF2 hP2 ⊢
  have kh2' : f2 (a' 0) = _ := (hF2 0 (by omega)).trans kh0
  have hKo2 : kKo a' f2 s.er s.ep := (hF2 0 (by omega)).trans h1.2.1.o
  have hWB2 : kW a' B f2 z'.n z'.R GB := kW_fr hWB fun j z1 z2 => hF2 j (by omega)
  simp (disch := first | omega | assumption) only [ky_stp, ky_inv, ky_ldi, ky_ldl, ky_ldd, ky_lda, ky_cl2, ky_st1, ky_st2, ky_s1i, ky_s2i, ky_s1l, ky_s2l, ky_sli, ky_s1f, ky_s2f, ky_s1d, ky_s2d, ky_sr, ky_sai, ky_sasi, ky_sasl, ky_sasr, ky_svr, ky_sv, ky_sv2, ky_s1, ky_cs, ky_pop, ky_nth, ky_snt, ky_obj, ky_ari, ky_arl, ky_arr, ky_arn, ky_fv, ky_rcv, List.map_cons, List.map_nil, List.drop_succ_cons, List.drop_zero, Value.category, Nat.reduceAdd, Nat.reduceSub, true_and, and_true, true_or, or_true, reduceCtorEq, ite_true, ite_false, eq_self, Nat.reduceEqDiff, Nat.reduceLeDiff, nI_add, nI_1, nI_leI, nI_ltI, nI_eq, nI_clamp, kz_m1, kz_mn, kz_mn2, kz_n0, kz_0n, kz_0, kz_le0, kz_0lt, false_implies, true_implies, not_false_eq_true, not_true_eq_false, Nat.zero_le, kb_0, kz_10, kz_of, ky_sw, kz_mx, kz_mi, kh2']
  repeat' (first | (refine kx165 (z := s.o) h1.1 hKo2 hB1 hWB2 he hn hb hclt hlp (by omega) hP2 (fun t ht => by rw [kput, if_pos ht]) ?_) | (refine ky_ok_stp rfl ?_; simp (disch := first | omega | assumption) only [ky_stp, ky_inv, ky_ldi, ky_ldl, ky_ldd, ky_lda, ky_cl2, ky_st1, ky_st2, ky_s1i, ky_s2i, ky_s1l, ky_s2l, ky_sli, ky_s1f, ky_s2f, ky_s1d, ky_s2d, ky_sr, ky_sai, ky_sasi, ky_sasl, ky_sasr, ky_svr, ky_sv, ky_sv2, ky_s1, ky_cs, ky_pop, ky_nth, ky_snt, ky_obj, ky_ari, ky_arl, ky_arr, ky_arn, ky_fv, ky_rcv, List.map_cons, List.map_nil, List.drop_succ_cons, List.drop_zero, Value.category, Nat.reduceAdd, Nat.reduceSub, true_and, and_true, true_or, or_true, reduceCtorEq, ite_true, ite_false, eq_self, Nat.reduceEqDiff, Nat.reduceLeDiff, nI_add, nI_1, nI_leI, nI_ltI, nI_eq, nI_clamp, kz_m1, kz_mn, kz_mn2, kz_n0, kz_0n, kz_0, kz_le0, kz_0lt, false_implies, true_implies, not_false_eq_true, not_true_eq_false, Nat.zero_le, kb_0, kz_10, kz_of, ky_sw, kz_mx, kz_mi, kh2', yB]) | (refine ⟨vp_in_nI (by omega) (by omega), ?_⟩) | (rw [if_neg (by decide)]; refine ⟨by decide, by decide, ?_⟩) | (refine ⟨by decide, by decide, ?_⟩) | (refine ⟨fun zc => ?_, fun zc => ?_⟩ <;> try (exfalso; omega)) | fail)
  intro f3 P3 hP3 hPs3 hF3
  simp only [ky_aft, ky_vl, Nat.reduceAdd]
  rw [← hcl0, hsl0, hcl0] at hPs3
  have hF13 : kfr a' f1 f3 (fun j => j = 55) := kfr_tr hF2 hF3 fun j hj => ⟨hj, hj⟩
  have kh3' : f3 (a' 0) = _ := (hF13 0 (by omega)).trans kh0
  have hP3' : f3 (a' 54) = some (.inl (1, 60, .inl (kput PL cl))) := (hF13 54 (by omega)).trans hP1
  have hWB3 : kW a' B f3 z'.n z'.R GB := kW_fr hWB fun j z1 z2 => hF13 j (by omega)
  have hW3 : kW a' 1 f3 s.o.n s.o.R G1 := kW_fr hW1 fun j z1 z2 => hF13 j (by omega)
  have y3 := kW_lv hW3
  have yB3 := kW_lv hWB3
  have hjj : nI j - 1 + 1 = nI j := Int32.sub_add_cancel _ _
  subst hx
  repeat' (first | (refine kx50 (k := 1) (k2 := B) (s := 0) h1.1 (by omega) hW3 hWB3 (by omega) (Nat.zero_le _) (by omega) ?_) | (refine ky_ok_stp rfl ?_; simp (disch := first | omega | assumption) only [ky_stp, ky_inv, ky_ldi, ky_ldl, ky_ldd, ky_lda, ky_cl2, ky_st1, ky_st2, ky_s1i, ky_s2i, ky_s1l, ky_s2l, ky_sli, ky_s1f, ky_s2f, ky_s1d, ky_s2d, ky_sr, ky_sai, ky_sasi, ky_sasl, ky_sasr, ky_svr, ky_sv, ky_sv2, ky_s1, ky_cs, ky_pop, ky_nth, ky_snt, ky_obj, ky_ari, ky_arl, ky_arr, ky_arn, ky_fv, ky_rcv, List.map_cons, List.map_nil, List.drop_succ_cons, List.drop_zero, Value.category, Nat.reduceAdd, Nat.reduceSub, true_and, and_true, true_or, or_true, reduceCtorEq, ite_true, ite_false, eq_self, Nat.reduceEqDiff, Nat.reduceLeDiff, nI_add, nI_1, nI_leI, nI_ltI, nI_eq, nI_clamp, kz_m1, kz_mn, kz_mn2, kz_n0, kz_0n, kz_0, kz_le0, kz_0lt, false_implies, true_implies, not_false_eq_true, not_true_eq_false, Nat.zero_le, kb_0, kz_10, kz_of, ky_sw, kz_mx, kz_mi, kh3', y3, hjj]) | (refine ⟨vp_in_nI (by omega) (by omega), ?_⟩) | (rw [if_neg (by decide)]; refine ⟨by decide, by decide, ?_⟩) | (refine ⟨by decide, by decide, ?_⟩) | (refine ⟨fun zc => ?_, fun zc => ?_⟩ <;> try (exfalso; omega)) | fail)
  intro f4 R4 G4 hW4 hF4 hR4
  simp only [ky_aft, ky_vl, Nat.reduceAdd]
  rw [Nat.sub_zero] at hW4 hR4
  -- what is taken over so far
  have hrow : ∀ t, t < s.o.n → z'.R t = s.o.R t := he.2.1
  have loop : ∀ m i f5 R5 G5, i + m = cl.length → kfr a' f3 f5 (kRB 1) → kW a' 1 f5 (kRa 0 j ++ (sl.take i).flatMap (kBr s.o)).length R5 G5 → (∀ t, t < (kRa 0 j ++ (sl.take i).flatMap (kBr s.o)).length → R5 t = s.o.R ((kRa 0 j ++ (sl.take i).flatMap (kBr s.o)).getD t 0)) →
      ky_ok adK 164 80 [some (.ref (a' 0)), some (.int (nI j - 1)), some (.int (nI b)), some (.int (nI cl.length)), some (.int (nI (kEj s.o j))), some (.ref (a' B)), some (.int (nI (kCt (fun i => sl.getD i 0 ≠ cl.getD i 0) i))), some (.int (nI i))] [] f5 11 339 Q := by
    intro m
    induction m with
    | zero =>
      intro i f5 R5 G5 hi hF5 hW5 hR5
      have hil : i = cl.length := by omega
      rw [List.take_of_length_le (by omega)] at hW5 hR5
      have hol : (kRa 0 j ++ sl.flatMap (kBr s.o)).length + (s.o.n - kEj s.o j) = s.o.n := by
        have := holen
        unfold kOrg at this
        rw [List.length_append, List.length_append, kRa_len, kRa_len] at this
        rw [List.length_append, kRa_len]; omega
      have kh5 : f5 (a' 0) = _ := (hF5 0 (by unfold kRB; omega)).trans kh3'
      have hWB5 : kW a' B f5 z'.n z'.R GB := kW_fr hWB3 fun j z1 z2 => hF5 j (by unfold kRB; omega)
      have y5 := kW_lv hW5
      have yB5 := kW_lv hWB5
      have hch := kCt_le (fun i => sl.getD i 0 ≠ cl.getD i 0) i
      repeat' (first | (refine kx49 (k := 1) (k2 := B) (s := kEj s.o j) (e := z'.n) h1.1 (by omega) hW5 hWB5 (by omega) (by omega) (Nat.le_refl _) (by omega) ?_) | (refine ky_ok_stp rfl ?_; simp (disch := first | omega | assumption) only [ky_stp, ky_inv, ky_ldi, ky_ldl, ky_ldd, ky_lda, ky_cl2, ky_st1, ky_st2, ky_s1i, ky_s2i, ky_s1l, ky_s2l, ky_sli, ky_s1f, ky_s2f, ky_s1d, ky_s2d, ky_sr, ky_sai, ky_sasi, ky_sasl, ky_sasr, ky_svr, ky_sv, ky_sv2, ky_s1, ky_cs, ky_pop, ky_nth, ky_snt, ky_obj, ky_ari, ky_arl, ky_arr, ky_arn, ky_fv, ky_rcv, List.map_cons, List.map_nil, List.drop_succ_cons, List.drop_zero, Value.category, Nat.reduceAdd, Nat.reduceSub, true_and, and_true, true_or, or_true, reduceCtorEq, ite_true, ite_false, eq_self, Nat.reduceEqDiff, Nat.reduceLeDiff, nI_add, nI_1, nI_leI, nI_ltI, nI_eq, nI_clamp, kz_m1, kz_mn, kz_mn2, kz_n0, kz_0n, kz_0, kz_le0, kz_0lt, false_implies, true_implies, not_false_eq_true, not_true_eq_false, Nat.zero_le, kb_0, kz_10, kz_of, ky_sw, kz_mx, kz_mi, kh5, y5, yB5]) | (refine ⟨vp_in_nI (by omega) (by omega), ?_⟩) | (rw [if_neg (by decide)]; refine ⟨by decide, by decide, ?_⟩) | (refine ⟨by decide, by decide, ?_⟩) | (refine ⟨fun zc => ?_, fun zc => ?_⟩ <;> try (exfalso; omega)) | fail)
      intro f6 R6 G6 hW6 hF6 hR6 hR6'
      simp only [ky_aft, ky_vl, Nat.reduceAdd]
      repeat' (first | (refine ky_ok_stp rfl ?_; simp (disch := first | omega | assumption) only [ky_stp, ky_inv, ky_ldi, ky_ldl, ky_ldd, ky_lda, ky_cl2, ky_st1, ky_st2, ky_s1i, ky_s2i, ky_s1l, ky_s2l, ky_sli, ky_s1f, ky_s2f, ky_s1d, ky_s2d, ky_sr, ky_sai, ky_sasi, ky_sasl, ky_sasr, ky_svr, ky_sv, ky_sv2, ky_s1, ky_cs, ky_pop, ky_nth, ky_snt, ky_obj, ky_ari, ky_arl, ky_arr, ky_arn, ky_fv, ky_rcv, List.map_cons, List.map_nil, List.drop_succ_cons, List.drop_zero, Value.category, Nat.reduceAdd, Nat.reduceSub, true_and, and_true, true_or, or_true, reduceCtorEq, ite_true, ite_false, eq_self, Nat.reduceEqDiff, Nat.reduceLeDiff, nI_add, nI_1, nI_leI, nI_ltI, nI_eq, nI_clamp, kz_m1, kz_mn, kz_mn2, kz_n0, kz_0n, kz_0, kz_le0, kz_0lt, false_implies, true_implies, not_false_eq_true, not_true_eq_false, Nat.zero_le, kb_0, kz_10, kz_of, ky_sw, kz_mx, kz_mi]) | (refine ⟨vp_in_nI (by omega) (by omega), ?_⟩) | (refine ⟨fun zc => ?_, fun zc => ?_⟩ <;> try (exfalso; omega)) | fail)
      rw [hzn, hol] at hW6 hR6'
      have hm : kZe (⟨s.o.n, fun t => s.o.R ((kOrg s.o j sl).getD t 0), s.o.S⟩ : kZ) ⟨s.o.n, R6, s.o.S⟩ := by
        refine ⟨rfl, fun t ht => ?_, fun _ _ _ => ⟨rfl, rfl, rfl, rfl⟩⟩
        have ht' : t < s.o.n := ht
        show R6 t = s.o.R ((kOrg s.o j sl).getD t 0)
        unfold kOrg
        rw [← List.append_assoc]
        by_cases e : t < (kRa 0 j ++ sl.flatMap (kBr s.o)).length
        · rw [(hR6 t e).1, hR5 t e, kgd_l e]
        · rw [kgd_r (by omega), kRa_get (by omega)]
          have := (hR6' (kEj s.o j + (t - (kRa 0 j ++ sl.flatMap (kBr s.o)).length)) t (by omega) ht' (by omega)).1
          rw [this, hrow _ (by omega)]
      rw [hil]
      have hA2 : kAl a f a' f3 kL7 := kAl_tr (kAl_fr h.1 hF0) (kBB7 h1.1 hA hF13 (fun j w => by unfold kL7; omega)) fun j hj => ⟨hj, hj⟩
      have hK3 : kK a' f3 (kBeg' s z') := by
        obtain ⟨b1, b2, b3, b4⟩ := h1
        exact ⟨b1, kK1_fr b2 fun j hj => hF13 j (by unfold ksc at hj; omega), kK2_fr b3 hF13 (.inl fun j _ _ => by omega) (.inl fun j _ _ => by omega) (.inl fun j _ _ => by omega) (.inl ⟨by omega, by omega⟩) (.inl (by omega)) (.inl fun j _ _ => by omega) (.inl (by omega)) (.inr ⟨_, hP3⟩) (.inl (by omega)), b4⟩
      have hF36 : kfr a' f3 f6 (kRB 1) := kfr_tr hF5 hF6 fun j hj => ⟨hj, hj⟩
      exact hQ a' f6 _ (kAct_e he hm) (kK_o hK3 (kfr_BR hF36) ⟨⟨_, hW6⟩, kS_rb hK3.2.1.z.2 hF36⟩ (kZo_e hm hok)) (kAl_tr hA2 (kAl_fr h1.1 hF36) fun j hj => ⟨hj, fun w => hj (by unfold kRB at w; unfold kL7; omega)⟩)
    | succ m ih =>
      intro i f5 R5 G5 hi hF5 hW5 hR5
      have hil : i < sl.length := by omega
      have hic : i < cl.length := by omega
      have kh5 : f5 (a' 0) = _ := (hF5 0 (by unfold kRB; omega)).trans kh3'
      have hWB5 : kW a' B f5 z'.n z'.R GB := kW_fr hWB3 fun j z1 z2 => hF5 j (by unfold kRB; omega)
      have hP5s : f5 (a' 55) = _ := (hF5 55 (by unfold kRB; omega)).trans hP3
      have hP5p : f5 (a' 54) = _ := (hF5 54 (by unfold kRB; omega)).trans hP3'
      have y5 := kW_lv hW5
      have yB5 := kW_lv hWB5
      have hch := kCt_le (fun i => sl.getD i 0 ≠ cl.getD i 0) i
      have eg : sl.getD i 0 = sl[i] := by rw [List.getD_eq_getElem?_getD, List.getElem?_eq_getElem hil]; rfl
      have ecg : cl.getD i 0 = cl[i] := by rw [List.getD_eq_getElem?_getD, List.getElem?_eq_getElem hic]; rfl
      have hcn2 : sl.getD i 0 < s.o.n := by rw [eg]; exact hslt _ (List.getElem_mem hil)
      have hcc2 : cl.getD i 0 < s.o.n := by rw [ecg]; exact hclt _ (List.getElem_mem hic)
      have hps := hPs3 i hic
      have hpc : kput PL cl i = nI (cl.getD i 0) := by rw [kput, if_pos hic]
      have etk : kRa 0 j ++ (sl.take (i + 1)).flatMap (kBr s.o) = (kRa 0 j ++ (sl.take i).flatMap (kBr s.o)) ++ kBr s.o (sl.getD i 0) := by
        rw [← List.take_append_getElem hil, List.flatMap_append, eg, List.append_assoc]
        congr 2
        show kBr s.o sl[i] ++ [] = _
        rw [List.append_nil]
      have hbl : (kBr s.o (sl.getD i 0)).length = kEnd s.o (sl.getD i 0) - sl.getD i 0 := kRa_len _ _
      have hle1 : (kRa 0 j ++ (sl.take (i + 1)).flatMap (kBr s.o)).length ≤ s.o.n := by
        have := holen
        unfold kOrg at this
        rw [← List.append_assoc, List.length_append] at this
        have e2 : sl.flatMap (kBr s.o) = (sl.take (i + 1)).flatMap (kBr s.o) ++ (sl.drop (i + 1)).flatMap (kBr s.o) := by
          rw [← List.flatMap_append, List.take_append_drop]
        rw [e2, ← List.append_assoc, List.length_append] at this
        omega
      rw [etk] at hle1
      rw [List.length_append, hbl] at hle1
      have hEc := kEnd_le hcn2
      have hEe : kE (kL z'.R) (kL z'.R (sl.getD i 0)) (sl.getD i 0 + 1) (z'.n - (sl.getD i 0 + 1)) = kEnd s.o (sl.getD i 0) := kEnd_e he hcn2
      generalize hcd : sl.getD i 0 = c at hcn2 hps etk hbl hle1 hEc hEe
      have hc1' : c < z'.n := by omega
      (refine ky_ok_stp rfl ?_; simp (disch := first | omega | assumption) only [ky_stp, ky_inv, ky_ldi, ky_ldl, ky_ldd, ky_lda, ky_cl2, ky_st1, ky_st2, ky_s1i, ky_s2i, ky_s1l, ky_s2l, ky_sli, ky_s1f, ky_s2f, ky_s1d, ky_s2d, ky_sr, ky_sai, ky_sasi, ky_sasl, ky_sasr, ky_svr, ky_sv, ky_sv2, ky_s1, ky_cs, ky_pop, ky_nth, ky_snt, ky_obj, ky_ari, ky_arl, ky_arr, ky_arn, ky_fv, ky_rcv, List.map_cons, List.map_nil, List.drop_succ_cons, List.drop_zero, Value.category, Nat.reduceAdd, Nat.reduceSub, true_and, and_true, true_or, or_true, reduceCtorEq, ite_true, ite_false, eq_self, Nat.reduceEqDiff, Nat.reduceLeDiff, nI_add, nI_1, nI_leI, nI_ltI, nI_eq, nI_clamp, kz_m1, kz_mn, kz_mn2, kz_n0, kz_0n, kz_0, kz_le0, kz_0lt, false_implies, true_implies, not_false_eq_true, not_true_eq_false, Nat.zero_le, kb_0, kz_10, kz_of, ky_sw, kz_mx, kz_mi])
      repeat' (first | ((refine kx32 (j := c + 1) hWB5.1 (by omega) hc1' (nI_pred c).symm ?_; show ky_aft _ _ _ _ _ _ _ _ _ (.inl (some (.int (nI (kE (kL z'.R) (kL z'.R c) (c + 1) (z'.n - (c + 1))))))) _; rw [hEe]; simp only [ky_aft, ky_vl, Nat.reduceAdd])) | (refine kx49 (k := 1) (k2 := B) (s := c) (e := kEnd s.o c) h1.1 (by omega) hW5 hWB5 (by omega) (by omega) (by omega) (by omega) ?_) | (refine ky_ok_stp rfl ?_; simp (disch := first | omega | assumption) only [ky_stp, ky_inv, ky_ldi, ky_ldl, ky_ldd, ky_lda, ky_cl2, ky_st1, ky_st2, ky_s1i, ky_s2i, ky_s1l, ky_s2l, ky_sli, ky_s1f, ky_s2f, ky_s1d, ky_s2d, ky_sr, ky_sai, ky_sasi, ky_sasl, ky_sasr, ky_svr, ky_sv, ky_sv2, ky_s1, ky_cs, ky_pop, ky_nth, ky_snt, ky_obj, ky_ari, ky_arl, ky_arr, ky_arn, ky_fv, ky_rcv, List.map_cons, List.map_nil, List.drop_succ_cons, List.drop_zero, Value.category, Nat.reduceAdd, Nat.reduceSub, true_and, and_true, true_or, or_true, reduceCtorEq, ite_true, ite_false, eq_self, Nat.reduceEqDiff, Nat.reduceLeDiff, nI_add, nI_1, nI_leI, nI_ltI, nI_eq, nI_clamp, kz_m1, kz_mn, kz_mn2, kz_n0, kz_0n, kz_0, kz_le0, kz_0lt, false_implies, true_implies, not_false_eq_true, not_true_eq_false, Nat.zero_le, kb_0, kz_10, kz_of, ky_sw, kz_mx, kz_mi, kh5, y5, yB5, hP5s, hP5p, hps, hpc]) | (refine ⟨vp_in_nI (by omega) (by omega), ?_⟩) | (rw [if_neg (by decide)]; refine ⟨by decide, by decide, ?_⟩) | (refine ⟨by decide, by decide, ?_⟩) | (refine ⟨fun zc => ?_, fun zc => ?_⟩ <;> try (exfalso; omega)) | fail)
      intro f6 R6 G6 hW6 hF6 hR6 hR6'
      simp only [ky_aft, ky_vl, Nat.reduceAdd]
      have kh6 : f6 (a' 0) = _ := (hF6 0 (by unfold kRB; omega)).trans kh5
      have hP6s : f6 (a' 55) = _ := (hF6 55 (by unfold kRB; omega)).trans hP5s
      have hP6p : f6 (a' 54) = _ := (hF6 54 (by unfold kRB; omega)).trans hP5p
      have hln : (kRa 0 j ++ (sl.take i).flatMap (kBr s.o)).length + (kEnd s.o c - c) = (kRa 0 j ++ (sl.take (i + 1)).flatMap (kBr s.o)).length := by rw [etk]; simp only [List.length_append, hbl]
      rw [hln] at hW6 hR6'
      have hR7 : ∀ t, t < (kRa 0 j ++ (sl.take (i + 1)).flatMap (kBr s.o)).length → R6 t = s.o.R ((kRa 0 j ++ (sl.take (i + 1)).flatMap (kBr s.o)).getD t 0) := by
        intro t ht
        rw [etk]
        by_cases e : t < (kRa 0 j ++ (sl.take i).flatMap (kBr s.o)).length
        · rw [kgd_l e, (hR6 t e).1, hR5 t e]
        · have hb2 : kBr s.o c = kRa c (kEnd s.o c - c) := rfl
          rw [kgd_r (by omega), hb2, kRa_get (by omega)]
          have := (hR6' (c + (t - (kRa 0 j ++ (sl.take i).flatMap (kBr s.o)).length)) t (by omega) ht (by omega)).1
          rw [this, hrow _ (by omega)]
      have hF7 : kfr a' f3 f6 (kRB 1) := kfr_tr hF5 hF6 fun j hj => ⟨hj, hj⟩
      by_cases hne : c = cl.getD i 0
      · have e1 := kCt_s0 (p := fun i => sl.getD i 0 ≠ cl.getD i 0) (i := i) (fun w => w (by rw [hcd]; exact hne))
        have ec : (nI c = nI (cl.getD i 0)) = True := eq_true (by rw [hne])
        repeat' (first | (exact (by have := ih (i + 1) f6 R6 G6 (by omega) hF7 hW6 hR7; rw [e1] at this; exact this)) | (refine ky_ok_stp rfl ?_; simp (disch := first | omega | assumption) only [ky_stp, ky_inv, ky_ldi, ky_ldl, ky_ldd, ky_lda, ky_cl2, ky_st1, ky_st2, ky_s1i, ky_s2i, ky_s1l, ky_s2l, ky_sli, ky_s1f, ky_s2f, ky_s1d, ky_s2d, ky_sr, ky_sai, ky_sasi, ky_sasl, ky_sasr, ky_svr, ky_sv, ky_sv2, ky_s1, ky_cs, ky_pop, ky_nth, ky_snt, ky_obj, ky_ari, ky_arl, ky_arr, ky_arn, ky_fv, ky_rcv, List.map_cons, List.map_nil, List.drop_succ_cons, List.drop_zero, Value.category, Nat.reduceAdd, Nat.reduceSub, true_and, and_true, true_or, or_true, reduceCtorEq, ite_true, ite_false, eq_self, Nat.reduceEqDiff, Nat.reduceLeDiff, nI_add, nI_1, nI_leI, nI_ltI, nI_eq, nI_clamp, kz_m1, kz_mn, kz_mn2, kz_n0, kz_0n, kz_0, kz_le0, kz_0lt, false_implies, true_implies, not_false_eq_true, not_true_eq_false, Nat.zero_le, kb_0, kz_10, kz_of, ky_sw, kz_mx, kz_mi, kh6, hP6s, hP6p, hps, hpc, ec]) | (refine ⟨vp_in_nI (by omega) (by omega), ?_⟩) | (rw [if_neg (by decide)]; refine ⟨by decide, by decide, ?_⟩) | (refine ⟨by decide, by decide, ?_⟩) | (refine ⟨fun zc => ?_, fun zc => ?_⟩ <;> try (exfalso; omega)) | fail)
      · have e1 := kCt_s1 (p := fun i => sl.getD i 0 ≠ cl.getD i 0) (i := i) (by rw [hcd]; exact hne)
        have ec : (nI c = nI (cl.getD i 0)) = False := by rw [nI_eq (by omega) (by omega)]; exact eq_false hne
        repeat' (first | (exact (by have := ih (i + 1) f6 R6 G6 (by omega) hF7 hW6 hR7; rw [e1] at this; exact this)) | (refine ky_ok_stp rfl ?_; simp (disch := first | omega | assumption) only [ky_stp, ky_inv, ky_ldi, ky_ldl, ky_ldd, ky_lda, ky_cl2, ky_st1, ky_st2, ky_s1i, ky_s2i, ky_s1l, ky_s2l, ky_sli, ky_s1f, ky_s2f, ky_s1d, ky_s2d, ky_sr, ky_sai, ky_sasi, ky_sasl, ky_sasr, ky_svr, ky_sv, ky_sv2, ky_s1, ky_cs, ky_pop, ky_nth, ky_snt, ky_obj, ky_ari, ky_arl, ky_arr, ky_arn, ky_fv, ky_rcv, List.map_cons, List.map_nil, List.drop_succ_cons, List.drop_zero, Value.category, Nat.reduceAdd, Nat.reduceSub, true_and, and_true, true_or, or_true, reduceCtorEq, ite_true, ite_false, eq_self, Nat.reduceEqDiff, Nat.reduceLeDiff, nI_add, nI_1, nI_leI, nI_ltI, nI_eq, nI_clamp, kz_m1, kz_mn, kz_mn2, kz_n0, kz_0n, kz_0, kz_le0, kz_0lt, false_implies, true_implies, not_false_eq_true, not_true_eq_false, Nat.zero_le, kb_0, kz_10, kz_of, ky_sw, kz_mx, kz_mi, kh6, hP6s, hP6p, hps, hpc, ec]) | (refine ⟨vp_in_nI (by omega) (by omega), ?_⟩) | (rw [if_neg (by decide)]; refine ⟨by decide, by decide, ?_⟩) | (refine ⟨by decide, by decide, ?_⟩) | (refine ⟨fun zc => ?_, fun zc => ?_⟩ <;> try (exfalso; omega)) | fail)
  have e00 : (kRa 0 j ++ (sl.take 0).flatMap (kBr s.o)) = kRa 0 j := by rw [List.take_zero]; exact List.append_nil _
  repeat' (first | (refine loop cl.length 0 f4 R4 G4 (Nat.zero_add _) hF4 (by rw [e00, kRa_len]; exact hW4) ?_) | (refine ky_ok_stp rfl ?_; simp (disch := first | omega | assumption) only [ky_stp, ky_inv, ky_ldi, ky_ldl, ky_ldd, ky_lda, ky_cl2, ky_st1, ky_st2, ky_s1i, ky_s2i, ky_s1l, ky_s2l, ky_sli, ky_s1f, ky_s2f, ky_s1d, ky_s2d, ky_sr, ky_sai, ky_sasi, ky_sasl, ky_sasr, ky_svr, ky_sv, ky_sv2, ky_s1, ky_cs, ky_pop, ky_nth, ky_snt, ky_obj, ky_ari, ky_arl, ky_arr, ky_arn, ky_fv, ky_rcv, List.map_cons, List.map_nil, List.drop_succ_cons, List.drop_zero, Value.category, Nat.reduceAdd, Nat.reduceSub, true_and, and_true, true_or, or_true, reduceCtorEq, ite_true, ite_false, eq_self, Nat.reduceEqDiff, Nat.reduceLeDiff, nI_add, nI_1, nI_leI, nI_ltI, nI_eq, nI_clamp, kz_m1, kz_mn, kz_mn2, kz_n0, kz_0n, kz_0, kz_le0, kz_0lt, false_implies, true_implies, not_false_eq_true, not_true_eq_false, Nat.zero_le, kb_0, kz_10, kz_of, ky_sw, kz_mx, kz_mi]) | (refine ⟨vp_in_nI (by omega) (by omega), ?_⟩) | (rw [if_neg (by decide)]; refine ⟨by decide, by decide, ?_⟩) | (refine ⟨by decide, by decide, ?_⟩) | (refine ⟨fun zc => ?_, fun zc => ?_⟩ <;> try (exfalso; omega)) | fail)
  intro t ht
  rw [e00] at ht ⊢
  rw [kRa_len] at ht
  rw [kRa_get ht, (hR4 t t ht rfl).1, Nat.zero_add]
  exact hrow t (by omega)
theorem kx119 (h : kK a f s) (hy : ∀ j b a' f' s', j ≤ s.o.n → b ≤ 2 → x = nI j - 1 → y = nI b → kSe (kTs' s j b).2 s' → kK a' f' s' → kAl a f a' f' kL7 → Q (.inl (some (.int (kTs' s j b).1))) f') (h2 : ¬ (kHas s.o.n x ∨ x = -1) → Q (.inr 2) f) (h1 : (kHas s.o.n x ∨ x = -1) → ¬ kRg 0 2 y → Q (.inr 1) f) : ky_cl adK 119 [.ref (a 0), .int x, .int y] f Q := by
  obtain ⟨kh0, kh1, kh2, kh23, kh30, kh40, kh42, ⟨_, kh37⟩, ⟨_, kh44⟩, ⟨_, kh46⟩, kh47, ⟨_, kh48⟩, ⟨_, kh12⟩, kh53⟩ := kK_hd h
  refine ⟨Nat.le_of_ble_eq_true rfl, fun z => absurd z (by decide), ?_⟩; show ky_ok adK 119 0 [some (.ref (a 0)), some (.int x), some (.int y)] [] f 0 0 _
  by_cases hx : kHas s.o.n x ∨ x = -1
  case neg =>
    have hq := h2 hx
    repeat' (first | ((refine kx129 h (fun z => absurd z hx) (fun _ => ?_); exact hq)) | (refine ky_ok_stp rfl ?_; simp (disch := first | omega | assumption) only [ky_stp, ky_inv, ky_ldi, ky_ldl, ky_ldd, ky_lda, ky_cl2, ky_st1, ky_st2, ky_s1i, ky_s2i, ky_s1l, ky_s2l, ky_sli, ky_s1f, ky_s2f, ky_s1d, ky_s2d, ky_sr, ky_sai, ky_sasi, ky_sasl, ky_sasr, ky_svr, ky_sv, ky_sv2, ky_s1, ky_cs, ky_pop, ky_nth, ky_snt, ky_obj, ky_ari, ky_arl, ky_arr, ky_arn, ky_fv, ky_rcv, List.map_cons, List.map_nil, List.drop_succ_cons, List.drop_zero, Value.category, Nat.reduceAdd, Nat.reduceSub, true_and, and_true, true_or, or_true, reduceCtorEq, ite_true, ite_false, eq_self, Nat.reduceEqDiff, Nat.reduceLeDiff, nI_add, nI_1, nI_leI, nI_ltI, nI_eq, nI_clamp, kz_m1, kz_mn, kz_mn2, kz_n0, kz_0n, kz_0, kz_le0, kz_0lt, false_implies, true_implies, not_false_eq_true, not_true_eq_false, Nat.zero_le, kb_0, kz_10, kz_of, ky_sw, kz_mx, kz_mi, kh0, kh1, kh2, kh23, kh30, kh40, kh42, kh37, kh44, kh46, kh47, kh48, kh12, kh53]) | (refine ⟨vp_in_nI (by omega) (by omega), ?_⟩) | (rw [if_neg (by decide)]; refine ⟨by decide, by decide, ?_⟩) | (refine ⟨by decide, by decide, ?_⟩) | (refine ⟨fun zc => ?_, fun zc => ?_⟩ <;> try (exfalso; omega)) | fail)
  by_cases hyy : kRg 0 2 y
  case neg =>
    have hq := h1 hx hyy
    repeat' (first | ((refine kx129 h (fun _ => ?_) (fun z => absurd hx z); simp only [ky_aft, ky_vl, Nat.reduceAdd])) | ((refine kx132 (lo := 0) (hi := 2) (by decide) (by decide) (fun z => absurd z hyy) (fun _ => ?_); exact hq)) | (refine ky_ok_stp rfl ?_; simp (disch := first | omega | assumption) only [ky_stp, ky_inv, ky_ldi, ky_ldl, ky_ldd, ky_lda, ky_cl2, ky_st1, ky_st2, ky_s1i, ky_s2i, ky_s1l, ky_s2l, ky_sli, ky_s1f, ky_s2f, ky_s1d, ky_s2d, ky_sr, ky_sai, ky_sasi, ky_sasl, ky_sasr, ky_svr, ky_sv, ky_sv2, ky_s1, ky_cs, ky_pop, ky_nth, ky_snt, ky_obj, ky_ari, ky_arl, ky_arr, ky_arn, ky_fv, ky_rcv, List.map_cons, List.map_nil, List.drop_succ_cons, List.drop_zero, Value.category, Nat.reduceAdd, Nat.reduceSub, true_and, and_true, true_or, or_true, reduceCtorEq, ite_true, ite_false, eq_self, Nat.reduceEqDiff, Nat.reduceLeDiff, nI_add, nI_1, nI_leI, nI_ltI, nI_eq, nI_clamp, kz_m1, kz_mn, kz_mn2, kz_n0, kz_0n, kz_0, kz_le0, kz_0lt, false_implies, true_implies, not_false_eq_true, not_true_eq_false, Nat.zero_le, kb_0, kz_10, kz_of, ky_sw, kz_mx, kz_mi, kh0, kh1, kh2, kh23, kh30, kh40, kh42, kh37, kh44, kh46, kh47, kh48, kh12, kh53, kz_2]) | (refine ⟨vp_in_nI (by omega) (by omega), ?_⟩) | (rw [if_neg (by decide)]; refine ⟨by decide, by decide, ?_⟩) | (refine ⟨by decide, by decide, ?_⟩) | (refine ⟨fun zc => ?_, fun zc => ?_⟩ <;> try (exfalso; omega)) | fail)
  have hxj : ∃ j, j ≤ s.o.n ∧ x = nI j - 1 := by
    rcases id hx with ⟨i, hi, e⟩ | e
    · exact ⟨i + 1, hi, by rw [nI_pred]; exact e⟩
    · exact ⟨0, Nat.zero_le _, by rw [kz_z]; exact e⟩
  obtain ⟨j, hj, hxe⟩ := hxj
  obtain ⟨b, _, hb, rfl⟩ := id hyy
  repeat' (first | ((refine kx129 h (fun _ => ?_) (fun z => absurd hx z); simp only [ky_aft, ky_vl, Nat.reduceAdd])) | ((refine kx132 (lo := 0) (hi := 2) (by decide) (by decide) (fun _ => ?_) (fun z => absurd hyy z); simp only [ky_aft, ky_vl, Nat.reduceAdd])) | (refine kx164 h hj hxe hb ?_) | (refine ky_ok_stp rfl ?_; simp (disch := first | omega | assumption) only [ky_stp, ky_inv, ky_ldi, ky_ldl, ky_ldd, ky_lda, ky_cl2, ky_st1, ky_st2, ky_s1i, ky_s2i, ky_s1l, ky_s2l, ky_sli, ky_s1f, ky_s2f, ky_s1d, ky_s2d, ky_sr, ky_sai, ky_sasi, ky_sasl, ky_sasr, ky_svr, ky_sv, ky_sv2, ky_s1, ky_cs, ky_pop, ky_nth, ky_snt, ky_obj, ky_ari, ky_arl, ky_arr, ky_arn, ky_fv, ky_rcv, List.map_cons, List.map_nil, List.drop_succ_cons, List.drop_zero, Value.category, Nat.reduceAdd, Nat.reduceSub, true_and, and_true, true_or, or_true, reduceCtorEq, ite_true, ite_false, eq_self, Nat.reduceEqDiff, Nat.reduceLeDiff, nI_add, nI_1, nI_leI, nI_ltI, nI_eq, nI_clamp, kz_m1, kz_mn, kz_mn2, kz_n0, kz_0n, kz_0, kz_le0, kz_0lt, false_implies, true_implies, not_false_eq_true, not_true_eq_false, Nat.zero_le, kb_0, kz_10, kz_of, ky_sw, kz_mx, kz_mi, kh0, kh1, kh2, kh23, kh30, kh40, kh42, kh37, kh44, kh46, kh47, kh48, kh12, kh53, kz_2]) | (refine ⟨vp_in_nI (by omega) (by omega), ?_⟩) | (rw [if_neg (by decide)]; refine ⟨by decide, by decide, ?_⟩) | (refine ⟨by decide, by decide, ?_⟩) | (refine ⟨fun zc => ?_, fun zc => ?_⟩ <;> try (exfalso; omega)) | fail)
  intro a' f' s' w1 w2 w3
  simp only [ky_aft, ky_vl, Nat.reduceAdd]
  repeat' (first | (refine ky_ok_stp rfl ?_; simp (disch := first | omega | assumption) only [ky_stp, ky_inv, ky_ldi, ky_ldl, ky_ldd, ky_lda, ky_cl2, ky_st1, ky_st2, ky_s1i, ky_s2i, ky_s1l, ky_s2l, ky_sli, ky_s1f, ky_s2f, ky_s1d, ky_s2d, ky_sr, ky_sai, ky_sasi, ky_sasl, ky_sasr, ky_svr, ky_sv, ky_sv2, ky_s1, ky_cs, ky_pop, ky_nth, ky_snt, ky_obj, ky_ari, ky_arl, ky_arr, ky_arn, ky_fv, ky_rcv, List.map_cons, List.map_nil, List.drop_succ_cons, List.drop_zero, Value.category, Nat.reduceAdd, Nat.reduceSub, true_and, and_true, true_or, or_true, reduceCtorEq, ite_true, ite_false, eq_self, Nat.reduceEqDiff, Nat.reduceLeDiff, nI_add, nI_1, nI_leI, nI_ltI, nI_eq, nI_clamp, kz_m1, kz_mn, kz_mn2, kz_n0, kz_0n, kz_0, kz_le0, kz_0lt, false_implies, true_implies, not_false_eq_true, not_true_eq_false, Nat.zero_le, kb_0, kz_10, kz_of, ky_sw, kz_mx, kz_mi]) | (refine ⟨vp_in_nI (by omega) (by omega), ?_⟩) | (refine ⟨fun zc => ?_, fun zc => ?_⟩ <;> try (exfalso; omega)) | fail)
  exact hy j b a' f' s' hj hb hxe rfl w1 w2 w3
end KXA
