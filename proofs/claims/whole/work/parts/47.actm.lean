/-! ## acts: the methods -/
def kBF (j : Nat) : Prop := j = 53 ∨ kHF j
theorem kz_c0 : Int32.toNatClampNeg 0 = 0 := by decide
section KXA
variable {adK a : Nat → Nat} {f : ky_H} {s : kSt} {Q : ky_Q} {x y v : Int32} {p t w i e l j k : Nat}
theorem kHi_z {a : Nat → Nat} {f : ky_H} {un : Nat} {u : Nat → kZ} (h : kHi a f un u) : ∃ nx, f (a 37) = some (.inr (1, [.int (nI un), .int nx, .ref (a 38)])) := by
  obtain ⟨nx, g, -, -, e37, -⟩ := h
  exact ⟨_, e37⟩
theorem kx156 (h : kK a f s) (hQ : ∀ a' f' z' B, kAl a f a' f' kBF → 60 ≤ B → B + 10 < 148 → kZe s.o z' → kZb a' B f' z' → kK a' f' (kBeg' s z') → Q (.inl (some (.ref (a' B)))) f') : ky_cl adK 156 [.ref (a 0)] f Q := by
  obtain ⟨kh0, kh1, kh2, kh23, kh30, kh40, kh42, ⟨_, kh37⟩, ⟨_, kh44⟩, ⟨_, kh46⟩, kh47, ⟨_, kh48⟩, ⟨_, kh12⟩, kh53⟩ := kK_hd h
  have ho := h.2.2.2.o
  have hF1 : kfr a f (ky_up f (a 53) (.inl (1, 8, .inl (upd s.ac 0 (s.ac 0 + 1))))) (fun j => j = 53) := kfr_up h.1 kfr_rf rfl
  have h1 : kK a (ky_up f (a 53) (.inl (1, 8, .inl (upd s.ac 0 (s.ac 0 + 1))))) (s.setA (upd s.ac 0 (s.ac 0 + 1))) := kK_a h hF1 kz_same
  refine ⟨Nat.le_of_ble_eq_true rfl, fun z => absurd z (by decide), ?_⟩; show ky_ok adK 156 0 [some (.ref (a 0))] [] f 0 0 _
  repeat' (first | (refine ⟨vp_in_nI (n := 0) (by omega) (by omega), ?_⟩) | (refine ky_ok_stp rfl ?_; simp (disch := first | omega | assumption) only [ky_stp, ky_inv, ky_ldi, ky_ldl, ky_ldd, ky_lda, ky_cl2, ky_st1, ky_st2, ky_s1i, ky_s2i, ky_s1l, ky_s2l, ky_sli, ky_s1f, ky_s2f, ky_s1d, ky_s2d, ky_sr, ky_sai, ky_sasi, ky_sasl, ky_sasr, ky_svr, ky_sv, ky_sv2, ky_s1, ky_cs, ky_pop, ky_nth, ky_snt, ky_obj, ky_ari, ky_arl, ky_arr, ky_arn, ky_fv, ky_rcv, List.map_cons, List.map_nil, List.drop_succ_cons, List.drop_zero, Value.category, Nat.reduceAdd, Nat.reduceSub, true_and, and_true, true_or, or_true, reduceCtorEq, ite_true, ite_false, eq_self, Nat.reduceEqDiff, Nat.reduceLeDiff, nI_add, nI_1, nI_leI, nI_ltI, nI_eq, nI_clamp, kz_m1, kz_mn, kz_mn2, kz_n0, kz_0n, kz_0, kz_le0, kz_0lt, false_implies, true_implies, not_false_eq_true, not_true_eq_false, Nat.zero_le, kb_0, kz_10, kz_of, ky_sw, kz_mx, kz_mi, kh0, kh1, kh2, kh23, kh30, kh40, kh42, kh37, kh44, kh46, kh47, kh48, kh12, kh53, kz_c0]) | (refine ⟨vp_in_nI (by omega) (by omega), ?_⟩) | (rw [if_neg (by decide)]; refine ⟨by decide, by decide, ?_⟩) | (refine ⟨by decide, by decide, ?_⟩) | (refine ⟨fun zc => ?_, fun zc => ?_⟩ <;> try (exfalso; omega)) | fail)
  generalize ky_up f (a 53) (.inl (1, 8, .inl (upd s.ac 0 (s.ac 0 + 1)))) = f1 at hF1 h1 ⊢
  obtain ⟨kh0, kh1, kh2, kh23, kh30, kh40, kh42, ⟨_, kh37⟩, ⟨_, kh44⟩, ⟨_, kh46⟩, kh47, ⟨_, kh48⟩, ⟨_, kh12⟩, kh53⟩ := kK_hd h1
  simp (disch := first | omega | assumption) only [ky_stp, ky_inv, ky_ldi, ky_ldl, ky_ldd, ky_lda, ky_cl2, ky_st1, ky_st2, ky_s1i, ky_s2i, ky_s1l, ky_s2l, ky_sli, ky_s1f, ky_s2f, ky_s1d, ky_s2d, ky_sr, ky_sai, ky_sasi, ky_sasl, ky_sasr, ky_svr, ky_sv, ky_sv2, ky_s1, ky_cs, ky_pop, ky_nth, ky_snt, ky_obj, ky_ari, ky_arl, ky_arr, ky_arn, ky_fv, ky_rcv, List.map_cons, List.map_nil, List.drop_succ_cons, List.drop_zero, Value.category, Nat.reduceAdd, Nat.reduceSub, true_and, and_true, true_or, or_true, reduceCtorEq, ite_true, ite_false, eq_self, Nat.reduceEqDiff, Nat.reduceLeDiff, nI_add, nI_1, nI_leI, nI_ltI, nI_eq, nI_clamp, kz_m1, kz_mn, kz_mn2, kz_n0, kz_0n, kz_0, kz_le0, kz_0lt, false_implies, true_implies, not_false_eq_true, not_true_eq_false, Nat.zero_le, kb_0, kz_10, kz_of, ky_sw, kz_mx, kz_mi, kh0, kh1, kh2, kh23, kh30, kh40, kh42, kh37, kh44, kh46, kh47, kh48, kh12, kh53]
  repeat' (first | (refine kx6 (z := s.o) kh0 h.1 h1.2.1.h ho.n60 h1.2.1.z ?_) | (refine ky_ok_stp rfl ?_; simp (disch := first | omega | assumption) only [ky_stp, ky_inv, ky_ldi, ky_ldl, ky_ldd, ky_lda, ky_cl2, ky_st1, ky_st2, ky_s1i, ky_s2i, ky_s1l, ky_s2l, ky_sli, ky_s1f, ky_s2f, ky_s1d, ky_s2d, ky_sr, ky_sai, ky_sasi, ky_sasl, ky_sasr, ky_svr, ky_sv, ky_sv2, ky_s1, ky_cs, ky_pop, ky_nth, ky_snt, ky_obj, ky_ari, ky_arl, ky_arr, ky_arn, ky_fv, ky_rcv, List.map_cons, List.map_nil, List.drop_succ_cons, List.drop_zero, Value.category, Nat.reduceAdd, Nat.reduceSub, true_and, and_true, true_or, or_true, reduceCtorEq, ite_true, ite_false, eq_self, Nat.reduceEqDiff, Nat.reduceLeDiff, nI_add, nI_1, nI_leI, nI_ltI, nI_eq, nI_clamp, kz_m1, kz_mn, kz_mn2, kz_n0, kz_0n, kz_0, kz_le0, kz_0lt, false_implies, true_implies, not_false_eq_true, not_true_eq_false, Nat.zero_le, kb_0, kz_10, kz_of, ky_sw, kz_mx, kz_mi, kh0, kh1, kh2, kh23, kh30, kh40, kh42, kh37, kh44, kh46, kh47, kh48, kh12, kh53]) | (refine ⟨vp_in_nI (by omega) (by omega), ?_⟩) | (rw [if_neg (by decide)]; refine ⟨by decide, by decide, ?_⟩) | (refine ⟨by decide, by decide, ?_⟩) | (refine ⟨fun zc => ?_, fun zc => ?_⟩ <;> try (exfalso; omega)) | fail)
  intro a' f' z' B hA h37 hB1 hB2 he hzB hz1 hHi
  simp only [ky_aft, ky_vl, Nat.reduceAdd]
  repeat' (first | (refine ky_ok_stp rfl ?_; simp (disch := first | omega | assumption) only [ky_stp, ky_inv, ky_ldi, ky_ldl, ky_ldd, ky_lda, ky_cl2, ky_st1, ky_st2, ky_s1i, ky_s2i, ky_s1l, ky_s2l, ky_sli, ky_s1f, ky_s2f, ky_s1d, ky_s2d, ky_sr, ky_sai, ky_sasi, ky_sasl, ky_sasr, ky_svr, ky_sv, ky_sv2, ky_s1, ky_cs, ky_pop, ky_nth, ky_snt, ky_obj, ky_ari, ky_arl, ky_arr, ky_arn, ky_fv, ky_rcv, List.map_cons, List.map_nil, List.drop_succ_cons, List.drop_zero, Value.category, Nat.reduceAdd, Nat.reduceSub, true_and, and_true, true_or, or_true, reduceCtorEq, ite_true, ite_false, eq_self, Nat.reduceEqDiff, Nat.reduceLeDiff, nI_add, nI_1, nI_leI, nI_ltI, nI_eq, nI_clamp, kz_m1, kz_mn, kz_mn2, kz_n0, kz_0n, kz_0, kz_le0, kz_0lt, false_implies, true_implies, not_false_eq_true, not_true_eq_false, Nat.zero_le, kb_0, kz_10, kz_of, ky_sw, kz_mx, kz_mi]) | (refine ⟨vp_in_nI (by omega) (by omega), ?_⟩) | (refine ⟨fun zc => ?_, fun zc => ?_⟩ <;> try (exfalso; omega)) | fail)
  have hA2 : kAl a f a' f' kBF := kAl_tr (kAl_fr h.1 hF1) hA fun j hj => ⟨fun w => hj (Or.inl w), fun w => hj (Or.inr w)⟩
  have hX : ∀ j, j < 60 → j ≠ 37 → j ≠ 38 → ¬ kHF j := fun j h1 h2 h3 w => by unfold kHF at w; omega
  obtain ⟨b1, b2, b3, b4⟩ := h1
  have hbu : ∃ l c, kB a 40 f1 700 l c := ⟨_, _, b2.bu⟩
  refine hQ a' f' z' B hA2 hB1 hB2 he hzB ⟨hA.1, ⟨?_, hz1, hHi, kSv_al b2.v hA (hX 39 (by omega) (by omega) (by omega)) fun j z1 z2 w => by unfold kHF at w; omega, kB_al b2.bu hA (hX 40 (by omega) (by omega) (by omega)) (hX 41 (by omega) (by omega) (by omega)), kB_al b2.wr hA (hX 42 (by omega) (by omega) (by omega)) (hX 43 (by omega) (by omega) (by omega)), ?_, (kAl_at hA (hX 53 (by omega) (by omega) (by omega)) b2.ac).2⟩, ?_, ⟨b4.o, fun j hj => ?_, b4.v⟩⟩
  · show f' (a' 0) = _
    have w1 := (kAl_at hA (hX 1 (by omega) (by omega) (by omega)) kh1).1
    have w12 := (kAl_at hA (hX 12 (by omega) (by omega) (by omega)) kh12).1
    have w23 := (kAl_at hA (hX 23 (by omega) (by omega) (by omega)) kh23).1
    have w30 := (kAl_at hA (hX 30 (by omega) (by omega) (by omega)) kh30).1
    have w39 := (kAl_at hA (hX 39 (by omega) (by omega) (by omega)) b2.v.choose_spec.1).1
    have w40 := (kAl_at hA (hX 40 (by omega) (by omega) (by omega)) kh40).1
    have w42 := (kAl_at hA (hX 42 (by omega) (by omega) (by omega)) kh42).1
    have w44 := (kAl_at hA (hX 44 (by omega) (by omega) (by omega)) kh44).1
    have w46 := (kAl_at hA (hX 46 (by omega) (by omega) (by omega)) kh46).1
    have w47 := (kAl_at hA (hX 47 (by omega) (by omega) (by omega)) kh47).1
    have w48 := (kAl_at hA (hX 48 (by omega) (by omega) (by omega)) kh48).1
    have w53 := (kAl_at hA (hX 53 (by omega) (by omega) (by omega)) kh53).1
    have w54 := (kAl_at hA (hX 54 (by omega) (by omega) (by omega)) b3.pl.choose_spec).1
    have w55 := (kAl_at hA (hX 55 (by omega) (by omega) (by omega)) b3.so.choose_spec).1
    have w56 := (kAl_at hA (hX 56 (by omega) (by omega) (by omega)) b3.tr.choose_spec).1
    rw [(kAl_at hA (hX 0 (by omega) (by omega) (by omega)) kh0).2, w1, w12, w23, w30, h37, w39, w40, w42, w44, w46, w47, w48, w53, w54, w55, w56]
    rfl
  · rw [(kAl_at hA (hX 47 (by omega) (by omega) (by omega)) kh47).2, (kAl_at hA (hX 46 (by omega) (by omega) (by omega)) kh46).1]
  · exact kK2_al b3 hbu hA fun j z1 z2 z3 _ => hX j z1 z2 z3
  · show kZo (kCons z' s.u j)
    unfold kCons
    split
    · exact kZo_e he ho
    · next hj0 =>
      have hj' : j < min (s.un + 1) 8 := hj
      exact b4.u (j - 1) (show j - 1 < s.un by omega)
/-- an act's end -/
theorem kAct_fin {a' : Nat → Nat} {f1 f2 : ky_H} {z' wm : kZ} {n : Nat} {R : Nat → kR} {G : Nat → Int32} (ho : kZo s.o) (hK : kK a' f1 (kBeg' s z')) (hA : kAl a f a' f1 kBF) (he : kZe s.o z') (hF : kfr a' f1 f2 (kRB 1)) (hW : kW a' 1 f2 n R G) (hm : kZe wm ⟨n, R, s.o.S⟩) (hwo : kZo wm) : ∃ s', kSe ((kBeg s).setO wm) s' ∧ kK a' f2 s' ∧ kAl a f a' f2 kL7 := by
  refine ⟨(kBeg' s z').setO ⟨n, R, s.o.S⟩, kAct_e he hm, kK_o hK (kfr_BR hF) ⟨⟨G, hW⟩, kS_rb hK.2.1.z.2 hF⟩ (kZo_e hm hwo), kAl_tr hA (kAl_fr hK.1 hF) fun j hj => ⟨fun w => hj (by unfold kBF kHF at w; unfold kL7; omega), fun w => hj (by unfold kRB at w; unfold kL7; omega)⟩⟩
theorem kx158 (h : kK a f s) (hp : p < s.o.n) (hQ : ∀ a' f' s', kSe ((kBeg s).setO (kRmz s.o p)) s' → kK a' f' s' → kAl a f a' f' kL7 → Q (.inl (some (.int (nI (kEnd s.o p - p))))) f') : ky_cl adK 158 [.ref (a 0), .int (nI p)] f Q := by
  obtain ⟨kh0, kh1, kh2, kh23, kh30, kh40, kh42, ⟨_, kh37⟩, ⟨_, kh44⟩, ⟨_, kh46⟩, kh47, ⟨_, kh48⟩, ⟨_, kh12⟩, kh53⟩ := kK_hd h
  have ho := h.2.2.2.o
  have hn := ho.n60
  obtain ⟨G, hW⟩ := h.2.1.z.1
  have hE := kEnd_le hp
  refine ⟨Nat.le_of_ble_eq_true rfl, fun z => absurd z (by decide), ?_⟩; show ky_ok adK 158 0 [some (.ref (a 0)), some (.int (nI p)), none, none] [] f 0 0 _
  repeat' (first | ((refine kx32 (j := p + 1) hW.1 hn hp (nI_pred p).symm ?_; show ky_aft _ _ _ _ _ _ _ _ _ (.inl (some (.int (nI (kEnd s.o p))))) f; simp only [ky_aft, ky_vl, Nat.reduceAdd])) | (refine kx156 h ?_) | (refine ky_ok_stp rfl ?_; simp (disch := first | omega | assumption) only [ky_stp, ky_inv, ky_ldi, ky_ldl, ky_ldd, ky_lda, ky_cl2, ky_st1, ky_st2, ky_s1i, ky_s2i, ky_s1l, ky_s2l, ky_sli, ky_s1f, ky_s2f, ky_s1d, ky_s2d, ky_sr, ky_sai, ky_sasi, ky_sasl, ky_sasr, ky_svr, ky_sv, ky_sv2, ky_s1, ky_cs, ky_pop, ky_nth, ky_snt, ky_obj, ky_ari, ky_arl, ky_arr, ky_arn, ky_fv, ky_rcv, List.map_cons, List.map_nil, List.drop_succ_cons, List.drop_zero, Value.category, Nat.reduceAdd, Nat.reduceSub, true_and, and_true, true_or, or_true, reduceCtorEq, ite_true, ite_false, eq_self, Nat.reduceEqDiff, Nat.reduceLeDiff, nI_add, nI_1, nI_leI, nI_ltI, nI_eq, nI_clamp, kz_m1, kz_mn, kz_mn2, kz_n0, kz_0n, kz_0, kz_le0, kz_0lt, false_implies, true_implies, not_false_eq_true, not_true_eq_false, Nat.zero_le, kb_0, kz_10, kz_of, ky_sw, kz_mx, kz_mi, kh0, kh1, kh2, kh23, kh30, kh40, kh42, kh37, kh44, kh46, kh47, kh48, kh12, kh53]) | (refine ⟨vp_in_nI (by omega) (by omega), ?_⟩) | (rw [if_neg (by decide)]; refine ⟨by decide, by decide, ?_⟩) | (refine ⟨by decide, by decide, ?_⟩) | (refine ⟨fun zc => ?_, fun zc => ?_⟩ <;> try (exfalso; omega)) | fail)
  intro a' f1 z' B hA hB1 hB2 he hzB h1
  simp only [ky_aft, ky_vl, Nat.reduceAdd]
  have e0 : a' 0 = a 0 := hA.2.2
  rw [← e0]
  obtain ⟨kh0, kh1, kh2, kh23, kh30, kh40, kh42, ⟨_, kh37⟩, ⟨_, kh44⟩, ⟨_, kh46⟩, kh47, ⟨_, kh48⟩, ⟨_, kh12⟩, kh53⟩ := kK_hd h1
  obtain ⟨G1, hW1⟩ := h1.2.1.z.1
  obtain ⟨⟨GB, hWB⟩, hSB⟩ := hzB
  have hzn : z'.n = s.o.n := he.1
  have yB := kW_lv hWB
  repeat' (first | (refine kx50 (k := 1) (k2 := B) (s := 0) h1.1 (by omega) hW1 hWB (by omega) (Nat.zero_le _) (by omega) ?_) | (refine ky_ok_stp rfl ?_; simp (disch := first | omega | assumption) only [ky_stp, ky_inv, ky_ldi, ky_ldl, ky_ldd, ky_lda, ky_cl2, ky_st1, ky_st2, ky_s1i, ky_s2i, ky_s1l, ky_s2l, ky_sli, ky_s1f, ky_s2f, ky_s1d, ky_s2d, ky_sr, ky_sai, ky_sasi, ky_sasl, ky_sasr, ky_svr, ky_sv, ky_sv2, ky_s1, ky_cs, ky_pop, ky_nth, ky_snt, ky_obj, ky_ari, ky_arl, ky_arr, ky_arn, ky_fv, ky_rcv, List.map_cons, List.map_nil, List.drop_succ_cons, List.drop_zero, Value.category, Nat.reduceAdd, Nat.reduceSub, true_and, and_true, true_or, or_true, reduceCtorEq, ite_true, ite_false, eq_self, Nat.reduceEqDiff, Nat.reduceLeDiff, nI_add, nI_1, nI_leI, nI_ltI, nI_eq, nI_clamp, kz_m1, kz_mn, kz_mn2, kz_n0, kz_0n, kz_0, kz_le0, kz_0lt, false_implies, true_implies, not_false_eq_true, not_true_eq_false, Nat.zero_le, kb_0, kz_10, kz_of, ky_sw, kz_mx, kz_mi, kh0, kh1, kh2, kh23, kh30, kh40, kh42, kh37, kh44, kh46, kh47, kh48, kh12, kh53, yB]) | (refine ⟨vp_in_nI (by omega) (by omega), ?_⟩) | (rw [if_neg (by decide)]; refine ⟨by decide, by decide, ?_⟩) | (refine ⟨by decide, by decide, ?_⟩) | (refine ⟨fun zc => ?_, fun zc => ?_⟩ <;> try (exfalso; omega)) | fail)
  intro f2 R2 G2 hW2 hF2 hR2
  simp only [ky_aft, ky_vl, Nat.reduceAdd]
  have kh0' : f2 (a' 0) = _ := (hF2 0 (by unfold kRB; omega)).trans kh0
  have y1 := kW_lv hW2
  have hWB2 : kW a' B f2 z'.n z'.R GB := kW_fr hWB fun j z1 z2 => hF2 j (by unfold kRB; omega)
  have yB2 := kW_lv hWB2
  repeat' (first | (refine kx49 (k := 1) (k2 := B) h1.1 (by omega) hW2 hWB2 (by omega) (show kEnd s.o p ≤ z'.n by omega) (Nat.le_refl _) (by omega) ?_) | (refine ky_ok_stp rfl ?_; simp (disch := first | omega | assumption) only [ky_stp, ky_inv, ky_ldi, ky_ldl, ky_ldd, ky_lda, ky_cl2, ky_st1, ky_st2, ky_s1i, ky_s2i, ky_s1l, ky_s2l, ky_sli, ky_s1f, ky_s2f, ky_s1d, ky_s2d, ky_sr, ky_sai, ky_sasi, ky_sasl, ky_sasr, ky_svr, ky_sv, ky_sv2, ky_s1, ky_cs, ky_pop, ky_nth, ky_snt, ky_obj, ky_ari, ky_arl, ky_arr, ky_arn, ky_fv, ky_rcv, List.map_cons, List.map_nil, List.drop_succ_cons, List.drop_zero, Value.category, Nat.reduceAdd, Nat.reduceSub, true_and, and_true, true_or, or_true, reduceCtorEq, ite_true, ite_false, eq_self, Nat.reduceEqDiff, Nat.reduceLeDiff, nI_add, nI_1, nI_leI, nI_ltI, nI_eq, nI_clamp, kz_m1, kz_mn, kz_mn2, kz_n0, kz_0n, kz_0, kz_le0, kz_0lt, false_implies, true_implies, not_false_eq_true, not_true_eq_false, Nat.zero_le, kb_0, kz_10, kz_of, ky_sw, kz_mx, kz_mi, kh0', y1, yB2]) | (refine ⟨vp_in_nI (by omega) (by omega), ?_⟩) | (rw [if_neg (by decide)]; refine ⟨by decide, by decide, ?_⟩) | (refine ⟨by decide, by decide, ?_⟩) | (refine ⟨fun zc => ?_, fun zc => ?_⟩ <;> try (exfalso; omega)) | fail)
  intro f3 R3 G3 hW3 hF3 hR3 hR3'
  simp only [ky_aft, ky_vl, Nat.reduceAdd]
  have e4 := nI_sub (a := kEnd s.o p) (b := p) (by omega)
  repeat' (first | (refine ky_ok_stp rfl ?_; simp (disch := first | omega | assumption) only [ky_stp, ky_inv, ky_ldi, ky_ldl, ky_ldd, ky_lda, ky_cl2, ky_st1, ky_st2, ky_s1i, ky_s2i, ky_s1l, ky_s2l, ky_sli, ky_s1f, ky_s2f, ky_s1d, ky_s2d, ky_sr, ky_sai, ky_sasi, ky_sasl, ky_sasr, ky_svr, ky_sv, ky_sv2, ky_s1, ky_cs, ky_pop, ky_nth, ky_snt, ky_obj, ky_ari, ky_arl, ky_arr, ky_arn, ky_fv, ky_rcv, List.map_cons, List.map_nil, List.drop_succ_cons, List.drop_zero, Value.category, Nat.reduceAdd, Nat.reduceSub, true_and, and_true, true_or, or_true, reduceCtorEq, ite_true, ite_false, eq_self, Nat.reduceEqDiff, Nat.reduceLeDiff, nI_add, nI_1, nI_leI, nI_ltI, nI_eq, nI_clamp, kz_m1, kz_mn, kz_mn2, kz_n0, kz_0n, kz_0, kz_le0, kz_0lt, false_implies, true_implies, not_false_eq_true, not_true_eq_false, Nat.zero_le, kb_0, kz_10, kz_of, ky_sw, kz_mx, kz_mi, e4]) | (refine ⟨vp_in_nI (by omega) (by omega), ?_⟩) | (rw [if_neg (by decide)]; refine ⟨by decide, by decide, ?_⟩) | (refine ⟨by decide, by decide, ?_⟩) | (refine ⟨fun zc => ?_, fun zc => ?_⟩ <;> try (exfalso; omega)) | fail)
  have hnn : p - 0 + (z'.n - kEnd s.o p) = s.o.n - (kEnd s.o p - p) := by omega
  rw [hnn] at hW3 hR3'
  have hm : kZe (kRmz s.o p) ⟨s.o.n - (kEnd s.o p - p), R3, s.o.S⟩ := by
    refine ⟨rfl, fun i hi => ?_, fun _ _ _ => ⟨rfl, rfl, rfl, rfl⟩⟩
    have hi' : i < s.o.n - (kEnd s.o p - p) := hi
    show R3 i = if i < p then s.o.R i else s.o.R (i + (kEnd s.o p - p))
    by_cases e : i < p
    · rw [if_pos e, (hR3 i (by omega)).1, (hR2 i i (by omega) (by omega)).1]
      exact he.2.1 i (by omega)
    · rw [if_neg e, (hR3' (i + (kEnd s.o p - p)) i (by omega) (by omega) (by omega)).1]
      exact he.2.1 _ (by omega)
  obtain ⟨s', q1, q2, q3⟩ := kAct_fin ho h1 hA he (kfr_tr hF2 hF3 (T := kRB 1) fun j hj => ⟨hj, hj⟩) hW3 hm (kRmz_ok ho hp)
  exact hQ a' f3 s' q1 q2 q3
end KXA
