/-! ## the reference: acts -/
theorem kRw_mp {r T : Nat → Int32} {z z' : kZ} (h : kRw r z) (h0 : T 0 = nI z'.n) (hS : z'.S = z.S) (h1 : ∀ t, t < 28 → t ≠ 0 → T t = r t) (h2 : ∀ i, i < z'.n → ∃ j, j < z.n ∧ ((z'.R i = z.R j ∧ ∀ w, w < 5 → T (28 + 6 * i + w) = r (28 + 6 * j + w)) ∨ ∃ d, z'.R i = ksh d (z.R j) ∧ T (28 + 6 * i) = r (28 + 6 * j) + d ∧ ∀ w, 1 ≤ w → w < 5 → T (28 + 6 * i + w) = r (28 + 6 * j + w))) : kRw T z' := by
  refine ⟨h0, fun i hi => ?_, fun c l hc w1 w6 => by rw [h1 _ (by omega) (by omega), hS]; exact h.2.2 c l hc w1 w6⟩
  obtain ⟨j, hj, hd⟩ := h2 i hi
  obtain ⟨a0, a1, a2, wd, a3, a4, a5, a6⟩ := h.2.1 j hj
  unfold kL at a0 ⊢
  unfold kPl at a1 ⊢
  unfold kFo at a2 ⊢
  unfold kN at a3 ⊢
  rcases hd with ⟨e, q⟩ | ⟨d, e, q0, q⟩
  · have q0 := q 0 (by omega)
    rw [Nat.add_zero, Nat.add_zero] at q0
    rw [e, q0, q 1 (by omega), q 2 (by omega), q 3 (by omega), q 4 (by omega)]
    exact ⟨a0, a1, a2, wd, a3, a4, a5, a6⟩
  · rw [e, q0, q 1 (by omega) (by omega), q 2 (by omega) (by omega), q 3 (by omega) (by omega), q 4 (by omega) (by omega)]
    exact ⟨by rw [a0]; rfl, a1, a2, wd, a3, a4, a5, a6⟩
theorem kSb_ge (L : Nat → Int32) (v : Int32) : ∀ j x, x ≤ kSb L v j x
  | 0, x => Nat.le_refl _
  | j + 1, x => by
    have h1 := kSb_ge L v j x
    have h2 := kSb_ge L v j (x + 1)
    rw [kSb]
    split
    · exact Nat.le_refl _
    · split <;> omega
theorem kSi_Sb (L : Nat → Int32) (v : Int32) (j : Nat) : kSi L v j = 0 ↔ kSb L v j 0 = 0 := by
  rw [kSb_Si]
  by_cases e : kSi L v j = 0
  · rw [if_pos e]; exact ⟨fun _ => rfl, fun _ => e⟩
  · rw [if_neg e]
    have := kSb_ge L v (kSi L v j - 1) (0 + 1)
    exact ⟨fun w => absurd w e, fun w => by omega⟩
/-- the first in a branch is a child -/
theorem kCh_1 {z : kZ} (ho : kZo z) {p : Nat} (hp : p < z.n) : (kCh (kL z.R) (kL z.R p + 1) (p + 1) (kEnd z p - (p + 1)) []).length = 0 ↔ ¬ p + 1 < kEnd z p := by
  have hE := kEnd_le hp
  by_cases e : p + 1 < kEnd z p
  · have h := (kE_sp (kL z.R) (kL z.R p) (z.n - (p + 1)) (p + 1)).1 (p + 1) (Nat.le_refl _) e
    have hls := ho.ls p (by omega)
    obtain ⟨a0, a1, a6⟩ := ho.lv p hp
    obtain ⟨b0, b1, b6⟩ := ho.lv (p + 1) (by omega)
    rw [a0, b0, nI_ltI (by omega) (by omega)] at h
    have e1 : kL z.R (p + 1) = kL z.R p + 1 := by
      rw [a0, b0, show (1 : Int32) = nI 1 from rfl, nI_add]
      congr 1
      omega
    obtain ⟨d, hd⟩ : ∃ d, kEnd z p - (p + 1) = d + 1 := ⟨kEnd z p - (p + 1) - 1, by omega⟩
    rw [hd, kCh, if_pos e1, kCh_app]
    simp [e]
  · rw [show kEnd z p - (p + 1) = 0 by omega, kCh]
    exact ⟨fun _ => e, fun _ => rfl⟩
section KXM
variable {adK a : Nat → Nat} {f : ky_H} {Q : ky_Q} {g r B T : Nat → Int32} {s : kSt} {p w n l i j t e m k : Nat} {x y v b c d : Int32} {z : kZ}
theorem kM_oT {f' : ky_H} {S : Nat → Prop} (h : kM a f g s) (hF : kfr a f f' S) (hS : ∀ j, S j → j = 171 ∨ j = 184) (hr : f' (a 171) = some (.inl (1, 388, .inl T))) (hB : ∃ B : Nat → Int32, f' (a 184) = some (.inl (1, 360, .inl B))) (hR : kRw T z) : kM a f' g (s.setO z) :=
  kM_o h (kMo_fq h.2.1 hF fun w => by have := hS _ w; omega) h.2.2.2.2.1 (fun j hj => hF j fun w => hj (by have := hS _ w; unfold kMS1 kMS; omega)) hr hR (kM2_fr h.2.2.2.1 hF (fun w => by have := hS _ w; omega) (fun w => by have := hS _ w; omega) (fun w => by have := hS _ w; omega) (fun w => by have := hS _ w; omega) (fun w => by have := hS _ w; omega) (fun w => by have := hS _ w; omega) (fun w => by have := hS _ w; omega) (fun _ => hB) (fun w => by have := hS _ w; omega))
def kAF (j : Nat) : Prop := kMF j ∧ j ≠ 183
theorem kMF_bt {f1 f2 : ky_H} (h1 : kfr a f f1 kBF2) (h2 : kfr a f1 f2 kTF) : kfr a f f2 kAF := kfr_tr h1 h2 fun j hj => ⟨fun w => hj (by unfold kBF2 at w; exact ⟨by unfold kMF; omega, by omega⟩), fun w => hj (by unfold kTF at w; exact ⟨by unfold kMF; omega, by omega⟩)⟩
/-- an act's answer -/
def kAQ (a : Nat → Nat) (f : ky_H) (g : Nat → Int32) (r : Int32 × kSt) (Q : ky_Q) : Prop := ∀ f' g', kM a f' g' r.2 → g' 0 = g 0 ∧ g' 11 = g 11 → kfr a f f' kAF → Q (.inl (some (.int r.1))) f'
theorem kx265a (hM : kM a f g s) (hk : k < 8) (hQ : kAQ a f g (-(nI k), kRef s k) Q) : ky_cl adK 265 [.ref (a 170), .int (nI k)] f Q := kx265 hM hk fun f' w1 w2 => hQ f' g w1 ⟨rfl, rfl⟩ fun j hj => w2 j fun w => hj ⟨by unfold kMF; omega, by omega⟩
theorem kx269 (hM : kM a f g s) (hz : kKz s) (hp : p < s.o.n) (hQ : kAQ a f g (kTm s p) Q) : ky_cl adK 269 [.ref (a 170), .int (nI p)] f Q := by
  have ho := hz.o
  have mh := hM.2.1
  unfold kMo at mh
  refine ⟨Nat.le_of_ble_eq_true rfl, fun z => absurd z (by decide), ?_⟩; show ky_ok adK 269 0 [some (.ref (a 170)), some (.int (nI p)), none] [] f 0 0 _
  repeat' (first | (refine kx264 hM hz ?_) | (refine ky_ok_stp rfl ?_; simp (disch := first | omega | assumption) only [ky_stp, ky_inv, ky_ldi, ky_ldl, ky_ldd, ky_lda, ky_cl2, ky_st1, ky_st2, ky_s1i, ky_s2i, ky_s1l, ky_s2l, ky_sli, ky_s1f, ky_s2f, ky_s1d, ky_s2d, ky_sr, ky_sai, ky_sasi, ky_sasl, ky_sasr, ky_svr, ky_sv, ky_sv2, ky_s1, ky_cs, ky_pop, ky_nth, ky_snt, ky_obj, ky_ari, ky_arl, ky_arr, ky_arn, ky_fv, ky_rcv, List.map_cons, List.map_nil, List.drop_succ_cons, List.drop_zero, Value.category, Nat.reduceAdd, Nat.reduceSub, true_and, and_true, true_or, or_true, reduceCtorEq, ite_true, ite_false, eq_self, Nat.reduceEqDiff, Nat.reduceLeDiff, nI_add, nI_1, nI_leI, nI_ltI, nI_eq, nI_clamp, kz_m1, kz_mn, kz_mn2, kz_n0, kz_0n, kz_0, kz_le0, kz_0lt, false_implies, true_implies, not_false_eq_true, not_true_eq_false, Nat.zero_le, kb_0, kz_10, kz_of, ky_sw, kz_mx, kz_mi, mh]) | (refine ⟨vp_in_nI (by omega) (by omega), ?_⟩) | (refine ⟨fun zc => ?_, fun zc => ?_⟩ <;> try (exfalso; omega)) | fail)
  intro f1 g1 hM1 hg1 hF1
  try simp only [ky_aft, ky_vl, Nat.reduceAdd]
  obtain ⟨ha, hMo, ⟨⟨r, hr, hR⟩, -⟩, h2, h3, -⟩ := id hM1
  have hR : kRw r s.o := hR
  have mh := hMo
  unfold kMo at mh
  have h60 := ho.n60
  have hL := kRw_l ho hR
  have h184 := h2.2.2.2.2.2.2.2.1
  obtain ⟨B0, h184⟩ := h184
  obtain ⟨p1, p2⟩ := kEnd_le hp
  have hE : kE (kL s.o.R) (kL s.o.R p) (p + 1) (s.o.n - (p + 1)) = kEnd s.o p := rfl
  have es : nI (kEnd s.o p) - nI p = nI (kEnd s.o p - p) := nI_sub (by omega)
  have ep : p + (kEnd s.o p - p) = kEnd s.o p := by omega
  repeat' (first | (refine kx177 hMo hr hL hp ?_; simp only [ky_aft, ky_vl, Nat.reduceAdd]) | (refine kx253 (b := 0) ha hMo hr h184 hR.1 h60 (show p < kEnd s.o p by omega) p2 (by decide) ?_) | (refine ky_ok_stp rfl ?_; simp (disch := first | omega | assumption) only [ky_stp, ky_inv, ky_ldi, ky_ldl, ky_ldd, ky_lda, ky_cl2, ky_st1, ky_st2, ky_s1i, ky_s2i, ky_s1l, ky_s2l, ky_sli, ky_s1f, ky_s2f, ky_s1d, ky_s2d, ky_sr, ky_sai, ky_sasi, ky_sasl, ky_sasr, ky_svr, ky_sv, ky_sv2, ky_s1, ky_cs, ky_pop, ky_nth, ky_snt, ky_obj, ky_ari, ky_arl, ky_arr, ky_arn, ky_fv, ky_rcv, List.map_cons, List.map_nil, List.drop_succ_cons, List.drop_zero, Value.category, Nat.reduceAdd, Nat.reduceSub, true_and, and_true, true_or, or_true, reduceCtorEq, ite_true, ite_false, eq_self, Nat.reduceEqDiff, Nat.reduceLeDiff, nI_add, nI_1, nI_leI, nI_ltI, nI_eq, nI_clamp, kz_m1, kz_mn, kz_mn2, kz_n0, kz_0n, kz_0, kz_le0, kz_0lt, false_implies, true_implies, not_false_eq_true, not_true_eq_false, Nat.zero_le, kb_0, kz_10, kz_of, ky_sw, kz_mx, kz_mi, mh, hE, es, ep]) | (refine ⟨vp_in_nI (by omega) (by omega), ?_⟩) | (refine ⟨fun zc => ?_, fun zc => ?_⟩ <;> try (exfalso; omega)) | fail)
  intro f2 T2 B2 h171 h184' t0 tx ty _ hF2
  (try simp only [ky_aft, ky_vl, Nat.reduceAdd])
  repeat' (first | (refine ky_ok_stp rfl ?_; simp (disch := first | omega | assumption) only [ky_stp, ky_inv, ky_ldi, ky_ldl, ky_ldd, ky_lda, ky_cl2, ky_st1, ky_st2, ky_s1i, ky_s2i, ky_s1l, ky_s2l, ky_sli, ky_s1f, ky_s2f, ky_s1d, ky_s2d, ky_sr, ky_sai, ky_sasi, ky_sasl, ky_sasr, ky_svr, ky_sv, ky_sv2, ky_s1, ky_cs, ky_pop, ky_nth, ky_snt, ky_obj, ky_ari, ky_arl, ky_arr, ky_arn, ky_fv, ky_rcv, List.map_cons, List.map_nil, List.drop_succ_cons, List.drop_zero, Value.category, Nat.reduceAdd, Nat.reduceSub, true_and, and_true, true_or, or_true, reduceCtorEq, ite_true, ite_false, eq_self, Nat.reduceEqDiff, Nat.reduceLeDiff, nI_add, nI_1, nI_leI, nI_ltI, nI_eq, nI_clamp, kz_m1, kz_mn, kz_mn2, kz_n0, kz_0n, kz_0, kz_le0, kz_0lt, false_implies, true_implies, not_false_eq_true, not_true_eq_false, Nat.zero_le, kb_0, kz_10, kz_of, ky_sw, kz_mx, kz_mi]) | (refine ⟨vp_in_nI (by omega) (by omega), ?_⟩) | (refine ⟨fun zc => ?_, fun zc => ?_⟩ <;> try (exfalso; omega)) | fail)
  refine hQ f2 g1 (kM_oT hM1 hF2 (fun j h => h) h171 ⟨B2, h184'⟩ (kRw_mp hR t0 rfl tx fun i hi => ?_)) ⟨hg1 0 (by decide), hg1 11 (by decide)⟩ (kMF_bt hF1 hF2)
  have hi : i < s.o.n - (kEnd s.o p - p) := hi
  refine ⟨if i < p then i else i + (kEnd s.o p - p), by split <;> omega, .inl ⟨?_, fun w hw => ty i w (by omega) hi⟩⟩
  show (if i < p then s.o.R i else s.o.R (i + (kEnd s.o p - p))) = _
  split <;> rfl
theorem kx272 (hM : kM a f g s) (hz : kKz s) (hp : p < s.o.n) (hQ : kAQ a f g (kTd s p) Q) : ky_cl adK 272 [.ref (a 170), .int (nI p)] f Q := by
  have ho := hz.o
  have mh := hM.2.1
  unfold kMo at mh
  refine ⟨Nat.le_of_ble_eq_true rfl, fun z => absurd z (by decide), ?_⟩; show ky_ok adK 272 0 [some (.ref (a 170)), some (.int (nI p))] [] f 0 0 _
  repeat' (first | (refine kx264 hM hz ?_) | (refine ky_ok_stp rfl ?_; simp (disch := first | omega | assumption) only [ky_stp, ky_inv, ky_ldi, ky_ldl, ky_ldd, ky_lda, ky_cl2, ky_st1, ky_st2, ky_s1i, ky_s2i, ky_s1l, ky_s2l, ky_sli, ky_s1f, ky_s2f, ky_s1d, ky_s2d, ky_sr, ky_sai, ky_sasi, ky_sasl, ky_sasr, ky_svr, ky_sv, ky_sv2, ky_s1, ky_cs, ky_pop, ky_nth, ky_snt, ky_obj, ky_ari, ky_arl, ky_arr, ky_arn, ky_fv, ky_rcv, List.map_cons, List.map_nil, List.drop_succ_cons, List.drop_zero, Value.category, Nat.reduceAdd, Nat.reduceSub, true_and, and_true, true_or, or_true, reduceCtorEq, ite_true, ite_false, eq_self, Nat.reduceEqDiff, Nat.reduceLeDiff, nI_add, nI_1, nI_leI, nI_ltI, nI_eq, nI_clamp, kz_m1, kz_mn, kz_mn2, kz_n0, kz_0n, kz_0, kz_le0, kz_0lt, false_implies, true_implies, not_false_eq_true, not_true_eq_false, Nat.zero_le, kb_0, kz_10, kz_of, ky_sw, kz_mx, kz_mi, mh]) | (refine ⟨vp_in_nI (by omega) (by omega), ?_⟩) | (refine ⟨fun zc => ?_, fun zc => ?_⟩ <;> try (exfalso; omega)) | fail)
  intro f1 g1 hM1 hg1 hF1
  try simp only [ky_aft, ky_vl, Nat.reduceAdd]
  obtain ⟨ha, hMo, ⟨⟨r, hr, hR⟩, -⟩, h2, h3, -⟩ := id hM1
  have hR : kRw r s.o := hR
  have mh := hMo
  unfold kMo at mh
  have h60 := ho.n60
  have hL := kRw_l ho hR
  have h184 := h2.2.2.2.2.2.2.2.1
  obtain ⟨B0, h184⟩ := h184
  obtain ⟨p1, p2⟩ := kEnd_le hp
  have hE : kE (kL s.o.R) (kL s.o.R p) (p + 1) (s.o.n - (p + 1)) = kEnd s.o p := rfl
  repeat' (first | (refine kx177 hMo hr hL hp ?_; simp only [ky_aft, ky_vl, Nat.reduceAdd]) | (refine kx271 ha hMo hr p1 (by omega) ?_) | (refine ky_ok_stp rfl ?_; simp (disch := first | omega | assumption) only [ky_stp, ky_inv, ky_ldi, ky_ldl, ky_ldd, ky_lda, ky_cl2, ky_st1, ky_st2, ky_s1i, ky_s2i, ky_s1l, ky_s2l, ky_sli, ky_s1f, ky_s2f, ky_s1d, ky_s2d, ky_sr, ky_sai, ky_sasi, ky_sasl, ky_sasr, ky_svr, ky_sv, ky_sv2, ky_s1, ky_cs, ky_pop, ky_nth, ky_snt, ky_obj, ky_ari, ky_arl, ky_arr, ky_arn, ky_fv, ky_rcv, List.map_cons, List.map_nil, List.drop_succ_cons, List.drop_zero, Value.category, Nat.reduceAdd, Nat.reduceSub, true_and, and_true, true_or, or_true, reduceCtorEq, ite_true, ite_false, eq_self, Nat.reduceEqDiff, Nat.reduceLeDiff, nI_add, nI_1, nI_leI, nI_ltI, nI_eq, nI_clamp, kz_m1, kz_mn, kz_mn2, kz_n0, kz_0n, kz_0, kz_le0, kz_0lt, false_implies, true_implies, not_false_eq_true, not_true_eq_false, Nat.zero_le, kb_0, kz_10, kz_of, ky_sw, kz_mx, kz_mi, mh, hE]) | (refine ⟨vp_in_nI (by omega) (by omega), ?_⟩) | (refine ⟨fun zc => ?_, fun zc => ?_⟩ <;> try (exfalso; omega)) | fail)
  intro f2 T2 h171 tx ty hF2
  (try simp only [ky_aft, ky_vl, Nat.reduceAdd])
  have hM2 := kMo_fq hMo hF2 (by omega)
  have h184' : f2 (a 184) = some (.inl (1, 360, .inl B0)) := (hF2 184 (by omega)).trans h184
  have mh := hM2
  unfold kMo at mh
  repeat' (first | (refine kx253 (b := 0) (n := s.o.n) (e := p + 1) ha hM2 h171 h184' ((tx 0 (by omega)).trans hR.1) h60 (by omega) (by omega) (by decide) ?_) | (refine ky_ok_stp rfl ?_; simp (disch := first | omega | assumption) only [ky_stp, ky_inv, ky_ldi, ky_ldl, ky_ldd, ky_lda, ky_cl2, ky_st1, ky_st2, ky_s1i, ky_s2i, ky_s1l, ky_s2l, ky_sli, ky_s1f, ky_s2f, ky_s1d, ky_s2d, ky_sr, ky_sai, ky_sasi, ky_sasl, ky_sasr, ky_svr, ky_sv, ky_sv2, ky_s1, ky_cs, ky_pop, ky_nth, ky_snt, ky_obj, ky_ari, ky_arl, ky_arr, ky_arn, ky_fv, ky_rcv, List.map_cons, List.map_nil, List.drop_succ_cons, List.drop_zero, Value.category, Nat.reduceAdd, Nat.reduceSub, true_and, and_true, true_or, or_true, reduceCtorEq, ite_true, ite_false, eq_self, Nat.reduceEqDiff, Nat.reduceLeDiff, nI_add, nI_1, nI_leI, nI_ltI, nI_eq, nI_clamp, kz_m1, kz_mn, kz_mn2, kz_n0, kz_0n, kz_0, kz_le0, kz_0lt, false_implies, true_implies, not_false_eq_true, not_true_eq_false, Nat.zero_le, kb_0, kz_10, kz_of, ky_sw, kz_mx, kz_mi, mh]) | (refine ⟨vp_in_nI (by omega) (by omega), ?_⟩) | (refine ⟨fun zc => ?_, fun zc => ?_⟩ <;> try (exfalso; omega)) | fail)
  intro f3 T3 B3 h171' h184'' t0 tx' ty' _ hF3
  (try simp only [ky_aft, ky_vl, Nat.reduceAdd])
  have hM3 := kMo_fq hM2 hF3 (by unfold kTF; omega)
  have mh := hM3
  unfold kMo at mh
  have hFF : kfr a f1 f3 kTF := kfr_tr hF2 hF3 fun j hj => ⟨fun w => hj (Or.inl w), hj⟩
  rw [Nat.add_sub_cancel_left] at t0 ty'
  repeat' (first | (refine kx172 hM3 h171' ?_; simp only [ky_aft, ky_vl, Nat.reduceAdd]) | (refine ky_ok_stp rfl ?_; simp (disch := first | omega | assumption) only [ky_stp, ky_inv, ky_ldi, ky_ldl, ky_ldd, ky_lda, ky_cl2, ky_st1, ky_st2, ky_s1i, ky_s2i, ky_s1l, ky_s2l, ky_sli, ky_s1f, ky_s2f, ky_s1d, ky_s2d, ky_sr, ky_sai, ky_sasi, ky_sasl, ky_sasr, ky_svr, ky_sv, ky_sv2, ky_s1, ky_cs, ky_pop, ky_nth, ky_snt, ky_obj, ky_ari, ky_arl, ky_arr, ky_arn, ky_fv, ky_rcv, List.map_cons, List.map_nil, List.drop_succ_cons, List.drop_zero, Value.category, Nat.reduceAdd, Nat.reduceSub, true_and, and_true, true_or, or_true, reduceCtorEq, ite_true, ite_false, eq_self, Nat.reduceEqDiff, Nat.reduceLeDiff, nI_add, nI_1, nI_leI, nI_ltI, nI_eq, nI_clamp, kz_m1, kz_mn, kz_mn2, kz_n0, kz_0n, kz_0, kz_le0, kz_0lt, false_implies, true_implies, not_false_eq_true, not_true_eq_false, Nat.zero_le, kb_0, kz_10, kz_of, ky_sw, kz_mx, kz_mi, mh, t0]) | (refine ⟨vp_in_nI (by omega) (by omega), ?_⟩) | (refine ⟨fun zc => ?_, fun zc => ?_⟩ <;> try (exfalso; omega)) | fail)
  refine hQ f3 g1 (kM_oT hM1 hFF (fun j h => h) h171' ⟨B3, h184''⟩ (kRw_mp (z' := kDsz s.o p) hR t0 rfl (fun t ht h => (tx' t ht h).trans (tx t ht)) fun i hi => ?_)) ⟨hg1 0 (by decide), hg1 11 (by decide)⟩ (kMF_bt hF1 hFF)
  have hi : i < s.o.n - 1 := hi
  have hRi : (kDsz s.o p).R i = if i < p then s.o.R i else if i + 1 < kEnd s.o p then ksh (-1) (s.o.R (i + 1)) else s.o.R (i + 1) := rfl
  have y5 := fun w (hw : w < 5) => ty' i w (by omega) hi
  by_cases c1 : i < p
  · refine ⟨i, by omega, .inl ⟨by rw [hRi, if_pos c1], fun w hw => ?_⟩⟩
    rw [y5 w hw, if_pos c1, ty i w (by omega), if_neg (by omega)]
  · by_cases c2 : i + 1 < kEnd s.o p
    · refine ⟨i + 1, by omega, .inr ⟨-1, by rw [hRi, if_neg c1, if_pos c2], ?_, fun w w1 hw => ?_⟩⟩
      · have := y5 0 (by omega)
        rw [Nat.add_zero] at this
        rw [this, if_neg c1, ty _ 0 (by omega), if_pos ⟨by omega, c2, rfl⟩]
        rfl
      · rw [y5 w hw, if_neg c1, ty _ w (by omega), if_neg (by omega)]
    · refine ⟨i + 1, by omega, .inl ⟨by rw [hRi, if_neg c1, if_neg c2], fun w hw => ?_⟩⟩
      rw [y5 w hw, if_neg c1, ty _ w (by omega), if_neg (by omega)]
theorem kx274 (hM : kM a f g s) (hz : kKz s) (hp : p < s.o.n) (ht : t < s.o.n) (hw : w ≤ 3) (hQ : kAQ a f g (kTv' s p t w) Q) : ky_cl adK 274 [.ref (a 170), .int (nI p), .int (nI t), .int (nI w)] f Q := by
  have ho := hz.o
  obtain ⟨ha, hMo, ⟨⟨r, hr, hR⟩, -⟩, -⟩ := id hM
  have mh := hMo
  unfold kMo at mh
  unfold kTv' at hQ
  refine ⟨Nat.le_of_ble_eq_true rfl, fun z => absurd z (by decide), ?_⟩; show ky_ok adK 274 0 [some (.ref (a 170)), some (.int (nI p)), some (.int (nI t)), some (.int (nI w)), none] [] f 0 0 _
  by_cases h0 : kMR s.o p t w = 0
  case neg =>
    rw [if_neg h0] at hQ
    rcases kMR_c (z := s.o) (p := p) (t := t) (w := w) with e | e | e
    · exact absurd e h0
    · rw [e] at hQ
      repeat' (first | (refine kx252 hMo hr ho hR hp ht hw ?_; simp only [ky_aft, ky_vl, Nat.reduceAdd]) | (refine kx265a (k := 1) hM (by decide) ?_) | (refine ky_ok_stp rfl ?_; simp (disch := first | omega | assumption) only [ky_stp, ky_inv, ky_ldi, ky_ldl, ky_ldd, ky_lda, ky_cl2, ky_st1, ky_st2, ky_s1i, ky_s2i, ky_s1l, ky_s2l, ky_sli, ky_s1f, ky_s2f, ky_s1d, ky_s2d, ky_sr, ky_sai, ky_sasi, ky_sasl, ky_sasr, ky_svr, ky_sv, ky_sv2, ky_s1, ky_cs, ky_pop, ky_nth, ky_snt, ky_obj, ky_ari, ky_arl, ky_arr, ky_arn, ky_fv, ky_rcv, List.map_cons, List.map_nil, List.drop_succ_cons, List.drop_zero, Value.category, Nat.reduceAdd, Nat.reduceSub, true_and, and_true, true_or, or_true, reduceCtorEq, ite_true, ite_false, eq_self, Nat.reduceEqDiff, Nat.reduceLeDiff, nI_add, nI_1, nI_leI, nI_ltI, nI_eq, nI_clamp, kz_m1, kz_mn, kz_mn2, kz_n0, kz_0n, kz_0, kz_le0, kz_0lt, false_implies, true_implies, not_false_eq_true, not_true_eq_false, Nat.zero_le, kb_0, kz_10, kz_of, ky_sw, kz_mx, kz_mi, mh, e, show ¬ (1 : Int32) ≤ 0 by decide]) | (refine ⟨vp_in_nI (by omega) (by omega), ?_⟩) | (refine ⟨fun zc => ?_, fun zc => ?_⟩ <;> try (exfalso; omega)) | fail)
      intro f1 g1 w1 w2 w3
      (try simp only [ky_aft, ky_vl, Nat.reduceAdd])
      repeat' (first | (refine ky_ok_stp rfl ?_; simp (disch := first | omega | assumption) only [ky_stp, ky_inv, ky_ldi, ky_ldl, ky_ldd, ky_lda, ky_cl2, ky_st1, ky_st2, ky_s1i, ky_s2i, ky_s1l, ky_s2l, ky_sli, ky_s1f, ky_s2f, ky_s1d, ky_s2d, ky_sr, ky_sai, ky_sasi, ky_sasl, ky_sasr, ky_svr, ky_sv, ky_sv2, ky_s1, ky_cs, ky_pop, ky_nth, ky_snt, ky_obj, ky_ari, ky_arl, ky_arr, ky_arn, ky_fv, ky_rcv, List.map_cons, List.map_nil, List.drop_succ_cons, List.drop_zero, Value.category, Nat.reduceAdd, Nat.reduceSub, true_and, and_true, true_or, or_true, reduceCtorEq, ite_true, ite_false, eq_self, Nat.reduceEqDiff, Nat.reduceLeDiff, nI_add, nI_1, nI_leI, nI_ltI, nI_eq, nI_clamp, kz_m1, kz_mn, kz_mn2, kz_n0, kz_0n, kz_0, kz_le0, kz_0lt, false_implies, true_implies, not_false_eq_true, not_true_eq_false, Nat.zero_le, kb_0, kz_10, kz_of, ky_sw, kz_mx, kz_mi]) | (refine ⟨vp_in_nI (by omega) (by omega), ?_⟩) | (refine ⟨fun zc => ?_, fun zc => ?_⟩ <;> try (exfalso; omega)) | fail)
      (first | exact hQ f1 g1 w1 w2 w3 | exact ⟨by decide, hQ f1 g1 w1 w2 w3⟩)
    · rw [e] at hQ
      repeat' (first | (refine kx252 hMo hr ho hR hp ht hw ?_; simp only [ky_aft, ky_vl, Nat.reduceAdd]) | (refine kx265a (k := 2) hM (by decide) ?_) | (refine ky_ok_stp rfl ?_; simp (disch := first | omega | assumption) only [ky_stp, ky_inv, ky_ldi, ky_ldl, ky_ldd, ky_lda, ky_cl2, ky_st1, ky_st2, ky_s1i, ky_s2i, ky_s1l, ky_s2l, ky_sli, ky_s1f, ky_s2f, ky_s1d, ky_s2d, ky_sr, ky_sai, ky_sasi, ky_sasl, ky_sasr, ky_svr, ky_sv, ky_sv2, ky_s1, ky_cs, ky_pop, ky_nth, ky_snt, ky_obj, ky_ari, ky_arl, ky_arr, ky_arn, ky_fv, ky_rcv, List.map_cons, List.map_nil, List.drop_succ_cons, List.drop_zero, Value.category, Nat.reduceAdd, Nat.reduceSub, true_and, and_true, true_or, or_true, reduceCtorEq, ite_true, ite_false, eq_self, Nat.reduceEqDiff, Nat.reduceLeDiff, nI_add, nI_1, nI_leI, nI_ltI, nI_eq, nI_clamp, kz_m1, kz_mn, kz_mn2, kz_n0, kz_0n, kz_0, kz_le0, kz_0lt, false_implies, true_implies, not_false_eq_true, not_true_eq_false, Nat.zero_le, kb_0, kz_10, kz_of, ky_sw, kz_mx, kz_mi, mh, e, show ¬ (2 : Int32) ≤ 0 by decide]) | (refine ⟨vp_in_nI (by omega) (by omega), ?_⟩) | (refine ⟨fun zc => ?_, fun zc => ?_⟩ <;> try (exfalso; omega)) | fail)
      intro f1 g1 w1 w2 w3
      (try simp only [ky_aft, ky_vl, Nat.reduceAdd])
      repeat' (first | (refine ky_ok_stp rfl ?_; simp (disch := first | omega | assumption) only [ky_stp, ky_inv, ky_ldi, ky_ldl, ky_ldd, ky_lda, ky_cl2, ky_st1, ky_st2, ky_s1i, ky_s2i, ky_s1l, ky_s2l, ky_sli, ky_s1f, ky_s2f, ky_s1d, ky_s2d, ky_sr, ky_sai, ky_sasi, ky_sasl, ky_sasr, ky_svr, ky_sv, ky_sv2, ky_s1, ky_cs, ky_pop, ky_nth, ky_snt, ky_obj, ky_ari, ky_arl, ky_arr, ky_arn, ky_fv, ky_rcv, List.map_cons, List.map_nil, List.drop_succ_cons, List.drop_zero, Value.category, Nat.reduceAdd, Nat.reduceSub, true_and, and_true, true_or, or_true, reduceCtorEq, ite_true, ite_false, eq_self, Nat.reduceEqDiff, Nat.reduceLeDiff, nI_add, nI_1, nI_leI, nI_ltI, nI_eq, nI_clamp, kz_m1, kz_mn, kz_mn2, kz_n0, kz_0n, kz_0, kz_le0, kz_0lt, false_implies, true_implies, not_false_eq_true, not_true_eq_false, Nat.zero_le, kb_0, kz_10, kz_of, ky_sw, kz_mx, kz_mi]) | (refine ⟨vp_in_nI (by omega) (by omega), ?_⟩) | (refine ⟨fun zc => ?_, fun zc => ?_⟩ <;> try (exfalso; omega)) | fail)
      (first | exact hQ f1 g1 w1 w2 w3 | exact ⟨by decide, hQ f1 g1 w1 w2 w3⟩)
  rw [if_pos h0] at hQ
  repeat' (first | (refine kx252 hMo hr ho hR hp ht hw ?_; simp only [ky_aft, ky_vl, Nat.reduceAdd]) | (refine kx264 hM hz ?_) | (refine ky_ok_stp rfl ?_; simp (disch := first | omega | assumption) only [ky_stp, ky_inv, ky_ldi, ky_ldl, ky_ldd, ky_lda, ky_cl2, ky_st1, ky_st2, ky_s1i, ky_s2i, ky_s1l, ky_s2l, ky_sli, ky_s1f, ky_s2f, ky_s1d, ky_s2d, ky_sr, ky_sai, ky_sasi, ky_sasl, ky_sasr, ky_svr, ky_sv, ky_sv2, ky_s1, ky_cs, ky_pop, ky_nth, ky_snt, ky_obj, ky_ari, ky_arl, ky_arr, ky_arn, ky_fv, ky_rcv, List.map_cons, List.map_nil, List.drop_succ_cons, List.drop_zero, Value.category, Nat.reduceAdd, Nat.reduceSub, true_and, and_true, true_or, or_true, reduceCtorEq, ite_true, ite_false, eq_self, Nat.reduceEqDiff, Nat.reduceLeDiff, nI_add, nI_1, nI_leI, nI_ltI, nI_eq, nI_clamp, kz_m1, kz_mn, kz_mn2, kz_n0, kz_0n, kz_0, kz_le0, kz_0lt, false_implies, true_implies, not_false_eq_true, not_true_eq_false, Nat.zero_le, kb_0, kz_10, kz_of, ky_sw, kz_mx, kz_mi, mh, h0, Int32.le_refl]) | (refine ⟨vp_in_nI (by omega) (by omega), ?_⟩) | (refine ⟨fun zc => ?_, fun zc => ?_⟩ <;> try (exfalso; omega)) | fail)
  intro f1 g1 hM1 hg1 hF1
  try simp only [ky_aft, ky_vl, Nat.reduceAdd]
  obtain ⟨ha, hMo, ⟨⟨r, hr, hR⟩, -⟩, h2, h3, -⟩ := id hM1
  have hR : kRw r s.o := hR
  have mh := hMo
  unfold kMo at mh
  have h60 := ho.n60
  have hL := kRw_l ho hR
  have h184 := h2.2.2.2.2.2.2.2.1
  obtain ⟨B0, h184⟩ := h184
  have hd := (kMR_0 ho hp ht h0).1
  have hto := kMR_to ho (w := w) hp ht hd
  repeat' (first | (refine kx256 ha hMo hr h184 hL hp ht hw hd hto ?_) | (refine ky_ok_stp rfl ?_; simp (disch := first | omega | assumption) only [ky_stp, ky_inv, ky_ldi, ky_ldl, ky_ldd, ky_lda, ky_cl2, ky_st1, ky_st2, ky_s1i, ky_s2i, ky_s1l, ky_s2l, ky_sli, ky_s1f, ky_s2f, ky_s1d, ky_s2d, ky_sr, ky_sai, ky_sasi, ky_sasl, ky_sasr, ky_svr, ky_sv, ky_sv2, ky_s1, ky_cs, ky_pop, ky_nth, ky_snt, ky_obj, ky_ari, ky_arl, ky_arr, ky_arn, ky_fv, ky_rcv, List.map_cons, List.map_nil, List.drop_succ_cons, List.drop_zero, Value.category, Nat.reduceAdd, Nat.reduceSub, true_and, and_true, true_or, or_true, reduceCtorEq, ite_true, ite_false, eq_self, Nat.reduceEqDiff, Nat.reduceLeDiff, nI_add, nI_1, nI_leI, nI_ltI, nI_eq, nI_clamp, kz_m1, kz_mn, kz_mn2, kz_n0, kz_0n, kz_0, kz_le0, kz_0lt, false_implies, true_implies, not_false_eq_true, not_true_eq_false, Nat.zero_le, kb_0, kz_10, kz_of, ky_sw, kz_mx, kz_mi, mh]) | (refine ⟨vp_in_nI (by omega) (by omega), ?_⟩) | (refine ⟨fun zc => ?_, fun zc => ?_⟩ <;> try (exfalso; omega)) | fail)
  intro f2 T2 B2 h171 h184' t0 tx ty hF2
  (try simp only [ky_aft, ky_vl, Nat.reduceAdd])
  repeat' (first | (refine ky_ok_stp rfl ?_; simp (disch := first | omega | assumption) only [ky_stp, ky_inv, ky_ldi, ky_ldl, ky_ldd, ky_lda, ky_cl2, ky_st1, ky_st2, ky_s1i, ky_s2i, ky_s1l, ky_s2l, ky_sli, ky_s1f, ky_s2f, ky_s1d, ky_s2d, ky_sr, ky_sai, ky_sasi, ky_sasl, ky_sasr, ky_svr, ky_sv, ky_sv2, ky_s1, ky_cs, ky_pop, ky_nth, ky_snt, ky_obj, ky_ari, ky_arl, ky_arr, ky_arn, ky_fv, ky_rcv, List.map_cons, List.map_nil, List.drop_succ_cons, List.drop_zero, Value.category, Nat.reduceAdd, Nat.reduceSub, true_and, and_true, true_or, or_true, reduceCtorEq, ite_true, ite_false, eq_self, Nat.reduceEqDiff, Nat.reduceLeDiff, nI_add, nI_1, nI_leI, nI_ltI, nI_eq, nI_clamp, kz_m1, kz_mn, kz_mn2, kz_n0, kz_0n, kz_0, kz_le0, kz_0lt, false_implies, true_implies, not_false_eq_true, not_true_eq_false, Nat.zero_le, kb_0, kz_10, kz_of, ky_sw, kz_mx, kz_mi]) | (refine ⟨vp_in_nI (by omega) (by omega), ?_⟩) | (refine ⟨fun zc => ?_, fun zc => ?_⟩ <;> try (exfalso; omega)) | fail)
  exact hQ f2 g1 (kM_oT hM1 hF2 (fun j h => h) h171 ⟨B2, h184'⟩ (kRw_mz hp hto hR t0 tx fun j u hu hj => ty j u (by omega) hj).2) ⟨hg1 0 (by decide), hg1 11 (by decide)⟩ (kMF_bt hF1 hF2)
theorem kShz_m {f1 f2 : ky_H} {g1 : Nat → Int32} (hR : kRw r s.o) (hp : p < s.o.n) (tx : ∀ t, t < 28 → T t = r t) (ty : ∀ i w, w < 6 → T (28 + 6 * i + w) = if p ≤ i ∧ i < kEnd s.o p ∧ w = 0 then r (28 + 6 * i + w) + d else r (28 + 6 * i + w)) : kRw T (kShz s.o p d) := by
  refine kRw_mp hR ((tx 0 (by omega)).trans hR.1) rfl (fun t ht _ => tx t ht) fun i hi => ?_
  have hRi : (kShz s.o p d).R i = if p ≤ i ∧ i < kEnd s.o p then ksh d (s.o.R i) else s.o.R i := rfl
  by_cases c : p ≤ i ∧ i < kEnd s.o p
  · refine ⟨i, hi, .inr ⟨d, by rw [hRi, if_pos c], ?_, fun w w1 hw => by rw [ty i w (by omega), if_neg (by omega)]⟩⟩
    have := ty i 0 (by omega)
    rw [if_pos ⟨c.1, c.2, rfl⟩] at this
    exact this
  · exact ⟨i, hi, .inl ⟨by rw [hRi, if_neg c], fun w hw => by rw [ty i w (by omega), if_neg (fun h => c ⟨h.1, h.2.1⟩)]⟩⟩
theorem kx276 (hM : kM a f g s) (hz : kKz s) (hp : p < s.o.n) (hQ : kAQ a f g (kTp s p) Q) : ky_cl adK 276 [.ref (a 170), .int (nI p)] f Q := by
  have ho := hz.o
  have h60 := ho.n60
  obtain ⟨ha, hMo, ⟨⟨r, hr, hR⟩, -⟩, -⟩ := id hM
  have mh := hMo
  unfold kMo at mh
  unfold kTp at hQ
  obtain ⟨l0, l1, l6⟩ := ho.lv p hp
  have r0 := (hR.2.1 p hp).1
  refine ⟨Nat.le_of_ble_eq_true rfl, fun z => absurd z (by decide), ?_⟩; show ky_ok adK 276 0 [some (.ref (a 170)), some (.int (nI p))] [] f 0 0 _
  by_cases c1 : kV s.o.R p = 1
  · rw [if_pos c1] at hQ
    have e11 : (nI 1 = (1 : Int32)) = True := eq_true rfl
    repeat' (first | (refine kx175 hMo hr (show p < 60 by omega) ?_; simp only [ky_aft, ky_vl, Nat.reduceAdd]) | (refine kx265a (k := 4) hM (by decide) ?_) | (refine ky_ok_stp rfl ?_; simp (disch := first | omega | assumption) only [ky_stp, ky_inv, ky_ldi, ky_ldl, ky_ldd, ky_lda, ky_cl2, ky_st1, ky_st2, ky_s1i, ky_s2i, ky_s1l, ky_s2l, ky_sli, ky_s1f, ky_s2f, ky_s1d, ky_s2d, ky_sr, ky_sai, ky_sasi, ky_sasl, ky_sasr, ky_svr, ky_sv, ky_sv2, ky_s1, ky_cs, ky_pop, ky_nth, ky_snt, ky_obj, ky_ari, ky_arl, ky_arr, ky_arn, ky_fv, ky_rcv, List.map_cons, List.map_nil, List.drop_succ_cons, List.drop_zero, Value.category, Nat.reduceAdd, Nat.reduceSub, true_and, and_true, true_or, or_true, reduceCtorEq, ite_true, ite_false, eq_self, Nat.reduceEqDiff, Nat.reduceLeDiff, nI_add, nI_1, nI_leI, nI_ltI, nI_eq, nI_clamp, kz_m1, kz_mn, kz_mn2, kz_n0, kz_0n, kz_0, kz_le0, kz_0lt, false_implies, true_implies, not_false_eq_true, not_true_eq_false, Nat.zero_le, kb_0, kz_10, kz_of, ky_sw, kz_mx, kz_mi, mh, r0, l0, c1, e11]) | (refine ⟨vp_in_nI (by omega) (by omega), ?_⟩) | (refine ⟨fun zc => ?_, fun zc => ?_⟩ <;> try (exfalso; omega)) | fail)
    intro f1 g1 w1 w2 w3
    (try simp only [ky_aft, ky_vl, Nat.reduceAdd])
    repeat' (first | (refine ky_ok_stp rfl ?_; simp (disch := first | omega | assumption) only [ky_stp, ky_inv, ky_ldi, ky_ldl, ky_ldd, ky_lda, ky_cl2, ky_st1, ky_st2, ky_s1i, ky_s2i, ky_s1l, ky_s2l, ky_sli, ky_s1f, ky_s2f, ky_s1d, ky_s2d, ky_sr, ky_sai, ky_sasi, ky_sasl, ky_sasr, ky_svr, ky_sv, ky_sv2, ky_s1, ky_cs, ky_pop, ky_nth, ky_snt, ky_obj, ky_ari, ky_arl, ky_arr, ky_arn, ky_fv, ky_rcv, List.map_cons, List.map_nil, List.drop_succ_cons, List.drop_zero, Value.category, Nat.reduceAdd, Nat.reduceSub, true_and, and_true, true_or, or_true, reduceCtorEq, ite_true, ite_false, eq_self, Nat.reduceEqDiff, Nat.reduceLeDiff, nI_add, nI_1, nI_leI, nI_ltI, nI_eq, nI_clamp, kz_m1, kz_mn, kz_mn2, kz_n0, kz_0n, kz_0, kz_le0, kz_0lt, false_implies, true_implies, not_false_eq_true, not_true_eq_false, Nat.zero_le, kb_0, kz_10, kz_of, ky_sw, kz_mx, kz_mi]) | (refine ⟨vp_in_nI (by omega) (by omega), ?_⟩) | (refine ⟨fun zc => ?_, fun zc => ?_⟩ <;> try (exfalso; omega)) | fail)
    (first | exact hQ f1 g1 w1 w2 w3 | exact ⟨by decide, hQ f1 g1 w1 w2 w3⟩)
  · rw [if_neg c1] at hQ
    have e11 : (nI (kV s.o.R p) = (1 : Int32)) = False := eq_false (by rw [show (1 : Int32) = nI 1 from rfl, nI_eq (by omega) (by omega)]; exact c1)
    repeat' (first | (refine kx175 hMo hr (show p < 60 by omega) ?_; simp only [ky_aft, ky_vl, Nat.reduceAdd]) | (refine kx264 hM hz ?_) | (refine ky_ok_stp rfl ?_; simp (disch := first | omega | assumption) only [ky_stp, ky_inv, ky_ldi, ky_ldl, ky_ldd, ky_lda, ky_cl2, ky_st1, ky_st2, ky_s1i, ky_s2i, ky_s1l, ky_s2l, ky_sli, ky_s1f, ky_s2f, ky_s1d, ky_s2d, ky_sr, ky_sai, ky_sasi, ky_sasl, ky_sasr, ky_svr, ky_sv, ky_sv2, ky_s1, ky_cs, ky_pop, ky_nth, ky_snt, ky_obj, ky_ari, ky_arl, ky_arr, ky_arn, ky_fv, ky_rcv, List.map_cons, List.map_nil, List.drop_succ_cons, List.drop_zero, Value.category, Nat.reduceAdd, Nat.reduceSub, true_and, and_true, true_or, or_true, reduceCtorEq, ite_true, ite_false, eq_self, Nat.reduceEqDiff, Nat.reduceLeDiff, nI_add, nI_1, nI_leI, nI_ltI, nI_eq, nI_clamp, kz_m1, kz_mn, kz_mn2, kz_n0, kz_0n, kz_0, kz_le0, kz_0lt, false_implies, true_implies, not_false_eq_true, not_true_eq_false, Nat.zero_le, kb_0, kz_10, kz_of, ky_sw, kz_mx, kz_mi, mh, r0, l0, e11]) | (refine ⟨vp_in_nI (by omega) (by omega), ?_⟩) | (refine ⟨fun zc => ?_, fun zc => ?_⟩ <;> try (exfalso; omega)) | fail)
    clear h60
    intro f1 g1 hM1 hg1 hF1
    try simp only [ky_aft, ky_vl, Nat.reduceAdd]
    obtain ⟨ha, hMo, ⟨⟨r, hr, hR⟩, -⟩, h2, h3, -⟩ := id hM1
    have hR : kRw r s.o := hR
    have mh := hMo
    unfold kMo at mh
    have h60 := ho.n60
    have hL := kRw_l ho hR
    have h184 := h2.2.2.2.2.2.2.2.1
    obtain ⟨B0, h184⟩ := h184
    obtain ⟨p1, p2⟩ := kEnd_le hp
    have hE : kE (kL s.o.R) (kL s.o.R p) (p + 1) (s.o.n - (p + 1)) = kEnd s.o p := rfl
    repeat' (first | (refine kx177 hMo hr hL hp ?_; simp only [ky_aft, ky_vl, Nat.reduceAdd]) | (refine kx271 ha hMo hr (show p ≤ kEnd s.o p by omega) (by omega) ?_) | (refine ky_ok_stp rfl ?_; simp (disch := first | omega | assumption) only [ky_stp, ky_inv, ky_ldi, ky_ldl, ky_ldd, ky_lda, ky_cl2, ky_st1, ky_st2, ky_s1i, ky_s2i, ky_s1l, ky_s2l, ky_sli, ky_s1f, ky_s2f, ky_s1d, ky_s2d, ky_sr, ky_sai, ky_sasi, ky_sasl, ky_sasr, ky_svr, ky_sv, ky_sv2, ky_s1, ky_cs, ky_pop, ky_nth, ky_snt, ky_obj, ky_ari, ky_arl, ky_arr, ky_arn, ky_fv, ky_rcv, List.map_cons, List.map_nil, List.drop_succ_cons, List.drop_zero, Value.category, Nat.reduceAdd, Nat.reduceSub, true_and, and_true, true_or, or_true, reduceCtorEq, ite_true, ite_false, eq_self, Nat.reduceEqDiff, Nat.reduceLeDiff, nI_add, nI_1, nI_leI, nI_ltI, nI_eq, nI_clamp, kz_m1, kz_mn, kz_mn2, kz_n0, kz_0n, kz_0, kz_le0, kz_0lt, false_implies, true_implies, not_false_eq_true, not_true_eq_false, Nat.zero_le, kb_0, kz_10, kz_of, ky_sw, kz_mx, kz_mi, mh, hE]) | (refine ⟨vp_in_nI (by omega) (by omega), ?_⟩) | (refine ⟨fun zc => ?_, fun zc => ?_⟩ <;> try (exfalso; omega)) | fail)
    intro f2 T2 h171 tx ty hF2
    (try simp only [ky_aft, ky_vl, Nat.reduceAdd])
    have hM2 := kMo_fq hMo hF2 (by omega)
    have mh := hM2
    unfold kMo at mh
    have hTp : T2 (28 + 6 * p) = nI (kV s.o.R p - 1) := by
      have := ty p 0 (by omega)
      rw [if_pos ⟨Nat.le_refl _, by omega, rfl⟩] at this
      rw [show 28 + 6 * p = 28 + 6 * p + 0 from rfl, this]
      show r (28 + 6 * p) + -1 = _
      rw [(hR.2.1 p hp).1, l0, nI_m1 l1]
    repeat' (first | (refine kx175 hM2 h171 (show p < 60 by omega) ?_; simp only [ky_aft, ky_vl, Nat.reduceAdd]) | (refine ky_ok_stp rfl ?_; simp (disch := first | omega | assumption) only [ky_stp, ky_inv, ky_ldi, ky_ldl, ky_ldd, ky_lda, ky_cl2, ky_st1, ky_st2, ky_s1i, ky_s2i, ky_s1l, ky_s2l, ky_sli, ky_s1f, ky_s2f, ky_s1d, ky_s2d, ky_sr, ky_sai, ky_sasi, ky_sasl, ky_sasr, ky_svr, ky_sv, ky_sv2, ky_s1, ky_cs, ky_pop, ky_nth, ky_snt, ky_obj, ky_ari, ky_arl, ky_arr, ky_arn, ky_fv, ky_rcv, List.map_cons, List.map_nil, List.drop_succ_cons, List.drop_zero, Value.category, Nat.reduceAdd, Nat.reduceSub, true_and, and_true, true_or, or_true, reduceCtorEq, ite_true, ite_false, eq_self, Nat.reduceEqDiff, Nat.reduceLeDiff, nI_add, nI_1, nI_leI, nI_ltI, nI_eq, nI_clamp, kz_m1, kz_mn, kz_mn2, kz_n0, kz_0n, kz_0, kz_le0, kz_0lt, false_implies, true_implies, not_false_eq_true, not_true_eq_false, Nat.zero_le, kb_0, kz_10, kz_of, ky_sw, kz_mx, kz_mi, mh, hTp]) | (refine ⟨vp_in_nI (by omega) (by omega), ?_⟩) | (refine ⟨fun zc => ?_, fun zc => ?_⟩ <;> try (exfalso; omega)) | fail)
    have hFF : kfr a f1 f2 kTF := fun j hj => hF2 j fun w => hj (Or.inl w)
    exact hQ f2 g1 (kM_oT hM1 hFF (fun j h => h) h171 ⟨B0, (hF2 184 (by omega)).trans h184⟩ (kShz_m (f1 := f) (f2 := f) (g1 := g) hR hp tx ty)) ⟨hg1 0 (by decide), hg1 11 (by decide)⟩ (kMF_bt hF1 hFF)
theorem kx278 (hM : kM a f g s) (hz : kKz s) (hp : p < s.o.n) (hQ : kAQ a f g (kTe' s p) Q) : ky_cl adK 278 [.ref (a 170), .int (nI p)] f Q := by
  have ho := hz.o
  have h60 := ho.n60
  obtain ⟨ha, hMo, ⟨⟨r, hr, hR⟩, -⟩, -⟩ := id hM
  have mh := hMo
  unfold kMo at mh
  unfold kTe' at hQ
  obtain ⟨l0, l1, l6⟩ := ho.lv p hp
  obtain ⟨p1, p2⟩ := kEnd_le hp
  have hL := kRw_l ho hR
  refine ⟨Nat.le_of_ble_eq_true rfl, fun z => absurd z (by decide), ?_⟩; show ky_ok adK 278 0 [some (.ref (a 170)), some (.int (nI p))] [] f 0 0 _
  have hsi := kSi_Sb (kL s.o.R) (kL s.o.R p) p
  have hsl := kSi_le (kL s.o.R) (kL s.o.R p) p
  have em := kz_nm1 (j := kSi (kL s.o.R) (kL s.o.R p) p) (by omega)
  by_cases c1 : kSb (kL s.o.R) (kL s.o.R p) p 0 = 0
  · rw [if_pos c1] at hQ
    rw [eq_true (hsi.mpr c1)] at em
    repeat' (first | (refine kx180 hMo hr hL hp ?_; simp only [ky_aft, ky_vl, Nat.reduceAdd]) | (refine kx265a (k := 5) hM (by decide) ?_) | (refine ky_ok_stp rfl ?_; simp (disch := first | omega | assumption) only [ky_stp, ky_inv, ky_ldi, ky_ldl, ky_ldd, ky_lda, ky_cl2, ky_st1, ky_st2, ky_s1i, ky_s2i, ky_s1l, ky_s2l, ky_sli, ky_s1f, ky_s2f, ky_s1d, ky_s2d, ky_sr, ky_sai, ky_sasi, ky_sasl, ky_sasr, ky_svr, ky_sv, ky_sv2, ky_s1, ky_cs, ky_pop, ky_nth, ky_snt, ky_obj, ky_ari, ky_arl, ky_arr, ky_arn, ky_fv, ky_rcv, List.map_cons, List.map_nil, List.drop_succ_cons, List.drop_zero, Value.category, Nat.reduceAdd, Nat.reduceSub, true_and, and_true, true_or, or_true, reduceCtorEq, ite_true, ite_false, eq_self, Nat.reduceEqDiff, Nat.reduceLeDiff, nI_add, nI_1, nI_leI, nI_ltI, nI_eq, nI_clamp, kz_m1, kz_mn, kz_mn2, kz_n0, kz_0n, kz_0, kz_le0, kz_0lt, false_implies, true_implies, not_false_eq_true, not_true_eq_false, Nat.zero_le, kb_0, kz_10, kz_of, ky_sw, kz_mx, kz_mi, mh, em]) | (refine ⟨vp_in_nI (by omega) (by omega), ?_⟩) | (refine ⟨fun zc => ?_, fun zc => ?_⟩ <;> try (exfalso; omega)) | fail)
    intro f1 g1 w1 w2 w3
    (try simp only [ky_aft, ky_vl, Nat.reduceAdd])
    repeat' (first | (refine ky_ok_stp rfl ?_; simp (disch := first | omega | assumption) only [ky_stp, ky_inv, ky_ldi, ky_ldl, ky_ldd, ky_lda, ky_cl2, ky_st1, ky_st2, ky_s1i, ky_s2i, ky_s1l, ky_s2l, ky_sli, ky_s1f, ky_s2f, ky_s1d, ky_s2d, ky_sr, ky_sai, ky_sasi, ky_sasl, ky_sasr, ky_svr, ky_sv, ky_sv2, ky_s1, ky_cs, ky_pop, ky_nth, ky_snt, ky_obj, ky_ari, ky_arl, ky_arr, ky_arn, ky_fv, ky_rcv, List.map_cons, List.map_nil, List.drop_succ_cons, List.drop_zero, Value.category, Nat.reduceAdd, Nat.reduceSub, true_and, and_true, true_or, or_true, reduceCtorEq, ite_true, ite_false, eq_self, Nat.reduceEqDiff, Nat.reduceLeDiff, nI_add, nI_1, nI_leI, nI_ltI, nI_eq, nI_clamp, kz_m1, kz_mn, kz_mn2, kz_n0, kz_0n, kz_0, kz_le0, kz_0lt, false_implies, true_implies, not_false_eq_true, not_true_eq_false, Nat.zero_le, kb_0, kz_10, kz_of, ky_sw, kz_mx, kz_mi]) | (refine ⟨vp_in_nI (by omega) (by omega), ?_⟩) | (refine ⟨fun zc => ?_, fun zc => ?_⟩ <;> try (exfalso; omega)) | fail)
    (first | exact hQ f1 g1 w1 w2 w3 | exact ⟨by decide, hQ f1 g1 w1 w2 w3⟩)
  · rw [if_neg c1] at hQ
    rw [eq_false (fun w => c1 (hsi.mp w))] at em
    have hG : kG (kL s.o.R) p (kE (kL s.o.R) (kL s.o.R p) (p + 1) (s.o.n - (p + 1)) - p) 0 = kG (kL s.o.R) p (kEnd s.o p - p) 0 := rfl
    obtain ⟨X, x1, x2, x3, x4⟩ := kG_le (V := kV s.o.R) (L := kL s.o.R) (kEnd s.o p - p) p 0 (fun j j1 j2 => ⟨(ho.lv j (by omega)).1, (ho.lv j (by omega)).2.2⟩) (by omega)
    have x1 : kG (kL s.o.R) p (kEnd s.o p - p) 0 = nI X := x1
    have e6 : (6 : Int32) = nI 6 := rfl
    by_cases c2 : X = 6
    · rw [if_pos (by rw [x1]; show nI 6 ≤ nI X; rw [nI_leI (by omega) (by omega)]; omega)] at hQ
      repeat' (first | (refine kx180 hMo hr hL hp ?_; simp only [ky_aft, ky_vl, Nat.reduceAdd]) | (refine kx179 hMo hr hL hp ?_; simp only [ky_aft, ky_vl, Nat.reduceAdd]) | (refine kx265a (k := 1) hM (by decide) ?_) | (refine ky_ok_stp rfl ?_; simp (disch := first | omega | assumption) only [ky_stp, ky_inv, ky_ldi, ky_ldl, ky_ldd, ky_lda, ky_cl2, ky_st1, ky_st2, ky_s1i, ky_s2i, ky_s1l, ky_s2l, ky_sli, ky_s1f, ky_s2f, ky_s1d, ky_s2d, ky_sr, ky_sai, ky_sasi, ky_sasl, ky_sasr, ky_svr, ky_sv, ky_sv2, ky_s1, ky_cs, ky_pop, ky_nth, ky_snt, ky_obj, ky_ari, ky_arl, ky_arr, ky_arn, ky_fv, ky_rcv, List.map_cons, List.map_nil, List.drop_succ_cons, List.drop_zero, Value.category, Nat.reduceAdd, Nat.reduceSub, true_and, and_true, true_or, or_true, reduceCtorEq, ite_true, ite_false, eq_self, Nat.reduceEqDiff, Nat.reduceLeDiff, nI_add, nI_1, nI_leI, nI_ltI, nI_eq, nI_clamp, kz_m1, kz_mn, kz_mn2, kz_n0, kz_0n, kz_0, kz_le0, kz_0lt, false_implies, true_implies, not_false_eq_true, not_true_eq_false, Nat.zero_le, kb_0, kz_10, kz_of, ky_sw, kz_mx, kz_mi, mh, em, hG, x1, e6, c2]) | (refine ⟨vp_in_nI (by omega) (by omega), ?_⟩) | (refine ⟨fun zc => ?_, fun zc => ?_⟩ <;> try (exfalso; omega)) | fail)
      intro f1 g1 w1 w2 w3
      (try simp only [ky_aft, ky_vl, Nat.reduceAdd])
      repeat' (first | (refine ky_ok_stp rfl ?_; simp (disch := first | omega | assumption) only [ky_stp, ky_inv, ky_ldi, ky_ldl, ky_ldd, ky_lda, ky_cl2, ky_st1, ky_st2, ky_s1i, ky_s2i, ky_s1l, ky_s2l, ky_sli, ky_s1f, ky_s2f, ky_s1d, ky_s2d, ky_sr, ky_sai, ky_sasi, ky_sasl, ky_sasr, ky_svr, ky_sv, ky_sv2, ky_s1, ky_cs, ky_pop, ky_nth, ky_snt, ky_obj, ky_ari, ky_arl, ky_arr, ky_arn, ky_fv, ky_rcv, List.map_cons, List.map_nil, List.drop_succ_cons, List.drop_zero, Value.category, Nat.reduceAdd, Nat.reduceSub, true_and, and_true, true_or, or_true, reduceCtorEq, ite_true, ite_false, eq_self, Nat.reduceEqDiff, Nat.reduceLeDiff, nI_add, nI_1, nI_leI, nI_ltI, nI_eq, nI_clamp, kz_m1, kz_mn, kz_mn2, kz_n0, kz_0n, kz_0, kz_le0, kz_0lt, false_implies, true_implies, not_false_eq_true, not_true_eq_false, Nat.zero_le, kb_0, kz_10, kz_of, ky_sw, kz_mx, kz_mi]) | (refine ⟨vp_in_nI (by omega) (by omega), ?_⟩) | (refine ⟨fun zc => ?_, fun zc => ?_⟩ <;> try (exfalso; omega)) | fail)
      (first | exact hQ f1 g1 w1 w2 w3 | exact ⟨by decide, hQ f1 g1 w1 w2 w3⟩)
    · rw [if_neg (by rw [x1]; show ¬ nI 6 ≤ nI X; rw [nI_leI (by omega) (by omega)]; omega)] at hQ
      repeat' (first | (refine kx180 hMo hr hL hp ?_; simp only [ky_aft, ky_vl, Nat.reduceAdd]) | (refine kx179 hMo hr hL hp ?_; simp only [ky_aft, ky_vl, Nat.reduceAdd]) | (refine kx264 hM hz ?_) | (refine ky_ok_stp rfl ?_; simp (disch := first | omega | assumption) only [ky_stp, ky_inv, ky_ldi, ky_ldl, ky_ldd, ky_lda, ky_cl2, ky_st1, ky_st2, ky_s1i, ky_s2i, ky_s1l, ky_s2l, ky_sli, ky_s1f, ky_s2f, ky_s1d, ky_s2d, ky_sr, ky_sai, ky_sasi, ky_sasl, ky_sasr, ky_svr, ky_sv, ky_sv2, ky_s1, ky_cs, ky_pop, ky_nth, ky_snt, ky_obj, ky_ari, ky_arl, ky_arr, ky_arn, ky_fv, ky_rcv, List.map_cons, List.map_nil, List.drop_succ_cons, List.drop_zero, Value.category, Nat.reduceAdd, Nat.reduceSub, true_and, and_true, true_or, or_true, reduceCtorEq, ite_true, ite_false, eq_self, Nat.reduceEqDiff, Nat.reduceLeDiff, nI_add, nI_1, nI_leI, nI_ltI, nI_eq, nI_clamp, kz_m1, kz_mn, kz_mn2, kz_n0, kz_0n, kz_0, kz_le0, kz_0lt, false_implies, true_implies, not_false_eq_true, not_true_eq_false, Nat.zero_le, kb_0, kz_10, kz_of, ky_sw, kz_mx, kz_mi, mh, em, hG, x1, e6, eq_false c2]) | (refine ⟨vp_in_nI (by omega) (by omega), ?_⟩) | (refine ⟨fun zc => ?_, fun zc => ?_⟩ <;> try (exfalso; omega)) | fail)
      clear h60 hL
      intro f1 g1 hM1 hg1 hF1
      try simp only [ky_aft, ky_vl, Nat.reduceAdd]
      obtain ⟨ha, hMo, ⟨⟨r, hr, hR⟩, -⟩, h2, h3, -⟩ := id hM1
      have hR : kRw r s.o := hR
      have mh := hMo
      unfold kMo at mh
      have h60 := ho.n60
      have hL := kRw_l ho hR
      have h184 := h2.2.2.2.2.2.2.2.1
      obtain ⟨B0, h184⟩ := h184
      have hE : kE (kL s.o.R) (kL s.o.R p) (p + 1) (s.o.n - (p + 1)) = kEnd s.o p := rfl
      repeat' (first | (refine kx177 hMo hr hL hp ?_; simp only [ky_aft, ky_vl, Nat.reduceAdd]) | (refine kx271 ha hMo hr (show p ≤ kEnd s.o p by omega) (by omega) ?_) | (refine ky_ok_stp rfl ?_; simp (disch := first | omega | assumption) only [ky_stp, ky_inv, ky_ldi, ky_ldl, ky_ldd, ky_lda, ky_cl2, ky_st1, ky_st2, ky_s1i, ky_s2i, ky_s1l, ky_s2l, ky_sli, ky_s1f, ky_s2f, ky_s1d, ky_s2d, ky_sr, ky_sai, ky_sasi, ky_sasl, ky_sasr, ky_svr, ky_sv, ky_sv2, ky_s1, ky_cs, ky_pop, ky_nth, ky_snt, ky_obj, ky_ari, ky_arl, ky_arr, ky_arn, ky_fv, ky_rcv, List.map_cons, List.map_nil, List.drop_succ_cons, List.drop_zero, Value.category, Nat.reduceAdd, Nat.reduceSub, true_and, and_true, true_or, or_true, reduceCtorEq, ite_true, ite_false, eq_self, Nat.reduceEqDiff, Nat.reduceLeDiff, nI_add, nI_1, nI_leI, nI_ltI, nI_eq, nI_clamp, kz_m1, kz_mn, kz_mn2, kz_n0, kz_0n, kz_0, kz_le0, kz_0lt, false_implies, true_implies, not_false_eq_true, not_true_eq_false, Nat.zero_le, kb_0, kz_10, kz_of, ky_sw, kz_mx, kz_mi, mh, hE]) | (refine ⟨vp_in_nI (by omega) (by omega), ?_⟩) | (refine ⟨fun zc => ?_, fun zc => ?_⟩ <;> try (exfalso; omega)) | fail)
      intro f2 T2 h171 tx ty hF2
      (try simp only [ky_aft, ky_vl, Nat.reduceAdd])
      have hM2 := kMo_fq hMo hF2 (by omega)
      have mh := hM2
      unfold kMo at mh
      have hTp : T2 (28 + 6 * p) = nI (kV s.o.R p + 1) := by
        have := ty p 0 (by omega)
        rw [if_pos ⟨Nat.le_refl _, by omega, rfl⟩] at this
        rw [show 28 + 6 * p = 28 + 6 * p + 0 from rfl, this]
        show r (28 + 6 * p) + 1 = _
        rw [(hR.2.1 p hp).1, l0, show (1 : Int32) = nI 1 from rfl, nI_add]
      repeat' (first | (refine kx175 hM2 h171 (show p < 60 by omega) ?_; simp only [ky_aft, ky_vl, Nat.reduceAdd]) | (refine ky_ok_stp rfl ?_; simp (disch := first | omega | assumption) only [ky_stp, ky_inv, ky_ldi, ky_ldl, ky_ldd, ky_lda, ky_cl2, ky_st1, ky_st2, ky_s1i, ky_s2i, ky_s1l, ky_s2l, ky_sli, ky_s1f, ky_s2f, ky_s1d, ky_s2d, ky_sr, ky_sai, ky_sasi, ky_sasl, ky_sasr, ky_svr, ky_sv, ky_sv2, ky_s1, ky_cs, ky_pop, ky_nth, ky_snt, ky_obj, ky_ari, ky_arl, ky_arr, ky_arn, ky_fv, ky_rcv, List.map_cons, List.map_nil, List.drop_succ_cons, List.drop_zero, Value.category, Nat.reduceAdd, Nat.reduceSub, true_and, and_true, true_or, or_true, reduceCtorEq, ite_true, ite_false, eq_self, Nat.reduceEqDiff, Nat.reduceLeDiff, nI_add, nI_1, nI_leI, nI_ltI, nI_eq, nI_clamp, kz_m1, kz_mn, kz_mn2, kz_n0, kz_0n, kz_0, kz_le0, kz_0lt, false_implies, true_implies, not_false_eq_true, not_true_eq_false, Nat.zero_le, kb_0, kz_10, kz_of, ky_sw, kz_mx, kz_mi, mh, hTp]) | (refine ⟨vp_in_nI (by omega) (by omega), ?_⟩) | (refine ⟨fun zc => ?_, fun zc => ?_⟩ <;> try (exfalso; omega)) | fail)
      have hFF : kfr a f1 f2 kTF := fun j hj => hF2 j fun w => hj (Or.inl w)
      exact hQ f2 g1 (kM_oT hM1 hFF (fun j h => h) h171 ⟨B0, (hF2 184 (by omega)).trans h184⟩ (kShz_m (f1 := f) (f2 := f) (g1 := g) hR hp tx ty)) ⟨hg1 0 (by decide), hg1 11 (by decide)⟩ (kMF_bt hF1 hFF)
end KXM
