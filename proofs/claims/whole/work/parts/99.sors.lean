/-! ## the reference: sort -/
theorem kOrg_g {z : kZ} (h : kZo z) {j : Nat} (hj : j ≤ z.n) {sl : List Nat} (hp : sl.Perm (kCl z j)) : (sl.flatMap (kBr z)).length = kEj z j - j ∧ (∀ t, t < z.n → (kOrg z j sl).getD t 0 < z.n) ∧ (∀ t, t < z.n → (kOrg z j sl).getD t 0 = if t < j then t else if t < kEj z j then (sl.flatMap (kBr z)).getD (t - j) 0 else t) := by
  obtain ⟨E1, E2, E3, E4⟩ := kEj_V h hj
  have hpm := kOrg_p h hj hp
  have hlen : (kOrg z j sl).length = z.n := by rw [hpm.length_eq, kRa_len]
  have hlt : ∀ t, t < z.n → (kOrg z j sl).getD t 0 < z.n := fun t ht => by
    rw [List.getD_eq_getElem?_getD, List.getElem?_eq_getElem (by omega)]
    have := kRa_mem (hpm.mem_iff.mp (List.getElem_mem (l := kOrg z j sl) (by omega : t < (kOrg z j sl).length)))
    show (kOrg z j sl)[t] < z.n
    omega
  have hF : (sl.flatMap (kBr z)).length = kEj z j - j := by
    have := hlen
    unfold kOrg at this
    rw [List.length_append, List.length_append, kRa_len, kRa_len] at this
    omega
  refine ⟨hF, hlt, fun t ht => ?_⟩
  unfold kOrg
  by_cases c1 : t < j
  · rw [if_pos c1, kgd_l (by rw [kRa_len]; exact c1), kRa_get c1, Nat.zero_add]
  · rw [if_neg c1, kgd_r (by rw [kRa_len]; omega), kRa_len]
    by_cases c2 : t < kEj z j
    · rw [if_pos c2, kgd_l (by omega)]
    · rw [if_neg c2, kgd_r (by omega), hF, kRa_get (by omega)]
      omega
theorem kF_s {G : Nat → List Nat} : ∀ (sl : List Nat) (k : Nat), k < sl.length → ((sl.take (k + 1)).flatMap G).length = ((sl.take k).flatMap G).length + (G (sl.getD k 0)).length ∧ ∀ d, d < (G (sl.getD k 0)).length → (sl.flatMap G).getD (((sl.take k).flatMap G).length + d) 0 = (G (sl.getD k 0)).getD d 0
  | [], k, h => absurd h (Nat.not_lt_zero k)
  | x :: sl, 0, _ => by
    refine ⟨?_, fun d hd => ?_⟩
    · show (([x] : List Nat).flatMap G).length = 0 + (G x).length
      rw [List.flatMap_cons, List.flatMap_nil, List.append_nil, Nat.zero_add]
    · have hd : d < (G x).length := hd
      show ((x :: sl).flatMap G).getD (0 + d) 0 = (G x).getD d 0
      rw [List.flatMap_cons, Nat.zero_add, kgd_l hd]
  | x :: sl, k + 1, h => by
    obtain ⟨i1, i2⟩ := kF_s sl k (by simpa using h)
    have e1 : (x :: sl).getD (k + 1) 0 = sl.getD k 0 := rfl
    rw [e1, List.take_succ_cons, List.take_succ_cons, List.flatMap_cons, List.flatMap_cons, List.length_append, List.length_append, i1]
    refine ⟨by omega, fun d hd => ?_⟩
    rw [List.flatMap_cons, kgd_r (by omega), show (G x).length + ((sl.take k).flatMap G).length + d - (G x).length = ((sl.take k).flatMap G).length + d by omega]
    exact i2 d hd
section KXM
variable {adK a : Nat → Nat} {f : ky_H} {Q : ky_Q} {g r B T O : Nat → Int32} {s : kSt} {p w n l i j t e m k b y c x : Nat} {X v d : Int32} {z : kZ}
theorem kx285 (hM : kM a f g s) (hz : kKz s) (hj : j ≤ s.o.n) (hX : X = nI j - 1) (hb : b ≤ 2) (hQ : kAQ a f g (kTs' s j b) Q) : ky_cl adK 285 [.ref (a 170), .int X, .int (nI b)] f Q := by
  have ho := hz.o
  obtain ⟨ha, hMo, ⟨⟨r, hr, hR⟩, -⟩, h2, h3, -⟩ := id hM
  have mh := hMo
  unfold kMo at mh
  have h60 := ho.n60
  have hx1 : X + 1 = nI j := by rw [hX, kz_j1]
  obtain ⟨O0, h185⟩ := h2.2.2.2.2.2.2.2.2
  have hlen := kCl_le hj
  have hsp := kSrt_p s.o b (kCl s.o j)
  have hsl := hsp.length_eq
  obtain ⟨F1, F2, F3⟩ := kOrg_g ho hj hsp
  obtain ⟨-, -, E3, E4⟩ := kEj_V ho hj
  unfold kTs' at hQ
  refine ⟨Nat.le_of_ble_eq_true rfl, fun z => absurd z (by decide), ?_⟩; show ky_ok adK 285 0 [some (.ref (a 170)), some (.int X), some (.int (nI b)), none, none, none, none, none, none] [] f 0 0 _
  repeat' (first | (refine kx284 ha hMo hr ho hR hj hX hb h185 ?_) | (refine ky_ok_stp rfl ?_; simp (disch := first | omega | assumption) only [ky_stp, ky_inv, ky_ldi, ky_ldl, ky_ldd, ky_lda, ky_cl2, ky_st1, ky_st2, ky_s1i, ky_s2i, ky_s1l, ky_s2l, ky_sli, ky_s1f, ky_s2f, ky_s1d, ky_s2d, ky_sr, ky_sai, ky_sasi, ky_sasl, ky_sasr, ky_svr, ky_sv, ky_sv2, ky_s1, ky_cs, ky_pop, ky_nth, ky_snt, ky_obj, ky_ari, ky_arl, ky_arr, ky_arn, ky_fv, ky_rcv, List.map_cons, List.map_nil, List.drop_succ_cons, List.drop_zero, Value.category, Nat.reduceAdd, Nat.reduceSub, true_and, and_true, true_or, or_true, reduceCtorEq, ite_true, ite_false, eq_self, Nat.reduceEqDiff, Nat.reduceLeDiff, nI_add, nI_1, nI_leI, nI_ltI, nI_eq, nI_clamp, kz_m1, kz_mn, kz_mn2, kz_n0, kz_0n, kz_0, kz_le0, kz_0lt, false_implies, true_implies, not_false_eq_true, not_true_eq_false, Nat.zero_le, kb_0, kz_10, kz_of, ky_sw, kz_mx, kz_mi, mh]) | (refine ⟨vp_in_nI (by omega) (by omega), ?_⟩) | (refine ⟨fun zc => ?_, fun zc => ?_⟩ <;> try (exfalso; omega)) | fail)
  intro f1 O h185 hO hF1
  (try simp only [ky_aft, ky_vl, Nat.reduceAdd])
  have hM1 : kM a f1 g s := kM_s hM (kMo_fq hMo hF1 (by omega)) h3 (fun j hj => hF1 j fun w => hj (by unfold kMS; omega)) (kM2_fr h2 hF1 (fun w => by omega) (fun w => by omega) (fun w => by omega) (fun w => by omega) (fun w => by omega) (fun w => by omega) (fun w => by omega) (fun w => by omega) (fun _ => ⟨O, h185⟩))
  have hFM : kfr a f f1 kMF := fun j hj => hF1 j fun w => hj (by unfold kMF; omega)
  have hQ1 : ∀ {R}, kAQ a f g R Q → kAQ a f1 g R Q := fun h f' g' w1 w2 w3 => h f' g' w1 w2 (kfr_tr hF1 w3 fun j hj => ⟨fun w => hj ⟨by unfold kMF; omega, by omega⟩, hj⟩)
  have hMo1 := hM1.2.1
  have hr1 : f1 (a 171) = some (.inl (1, 388, .inl r)) := (hF1 171 (by omega)).trans hr
  have mh1 := hMo1
  unfold kMo at mh1
  by_cases c0 : kCl s.o j = []
  · rw [if_pos c0] at hQ
    have hq := hQ1 hQ
    have hl0 : (kCl s.o j).length = 0 := by rw [c0]; rfl
    repeat' (first | (refine kx265a (k := 6) hM1 (by decide) ?_) | (refine ky_ok_stp rfl ?_; simp (disch := first | omega | assumption) only [ky_stp, ky_inv, ky_ldi, ky_ldl, ky_ldd, ky_lda, ky_cl2, ky_st1, ky_st2, ky_s1i, ky_s2i, ky_s1l, ky_s2l, ky_sli, ky_s1f, ky_s2f, ky_s1d, ky_s2d, ky_sr, ky_sai, ky_sasi, ky_sasl, ky_sasr, ky_svr, ky_sv, ky_sv2, ky_s1, ky_cs, ky_pop, ky_nth, ky_snt, ky_obj, ky_ari, ky_arl, ky_arr, ky_arn, ky_fv, ky_rcv, List.map_cons, List.map_nil, List.drop_succ_cons, List.drop_zero, Value.category, Nat.reduceAdd, Nat.reduceSub, true_and, and_true, true_or, or_true, reduceCtorEq, ite_true, ite_false, eq_self, Nat.reduceEqDiff, Nat.reduceLeDiff, nI_add, nI_1, nI_leI, nI_ltI, nI_eq, nI_clamp, kz_m1, kz_mn, kz_mn2, kz_n0, kz_0n, kz_0, kz_le0, kz_0lt, false_implies, true_implies, not_false_eq_true, not_true_eq_false, Nat.zero_le, kb_0, kz_10, kz_of, ky_sw, kz_mx, kz_mi, mh1, hl0]) | (refine ⟨vp_in_nI (by omega) (by omega), ?_⟩) | (refine ⟨fun zc => ?_, fun zc => ?_⟩ <;> try (exfalso; omega)) | fail)
    intro f2 g2 w1 w2 w3
    (try simp only [ky_aft, ky_vl, Nat.reduceAdd])
    repeat' (first | (refine ky_ok_stp rfl ?_; simp (disch := first | omega | assumption) only [ky_stp, ky_inv, ky_ldi, ky_ldl, ky_ldd, ky_lda, ky_cl2, ky_st1, ky_st2, ky_s1i, ky_s2i, ky_s1l, ky_s2l, ky_sli, ky_s1f, ky_s2f, ky_s1d, ky_s2d, ky_sr, ky_sai, ky_sasi, ky_sasl, ky_sasr, ky_svr, ky_sv, ky_sv2, ky_s1, ky_cs, ky_pop, ky_nth, ky_snt, ky_obj, ky_ari, ky_arl, ky_arr, ky_arn, ky_fv, ky_rcv, List.map_cons, List.map_nil, List.drop_succ_cons, List.drop_zero, Value.category, Nat.reduceAdd, Nat.reduceSub, true_and, and_true, true_or, or_true, reduceCtorEq, ite_true, ite_false, eq_self, Nat.reduceEqDiff, Nat.reduceLeDiff, nI_add, nI_1, nI_leI, nI_ltI, nI_eq, nI_clamp, kz_m1, kz_mn, kz_mn2, kz_n0, kz_0n, kz_0, kz_le0, kz_0lt, false_implies, true_implies, not_false_eq_true, not_true_eq_false, Nat.zero_le, kb_0, kz_10, kz_of, ky_sw, kz_mx, kz_mi]) | (refine ⟨vp_in_nI (by omega) (by omega), ?_⟩) | (refine ⟨fun zc => ?_, fun zc => ?_⟩ <;> try (exfalso; omega)) | fail)
    (first | exact hq f2 g2 w1 w2 w3 | exact ⟨by decide, hq f2 g2 w1 w2 w3⟩)
  rw [if_neg c0] at hQ
  have hl0 : ¬ (kCl s.o j).length = 0 := fun w => c0 (List.length_eq_zero_iff.mp w)
  have hq := hQ1 hQ
  have hsm : ∀ t, t < (kCl s.o j).length → ∃ i, i < (kCl s.o j).length ∧ (kSrt s.o b (kCl s.o j)).getD t 0 = (kCl s.o j).getD i 0 := fun t ht => by
    have hm : (kSrt s.o b (kCl s.o j)).getD t 0 ∈ kCl s.o j := by
      rw [List.getD_eq_getElem?_getD, List.getElem?_eq_getElem (by omega)]
      exact hsp.mem_iff.mp (List.getElem_mem (by omega))
    obtain ⟨i, hi, e⟩ := List.getElem_of_mem hm
    exact ⟨i, hi, by rw [List.getD_eq_getElem?_getD (l := kCl s.o j), List.getElem?_eq_getElem hi, e]; rfl⟩
  have hlt : ∀ t, t < (kCl s.o j).length → (kSrt s.o b (kCl s.o j)).getD t 0 < s.o.n := fun t ht => by
    obtain ⟨i, hi, e⟩ := hsm t ht
    rw [e]
    exact kCl_lt hj hi
  generalize hSL : kSrt s.o b (kCl s.o j) = SL at hO hsl F1 F2 F3 hq hsm hlt
  -- behind keeps
  have main : ∀ f2 g2 oth v7 v8, kM a f2 g2 (kBeg s) → (∀ j, j ≠ 1 → g2 j = g j) → kfr a f1 f2 kBF2 → oth = nI (kCt (fun i => SL.getD i 0 ≠ (kCl s.o j).getD i 0) (kCl s.o j).length) → ky_ok adK 285 66 [some (.ref (a 170)), some (.int X), some (.int (nI b)), some (.int (nI (kCl s.o j).length)), some (.int oth), some (.int (nI (kCl s.o j).length)), none, v7, v8] [] f2 0 0 Q := by
    intro f2 g2 oth v7 v8 hM2 hg2 hF2 hoth
    obtain ⟨-, hMo2, ⟨⟨r2, hr2, hR2⟩, -⟩, k2, k3, -⟩ := id hM2
    have hR2 : kRw r2 s.o := hR2
    have hL2 := kRw_l ho hR2
    obtain ⟨B0, h184⟩ := k2.2.2.2.2.2.2.2.1
    have h185' : f2 (a 185) = some (.inl (1, 60, .inl O)) := (hF2 185 (by unfold kBF2; omega)).trans h185
    have e6 : (6 : Int32) = nI 6 := rfl
    have hmx : kEj s.o j - j ≤ 60 := by omega
    -- all rows lie in the branch: back with them
    have back : ∀ f3 B3 v6 v7 v8, f3 (a 184) = some (.inl (1, 360, .inl B3)) → (∀ i w, i < kEj s.o j - j → w < 6 → B3 (6 * i + w) = r2 (28 + 6 * (SL.flatMap (kBr s.o)).getD i 0 + w)) → kfr a f2 f3 (fun j => j = 184) → ky_ok adK 285 155 [some (.ref (a 170)), some (.int X), some (.int (nI b)), some (.int (nI (kCl s.o j).length)), some (.int oth), some (.int (nI (kEj s.o j - j))), v6, v7, v8] [] f3 0 0 Q := by
      intro f3 B3 v6 v7 v8 h184' hB3 hF3
      have hMo3 := kMo_fq hMo2 hF3 (by omega)
      have hr3 : f3 (a 171) = some (.inl (1, 388, .inl r2)) := (hF3 171 (by omega)).trans hr2
      have fin : ∀ f4 T v6 v7 v8, f4 (a 171) = some (.inl (1, 388, .inl T)) → (∀ t, (t < 28 + 6 * j ∨ 28 + 6 * kEj s.o j ≤ t) → T t = r2 t) → (∀ i w, i < kEj s.o j - j → w < 6 → T (28 + 6 * (j + i) + w) = r2 (28 + 6 * (SL.flatMap (kBr s.o)).getD i 0 + w)) → kfr a f3 f4 (fun j => j = 171) → v6 = some (.int (nI (kEj s.o j - j))) → ky_ok adK 285 158 [some (.ref (a 170)), some (.int X), some (.int (nI b)), some (.int (nI (kCl s.o j).length)), some (.int oth), some (.int (nI (kEj s.o j - j))), v6, v7, v8] [] f4 0 0 Q := by
        intro f4 T v6 v7 v8 h171 hx hy hF4 hv6
        subst hv6
        have hFF : kfr a f2 f4 kTF := kfr_tr hF3 hF4 fun j hj => ⟨fun w => hj (Or.inr w), fun w => hj (Or.inl w)⟩
        have hRz : kRw T (kSoz s.o j b) := kRw_mp hR2 ((hx 0 (by omega)).trans hR2.1) rfl (fun t ht _ => hx t (by omega)) fun i hi => by
          have hi : i < s.o.n := hi
          refine ⟨(kOrg s.o j SL).getD i 0, F2 i hi, .inl ⟨by rw [← hSL]; rfl, fun w hw => ?_⟩⟩
          rw [F3 i hi]
          by_cases c1 : i < j
          · rw [if_pos c1]; exact hx _ (by omega)
          · rw [if_neg c1]
            by_cases c2 : i < kEj s.o j
            · rw [if_pos c2]
              have := hy (i - j) w (by omega) (by omega)
              rw [show j + (i - j) = i by omega] at this
              exact this
            · rw [if_neg c2]; exact hx _ (by omega)
        have hqq := hq f4 g2 (kM_oT hM2 hFF (fun j h => h) h171 ⟨B3, (hF4 184 (by omega)).trans h184'⟩ hRz) ⟨hg2 0 (by decide), hg2 11 (by decide)⟩ (kMF_bt hF2 hFF)
        rw [hoth]
        repeat' (first | (refine ky_ok_stp rfl ?_; simp (disch := first | omega | assumption) only [ky_stp, ky_inv, ky_ldi, ky_ldl, ky_ldd, ky_lda, ky_cl2, ky_st1, ky_st2, ky_s1i, ky_s2i, ky_s1l, ky_s2l, ky_sli, ky_s1f, ky_s2f, ky_s1d, ky_s2d, ky_sr, ky_sai, ky_sasi, ky_sasl, ky_sasr, ky_svr, ky_sv, ky_sv2, ky_s1, ky_cs, ky_pop, ky_nth, ky_snt, ky_obj, ky_ari, ky_arl, ky_arr, ky_arn, ky_fv, ky_rcv, List.map_cons, List.map_nil, List.drop_succ_cons, List.drop_zero, Value.category, Nat.reduceAdd, Nat.reduceSub, true_and, and_true, true_or, or_true, reduceCtorEq, ite_true, ite_false, eq_self, Nat.reduceEqDiff, Nat.reduceLeDiff, nI_add, nI_1, nI_leI, nI_ltI, nI_eq, nI_clamp, kz_m1, kz_mn, kz_mn2, kz_n0, kz_0n, kz_0, kz_le0, kz_0lt, false_implies, true_implies, not_false_eq_true, not_true_eq_false, Nat.zero_le, kb_0, kz_10, kz_of, ky_sw, kz_mx, kz_mi]) | (refine ⟨vp_in_nI (by omega) (by omega), ?_⟩) | (refine ⟨fun zc => ?_, fun zc => ?_⟩ <;> try (exfalso; omega)) | fail)
        exact hqq
      have lp : ∀ d h u f4 T v8, 7 * (kEj s.o j - j - h) - u ≤ d → u ≤ 6 → h < kEj s.o j - j → f4 (a 171) = some (.inl (1, 388, .inl T)) → (∀ t, (t < 28 + 6 * j ∨ 28 + 6 * kEj s.o j ≤ t) → T t = r2 t) → (∀ i w, i < h → w < 6 → T (28 + 6 * (j + i) + w) = r2 (28 + 6 * (SL.flatMap (kBr s.o)).getD i 0 + w)) → (∀ w, w < u → T (28 + 6 * (j + h) + w) = r2 (28 + 6 * (SL.flatMap (kBr s.o)).getD h 0 + w)) → kfr a f3 f4 (fun j => j = 171) → ky_ok adK 285 168 [some (.ref (a 170)), some (.int X), some (.int (nI b)), some (.int (nI (kCl s.o j).length)), some (.int oth), some (.int (nI (kEj s.o j - j))), some (.int (nI h)), some (.int (nI u)), v8] [] f4 0 0 Q := by
        intro d
        induction d with
        | zero => intro h u f4 T v8 hd; omega
        | succ d ih =>
          intro h u f4 T v8 hd hu hh h171 hx hy hyu hF4
          have hMo4 := kMo_fq hMo3 hF4 (by omega)
          have h184'' : f4 (a 184) = some (.inl (1, 360, .inl B3)) := (hF4 184 (by omega)).trans h184'
          have mh4 := hMo4
          unfold kMo at mh4
          by_cases hu6 : u < 6
          · have hBv := hB3 h u hh hu6
            have hi := ih h (u + 1) (ky_up f4 (a 171) (.inl (1, 388, .inl (upd T (28 + 6 * (j + h) + u) (r2 (28 + 6 * (SL.flatMap (kBr s.o)).getD h 0 + u)))))) _ v8 (by omega) (by omega) hh kz_same (fun t ht => by rw [pk_un (by omega)]; exact hx t ht) (fun i w hi hw => by rw [pk_un (by omega)]; exact hy i w hi hw) (fun w hw => by
              by_cases e : w = u
              · subst e; rw [pk_us]
              · rw [pk_un (by omega)]; exact hyu w (by omega)) (kfr_up ha hF4 rfl)
            repeat' (first | ((refine kx174 hMo4 h171 (show j + h < 60 by omega) hu6 ?_; simp only [ky_aft, ky_vl, Nat.reduceAdd])) | (exact hi) | (refine ky_ok_stp rfl ?_; simp (disch := first | omega | assumption) only [ky_stp, ky_inv, ky_ldi, ky_ldl, ky_ldd, ky_lda, ky_cl2, ky_st1, ky_st2, ky_s1i, ky_s2i, ky_s1l, ky_s2l, ky_sli, ky_s1f, ky_s2f, ky_s1d, ky_s2d, ky_sr, ky_sai, ky_sasi, ky_sasl, ky_sasr, ky_svr, ky_sv, ky_sv2, ky_s1, ky_cs, ky_pop, ky_nth, ky_snt, ky_obj, ky_ari, ky_arl, ky_arr, ky_arn, ky_fv, ky_rcv, List.map_cons, List.map_nil, List.drop_succ_cons, List.drop_zero, Value.category, Nat.reduceAdd, Nat.reduceSub, true_and, and_true, true_or, or_true, reduceCtorEq, ite_true, ite_false, eq_self, Nat.reduceEqDiff, Nat.reduceLeDiff, nI_add, nI_1, nI_leI, nI_ltI, nI_eq, nI_clamp, kz_m1, kz_mn, kz_mn2, kz_n0, kz_0n, kz_0, kz_le0, kz_0lt, false_implies, true_implies, not_false_eq_true, not_true_eq_false, Nat.zero_le, kb_0, kz_10, kz_of, ky_sw, kz_mx, kz_mi, mh4, hx1, h184'', hBv, e6, nI_mul]) | (refine ⟨vp_in_nI (by omega) (by omega), ?_⟩) | (refine ⟨fun zc => ?_, fun zc => ?_⟩ <;> try (exfalso; omega)) | fail)
          · obtain rfl : u = 6 := by omega
            have hy' : ∀ i w, i < h + 1 → w < 6 → T (28 + 6 * (j + i) + w) = r2 (28 + 6 * (SL.flatMap (kBr s.o)).getD i 0 + w) := fun i w hi hw => by
              by_cases e : i = h
              · subst e; exact hyu w hw
              · exact hy i w (by omega) hw
            by_cases hh1 : h + 1 < kEj s.o j - j
            · have hi := ih (h + 1) 0 f4 T v8 (by omega) (by omega) hh1 h171 hx hy' (fun w hw => absurd hw (Nat.not_lt_zero w)) hF4
              repeat' (first | (exact hi) | (refine ky_ok_stp rfl ?_; simp (disch := first | omega | assumption) only [ky_stp, ky_inv, ky_ldi, ky_ldl, ky_ldd, ky_lda, ky_cl2, ky_st1, ky_st2, ky_s1i, ky_s2i, ky_s1l, ky_s2l, ky_sli, ky_s1f, ky_s2f, ky_s1d, ky_s2d, ky_sr, ky_sai, ky_sasi, ky_sasl, ky_sasr, ky_svr, ky_sv, ky_sv2, ky_s1, ky_cs, ky_pop, ky_nth, ky_snt, ky_obj, ky_ari, ky_arl, ky_arr, ky_arn, ky_fv, ky_rcv, List.map_cons, List.map_nil, List.drop_succ_cons, List.drop_zero, Value.category, Nat.reduceAdd, Nat.reduceSub, true_and, and_true, true_or, or_true, reduceCtorEq, ite_true, ite_false, eq_self, Nat.reduceEqDiff, Nat.reduceLeDiff, nI_add, nI_1, nI_leI, nI_ltI, nI_eq, nI_clamp, kz_m1, kz_mn, kz_mn2, kz_n0, kz_0n, kz_0, kz_le0, kz_0lt, false_implies, true_implies, not_false_eq_true, not_true_eq_false, Nat.zero_le, kb_0, kz_10, kz_of, ky_sw, kz_mx, kz_mi, e6]) | (refine ⟨vp_in_nI (by omega) (by omega), ?_⟩) | (refine ⟨fun zc => ?_, fun zc => ?_⟩ <;> try (exfalso; omega)) | fail)
            · have hf := fin f4 T (some (.int (nI (h + 1)))) (some (.int (nI 6))) v8 h171 hx (fun i w hi hw => hy' i w (by omega) hw) hF4 (by rw [show h + 1 = kEj s.o j - j by omega])
              repeat' (first | (exact hf) | (refine ky_ok_stp rfl ?_; simp (disch := first | omega | assumption) only [ky_stp, ky_inv, ky_ldi, ky_ldl, ky_ldd, ky_lda, ky_cl2, ky_st1, ky_st2, ky_s1i, ky_s2i, ky_s1l, ky_s2l, ky_sli, ky_s1f, ky_s2f, ky_s1d, ky_s2d, ky_sr, ky_sai, ky_sasi, ky_sasl, ky_sasr, ky_svr, ky_sv, ky_sv2, ky_s1, ky_cs, ky_pop, ky_nth, ky_snt, ky_obj, ky_ari, ky_arl, ky_arr, ky_arn, ky_fv, ky_rcv, List.map_cons, List.map_nil, List.drop_succ_cons, List.drop_zero, Value.category, Nat.reduceAdd, Nat.reduceSub, true_and, and_true, true_or, or_true, reduceCtorEq, ite_true, ite_false, eq_self, Nat.reduceEqDiff, Nat.reduceLeDiff, nI_add, nI_1, nI_leI, nI_ltI, nI_eq, nI_clamp, kz_m1, kz_mn, kz_mn2, kz_n0, kz_0n, kz_0, kz_le0, kz_0lt, false_implies, true_implies, not_false_eq_true, not_true_eq_false, Nat.zero_le, kb_0, kz_10, kz_of, ky_sw, kz_mx, kz_mi, e6]) | (refine ⟨vp_in_nI (by omega) (by omega), ?_⟩) | (refine ⟨fun zc => ?_, fun zc => ?_⟩ <;> try (exfalso; omega)) | fail)
      by_cases h0 : 0 < kEj s.o j - j
      · have hl := fun v8 => lp _ 0 0 f3 r2 v8 (Nat.le_refl _) (by omega) h0 hr3 (fun _ _ => rfl) (fun i w hi => absurd hi (Nat.not_lt_zero i)) (fun w hw => absurd hw (Nat.not_lt_zero w)) kfr_rf
        repeat' (first | (exact hl _) | (refine ky_ok_stp rfl ?_; simp (disch := first | omega | assumption) only [ky_stp, ky_inv, ky_ldi, ky_ldl, ky_ldd, ky_lda, ky_cl2, ky_st1, ky_st2, ky_s1i, ky_s2i, ky_s1l, ky_s2l, ky_sli, ky_s1f, ky_s2f, ky_s1d, ky_s2d, ky_sr, ky_sai, ky_sasi, ky_sasl, ky_sasr, ky_svr, ky_sv, ky_sv2, ky_s1, ky_cs, ky_pop, ky_nth, ky_snt, ky_obj, ky_ari, ky_arl, ky_arr, ky_arn, ky_fv, ky_rcv, List.map_cons, List.map_nil, List.drop_succ_cons, List.drop_zero, Value.category, Nat.reduceAdd, Nat.reduceSub, true_and, and_true, true_or, or_true, reduceCtorEq, ite_true, ite_false, eq_self, Nat.reduceEqDiff, Nat.reduceLeDiff, nI_add, nI_1, nI_leI, nI_ltI, nI_eq, nI_clamp, kz_m1, kz_mn, kz_mn2, kz_n0, kz_0n, kz_0, kz_le0, kz_0lt, false_implies, true_implies, not_false_eq_true, not_true_eq_false, Nat.zero_le, kb_0, kz_10, kz_of, ky_sw, kz_mx, kz_mi, kz_0, show ¬ kEj s.o j - j ≤ 0 by omega]) | (refine ⟨vp_in_nI (by omega) (by omega), ?_⟩) | (refine ⟨fun zc => ?_, fun zc => ?_⟩ <;> try (exfalso; omega)) | fail)
      · have hf := fun v7 v8 => fin f3 r2 (some (.int (nI 0))) v7 v8 hr3 (fun _ _ => rfl) (fun i w hi => by omega) kfr_rf (by rw [show kEj s.o j - j = 0 by omega])
        repeat' (first | (exact hf _ _) | (refine ky_ok_stp rfl ?_; simp (disch := first | omega | assumption) only [ky_stp, ky_inv, ky_ldi, ky_ldl, ky_ldd, ky_lda, ky_cl2, ky_st1, ky_st2, ky_s1i, ky_s2i, ky_s1l, ky_s2l, ky_sli, ky_s1f, ky_s2f, ky_s1d, ky_s2d, ky_sr, ky_sai, ky_sasi, ky_sasl, ky_sasr, ky_svr, ky_sv, ky_sv2, ky_s1, ky_cs, ky_pop, ky_nth, ky_snt, ky_obj, ky_ari, ky_arl, ky_arr, ky_arn, ky_fv, ky_rcv, List.map_cons, List.map_nil, List.drop_succ_cons, List.drop_zero, Value.category, Nat.reduceAdd, Nat.reduceSub, true_and, and_true, true_or, or_true, reduceCtorEq, ite_true, ite_false, eq_self, Nat.reduceEqDiff, Nat.reduceLeDiff, nI_add, nI_1, nI_leI, nI_ltI, nI_eq, nI_clamp, kz_m1, kz_mn, kz_mn2, kz_n0, kz_0n, kz_0, kz_le0, kz_0lt, false_implies, true_implies, not_false_eq_true, not_true_eq_false, Nat.zero_le, kb_0, kz_10, kz_of, ky_sw, kz_mx, kz_mi]) | (refine ⟨vp_in_nI (by omega) (by omega), ?_⟩) | (refine ⟨fun zc => ?_, fun zc => ?_⟩ <;> try (exfalso; omega)) | fail)
    have hBl : ∀ x, (kBr s.o x).length = kEnd s.o x - x := fun x => by unfold kBr; exact kRa_len _ _
    have lpk : ∀ m k f3 B3 v7 v8, k + m = (kCl s.o j).length → f3 (a 184) = some (.inl (1, 360, .inl B3)) → (∀ i w, i < ((SL.take k).flatMap (kBr s.o)).length → w < 6 → B3 (6 * i + w) = r2 (28 + 6 * (SL.flatMap (kBr s.o)).getD i 0 + w)) → kfr a f2 f3 (fun j => j = 184) → ky_ok adK 285 72 [some (.ref (a 170)), some (.int X), some (.int (nI b)), some (.int (nI (kCl s.o j).length)), some (.int oth), some (.int (nI ((SL.take k).flatMap (kBr s.o)).length)), some (.int (nI k)), v7, v8] [] f3 0 0 Q := by
      intro m
      induction m with
      | zero =>
        intro k f3 B3 v7 v8 hk h184' hB3 hF3
        obtain rfl : k = (kCl s.o j).length := by omega
        have e1 : SL.take (kCl s.o j).length = SL := List.take_of_length_le (by omega)
        rw [e1, F1] at hB3
        rw [e1, F1]
        have hb := back f3 B3 (some (.int (nI (kCl s.o j).length))) v7 v8 h184' hB3 hF3
        repeat' (first | (exact hb) | (refine ky_ok_stp rfl ?_; simp (disch := first | omega | assumption) only [ky_stp, ky_inv, ky_ldi, ky_ldl, ky_ldd, ky_lda, ky_cl2, ky_st1, ky_st2, ky_s1i, ky_s2i, ky_s1l, ky_s2l, ky_sli, ky_s1f, ky_s2f, ky_s1d, ky_s2d, ky_sr, ky_sai, ky_sasi, ky_sasl, ky_sasr, ky_svr, ky_sv, ky_sv2, ky_s1, ky_cs, ky_pop, ky_nth, ky_snt, ky_obj, ky_ari, ky_arl, ky_arr, ky_arn, ky_fv, ky_rcv, List.map_cons, List.map_nil, List.drop_succ_cons, List.drop_zero, Value.category, Nat.reduceAdd, Nat.reduceSub, true_and, and_true, true_or, or_true, reduceCtorEq, ite_true, ite_false, eq_self, Nat.reduceEqDiff, Nat.reduceLeDiff, nI_add, nI_1, nI_leI, nI_ltI, nI_eq, nI_clamp, kz_m1, kz_mn, kz_mn2, kz_n0, kz_0n, kz_0, kz_le0, kz_0lt, false_implies, true_implies, not_false_eq_true, not_true_eq_false, Nat.zero_le, kb_0, kz_10, kz_of, ky_sw, kz_mx, kz_mi]) | (refine ⟨vp_in_nI (by omega) (by omega), ?_⟩) | (refine ⟨fun zc => ?_, fun zc => ?_⟩ <;> try (exfalso; omega)) | fail)
      | succ m ih =>
        intro k f3 B3 v7 v8 hk h184' hB3 hF3
        have hkn : k < SL.length := by omega
        obtain ⟨s1, s2⟩ := kF_s (G := kBr s.o) SL k hkn
        have hxn := hlt k (by omega)
        have hOk : O k = nI (SL.getD k 0) := hO k (by omega)
        have hlF : ((SL.take (k + 1)).flatMap (kBr s.o)).length ≤ 60 := by
          have e : SL.flatMap (kBr s.o) = (SL.take (k + 1)).flatMap (kBr s.o) ++ (SL.drop (k + 1)).flatMap (kBr s.o) := by
            rw [← List.flatMap_append, List.take_append_drop]
          have := congrArg List.length e
          rw [List.length_append, F1] at this
          omega
        rw [hBl] at s1 s2
        generalize SL.getD k 0 = x at s1 s2 hxn hOk
        generalize ((SL.take k).flatMap (kBr s.o)).length = t0 at s1 s2 hB3
        have hEx := kEnd_le hxn
        have lph : ∀ m h f4 B4 v8, h + m = kEnd s.o x → x ≤ h → f4 (a 184) = some (.inl (1, 360, .inl B4)) → (∀ i w, i < t0 + (h - x) → w < 6 → B4 (6 * i + w) = r2 (28 + 6 * (SL.flatMap (kBr s.o)).getD i 0 + w)) → kfr a f2 f4 (fun j => j = 184) → ky_ok adK 285 87 [some (.ref (a 170)), some (.int X), some (.int (nI b)), some (.int (nI (kCl s.o j).length)), some (.int oth), some (.int (nI (t0 + (h - x)))), some (.int (nI k)), some (.int (nI h)), v8] [] f4 0 0 Q := by
          intro m'
          induction m' with
          | zero =>
            intro h f4 B4 v8 hh hxh h184'' hB4 hF4
            obtain rfl : h = kEnd s.o x := by omega
            have hMo4 := kMo_fq hMo2 hF4 (by omega)
            have hr4 : f4 (a 171) = some (.inl (1, 388, .inl r2)) := (hF4 171 (by omega)).trans hr2
            have h185'' : f4 (a 185) = some (.inl (1, 60, .inl O)) := (hF4 185 (by omega)).trans h185'
            have mh4 := hMo4
            unfold kMo at mh4
            have hE' : kE (kL s.o.R) (kL s.o.R x) (x + 1) (s.o.n - (x + 1)) = kEnd s.o x := rfl
            rw [← s1] at hB4
            have hi := ih (k + 1) f4 B4 (some (.int (nI (kEnd s.o x)))) v8 (by omega) h184'' hB4 hF4
            rw [s1] at hi
            repeat' (first | (refine kx177 hMo4 hr4 hL2 hxn ?_; simp only [ky_aft, ky_vl, Nat.reduceAdd]) | (exact hi) | (refine ky_ok_stp rfl ?_; simp (disch := first | omega | assumption) only [ky_stp, ky_inv, ky_ldi, ky_ldl, ky_ldd, ky_lda, ky_cl2, ky_st1, ky_st2, ky_s1i, ky_s2i, ky_s1l, ky_s2l, ky_sli, ky_s1f, ky_s2f, ky_s1d, ky_s2d, ky_sr, ky_sai, ky_sasi, ky_sasl, ky_sasr, ky_svr, ky_sv, ky_sv2, ky_s1, ky_cs, ky_pop, ky_nth, ky_snt, ky_obj, ky_ari, ky_arl, ky_arr, ky_arn, ky_fv, ky_rcv, List.map_cons, List.map_nil, List.drop_succ_cons, List.drop_zero, Value.category, Nat.reduceAdd, Nat.reduceSub, true_and, and_true, true_or, or_true, reduceCtorEq, ite_true, ite_false, eq_self, Nat.reduceEqDiff, Nat.reduceLeDiff, nI_add, nI_1, nI_leI, nI_ltI, nI_eq, nI_clamp, kz_m1, kz_mn, kz_mn2, kz_n0, kz_0n, kz_0, kz_le0, kz_0lt, false_implies, true_implies, not_false_eq_true, not_true_eq_false, Nat.zero_le, kb_0, kz_10, kz_of, ky_sw, kz_mx, kz_mi, mh4, h185'', hOk, hE']) | (refine ⟨vp_in_nI (by omega) (by omega), ?_⟩) | (refine ⟨fun zc => ?_, fun zc => ?_⟩ <;> try (exfalso; omega)) | fail)
          | succ m' ih' =>
            intro h f4 B4 v8 hh hxh h184'' hB4 hF4
            have hMo4 := kMo_fq hMo2 hF4 (by omega)
            have hr4 : f4 (a 171) = some (.inl (1, 388, .inl r2)) := (hF4 171 (by omega)).trans hr2
            have h185'' : f4 (a 185) = some (.inl (1, 60, .inl O)) := (hF4 185 (by omega)).trans h185'
            have mh4 := hMo4
            unfold kMo at mh4
            have hE' : kE (kL s.o.R) (kL s.o.R x) (x + 1) (s.o.n - (x + 1)) = kEnd s.o x := rfl
            have hFt : (SL.flatMap (kBr s.o)).getD (t0 + (h - x)) 0 = h := by
              rw [s2 (h - x) (by omega)]
              unfold kBr
              rw [kRa_get (by omega)]
              omega
            have hadd : t0 + (h - x) + 1 = t0 + (h + 1 - x) := by omega
            have lpw : ∀ m u f5 B5, u + m = 6 → f5 (a 184) = some (.inl (1, 360, .inl B5)) → (∀ i w, i < t0 + (h - x) → w < 6 → B5 (6 * i + w) = r2 (28 + 6 * (SL.flatMap (kBr s.o)).getD i 0 + w)) → (∀ w, w < u → B5 (6 * (t0 + (h - x)) + w) = r2 (28 + 6 * h + w)) → kfr a f2 f5 (fun j => j = 184) → ky_ok adK 285 106 [some (.ref (a 170)), some (.int X), some (.int (nI b)), some (.int (nI (kCl s.o j).length)), some (.int oth), some (.int (nI (t0 + (h - x)))), some (.int (nI k)), some (.int (nI h)), some (.int (nI u))] [] f5 0 0 Q := by
              intro m2
              induction m2 with
              | zero =>
                intro u f5 B5 hu h5 hB5 hBu hF5
                obtain rfl : u = 6 := by omega
                have hi := ih' (h + 1) f5 B5 (some (.int (nI 6))) (by omega) (by omega) h5 (fun i w hi hw => by
                  by_cases e : i = t0 + (h - x)
                  · subst e
                    rw [hBu w hw, hFt]
                  · exact hB5 i w (by omega) hw) hF5
                rw [← hadd] at hi
                repeat' (first | (exact hi) | (refine ky_ok_stp rfl ?_; simp (disch := first | omega | assumption) only [ky_stp, ky_inv, ky_ldi, ky_ldl, ky_ldd, ky_lda, ky_cl2, ky_st1, ky_st2, ky_s1i, ky_s2i, ky_s1l, ky_s2l, ky_sli, ky_s1f, ky_s2f, ky_s1d, ky_s2d, ky_sr, ky_sai, ky_sasi, ky_sasl, ky_sasr, ky_svr, ky_sv, ky_sv2, ky_s1, ky_cs, ky_pop, ky_nth, ky_snt, ky_obj, ky_ari, ky_arl, ky_arr, ky_arn, ky_fv, ky_rcv, List.map_cons, List.map_nil, List.drop_succ_cons, List.drop_zero, Value.category, Nat.reduceAdd, Nat.reduceSub, true_and, and_true, true_or, or_true, reduceCtorEq, ite_true, ite_false, eq_self, Nat.reduceEqDiff, Nat.reduceLeDiff, nI_add, nI_1, nI_leI, nI_ltI, nI_eq, nI_clamp, kz_m1, kz_mn, kz_mn2, kz_n0, kz_0n, kz_0, kz_le0, kz_0lt, false_implies, true_implies, not_false_eq_true, not_true_eq_false, Nat.zero_le, kb_0, kz_10, kz_of, ky_sw, kz_mx, kz_mi, e6]) | (refine ⟨vp_in_nI (by omega) (by omega), ?_⟩) | (refine ⟨fun zc => ?_, fun zc => ?_⟩ <;> try (exfalso; omega)) | fail)
              | succ m2 ih2 =>
                intro u f5 B5 hu h5 hB5 hBu hF5
                have hMo5 := kMo_fq hMo2 hF5 (by omega)
                have hr5 : f5 (a 171) = some (.inl (1, 388, .inl r2)) := (hF5 171 (by omega)).trans hr2
                have mh5 := hMo5
                unfold kMo at mh5
                have hi := ih2 (u + 1) (ky_up f5 (a 184) (.inl (1, 360, .inl (upd B5 (6 * (t0 + (h - x)) + u) (r2 (28 + 6 * h + u)))))) _ (by omega) kz_same (fun i w hi hw => by rw [pk_un (by omega)]; exact hB5 i w hi hw) (fun w hw => by
                  by_cases e : w = u
                  · subst e; rw [pk_us]
                  · rw [pk_un (by omega)]; exact hBu w (by omega)) (kfr_up ha hF5 rfl)
                repeat' (first | (refine kx173 hMo5 hr5 (show h < 60 by omega) (show u < 6 by omega) ?_; simp only [ky_aft, ky_vl, Nat.reduceAdd]) | (exact hi) | (refine ky_ok_stp rfl ?_; simp (disch := first | omega | assumption) only [ky_stp, ky_inv, ky_ldi, ky_ldl, ky_ldd, ky_lda, ky_cl2, ky_st1, ky_st2, ky_s1i, ky_s2i, ky_s1l, ky_s2l, ky_sli, ky_s1f, ky_s2f, ky_s1d, ky_s2d, ky_sr, ky_sai, ky_sasi, ky_sasl, ky_sasr, ky_svr, ky_sv, ky_sv2, ky_s1, ky_cs, ky_pop, ky_nth, ky_snt, ky_obj, ky_ari, ky_arl, ky_arr, ky_arn, ky_fv, ky_rcv, List.map_cons, List.map_nil, List.drop_succ_cons, List.drop_zero, Value.category, Nat.reduceAdd, Nat.reduceSub, true_and, and_true, true_or, or_true, reduceCtorEq, ite_true, ite_false, eq_self, Nat.reduceEqDiff, Nat.reduceLeDiff, nI_add, nI_1, nI_leI, nI_ltI, nI_eq, nI_clamp, kz_m1, kz_mn, kz_mn2, kz_n0, kz_0n, kz_0, kz_le0, kz_0lt, false_implies, true_implies, not_false_eq_true, not_true_eq_false, Nat.zero_le, kb_0, kz_10, kz_of, ky_sw, kz_mx, kz_mi, mh5, h5, e6, nI_mul]) | (refine ⟨vp_in_nI (by omega) (by omega), ?_⟩) | (refine ⟨fun zc => ?_, fun zc => ?_⟩ <;> try (exfalso; omega)) | fail)
            have hl := lpw 6 0 f4 B4 (by omega) h184'' hB4 (fun w hw => absurd hw (Nat.not_lt_zero w)) hF4
            repeat' (first | (refine kx177 hMo4 hr4 hL2 hxn ?_; simp only [ky_aft, ky_vl, Nat.reduceAdd]) | (exact hl) | (refine ky_ok_stp rfl ?_; simp (disch := first | omega | assumption) only [ky_stp, ky_inv, ky_ldi, ky_ldl, ky_ldd, ky_lda, ky_cl2, ky_st1, ky_st2, ky_s1i, ky_s2i, ky_s1l, ky_s2l, ky_sli, ky_s1f, ky_s2f, ky_s1d, ky_s2d, ky_sr, ky_sai, ky_sasi, ky_sasl, ky_sasr, ky_svr, ky_sv, ky_sv2, ky_s1, ky_cs, ky_pop, ky_nth, ky_snt, ky_obj, ky_ari, ky_arl, ky_arr, ky_arn, ky_fv, ky_rcv, List.map_cons, List.map_nil, List.drop_succ_cons, List.drop_zero, Value.category, Nat.reduceAdd, Nat.reduceSub, true_and, and_true, true_or, or_true, reduceCtorEq, ite_true, ite_false, eq_self, Nat.reduceEqDiff, Nat.reduceLeDiff, nI_add, nI_1, nI_leI, nI_ltI, nI_eq, nI_clamp, kz_m1, kz_mn, kz_mn2, kz_n0, kz_0n, kz_0, kz_le0, kz_0lt, false_implies, true_implies, not_false_eq_true, not_true_eq_false, Nat.zero_le, kb_0, kz_10, kz_of, ky_sw, kz_mx, kz_mi, mh4, h185'', hOk, hE']) | (refine ⟨vp_in_nI (by omega) (by omega), ?_⟩) | (refine ⟨fun zc => ?_, fun zc => ?_⟩ <;> try (exfalso; omega)) | fail)
        have hMo3 := kMo_fq hMo2 hF3 (by omega)
        have h185'' : f3 (a 185) = some (.inl (1, 60, .inl O)) := (hF3 185 (by omega)).trans h185'
        have mh3 := hMo3
        unfold kMo at mh3
        have hl := fun v8 => lph (kEnd s.o x - x) x f3 B3 v8 (by omega) (Nat.le_refl _) h184' (by rw [Nat.sub_self]; exact hB3) hF3
        rw [Nat.sub_self, Nat.add_zero] at hl
        repeat' (first | (exact hl _) | (refine ky_ok_stp rfl ?_; simp (disch := first | omega | assumption) only [ky_stp, ky_inv, ky_ldi, ky_ldl, ky_ldd, ky_lda, ky_cl2, ky_st1, ky_st2, ky_s1i, ky_s2i, ky_s1l, ky_s2l, ky_sli, ky_s1f, ky_s2f, ky_s1d, ky_s2d, ky_sr, ky_sai, ky_sasi, ky_sasl, ky_sasr, ky_svr, ky_sv, ky_sv2, ky_s1, ky_cs, ky_pop, ky_nth, ky_snt, ky_obj, ky_ari, ky_arl, ky_arr, ky_arn, ky_fv, ky_rcv, List.map_cons, List.map_nil, List.drop_succ_cons, List.drop_zero, Value.category, Nat.reduceAdd, Nat.reduceSub, true_and, and_true, true_or, or_true, reduceCtorEq, ite_true, ite_false, eq_self, Nat.reduceEqDiff, Nat.reduceLeDiff, nI_add, nI_1, nI_leI, nI_ltI, nI_eq, nI_clamp, kz_m1, kz_mn, kz_mn2, kz_n0, kz_0n, kz_0, kz_le0, kz_0lt, false_implies, true_implies, not_false_eq_true, not_true_eq_false, Nat.zero_le, kb_0, kz_10, kz_of, ky_sw, kz_mx, kz_mi, mh3, h185'', hOk]) | (refine ⟨vp_in_nI (by omega) (by omega), ?_⟩) | (refine ⟨fun zc => ?_, fun zc => ?_⟩ <;> try (exfalso; omega)) | fail)
    have hl := fun v7 v8 => lpk (kCl s.o j).length 0 f2 B0 v7 v8 (by omega) h184 (fun i w hi => absurd hi (Nat.not_lt_zero i)) kfr_rf
    repeat' (first | (exact hl _ _) | (refine ky_ok_stp rfl ?_; simp (disch := first | omega | assumption) only [ky_stp, ky_inv, ky_ldi, ky_ldl, ky_ldd, ky_lda, ky_cl2, ky_st1, ky_st2, ky_s1i, ky_s2i, ky_s1l, ky_s2l, ky_sli, ky_s1f, ky_s2f, ky_s1d, ky_s2d, ky_sr, ky_sai, ky_sasi, ky_sasl, ky_sasr, ky_svr, ky_sv, ky_sv2, ky_s1, ky_cs, ky_pop, ky_nth, ky_snt, ky_obj, ky_ari, ky_arl, ky_arr, ky_arn, ky_fv, ky_rcv, List.map_cons, List.map_nil, List.drop_succ_cons, List.drop_zero, Value.category, Nat.reduceAdd, Nat.reduceSub, true_and, and_true, true_or, or_true, reduceCtorEq, ite_true, ite_false, eq_self, Nat.reduceEqDiff, Nat.reduceLeDiff, nI_add, nI_1, nI_leI, nI_ltI, nI_eq, nI_clamp, kz_m1, kz_mn, kz_mn2, kz_n0, kz_0n, kz_0, kz_le0, kz_0lt, false_implies, true_implies, not_false_eq_true, not_true_eq_false, Nat.zero_le, kb_0, kz_10, kz_of, ky_sw, kz_mx, kz_mi]) | (refine ⟨vp_in_nI (by omega) (by omega), ?_⟩) | (refine ⟨fun zc => ?_, fun zc => ?_⟩ <;> try (exfalso; omega)) | fail)
  have cnt : ∀ m k v7 v8, k + m = (kCl s.o j).length → ky_ok adK 285 24 [some (.ref (a 170)), some (.int X), some (.int (nI b)), some (.int (nI (kCl s.o j).length)), some (.int (nI (kCt (fun i => SL.getD i 0 ≠ (kCl s.o j).getD i 0) k))), some (.int (nI k)), none, v7, v8] [] f1 0 0 Q := by
    intro m
    induction m with
    | zero =>
      intro k v7 v8 hk
      obtain rfl : k = (kCl s.o j).length := by omega
      repeat' (first | (refine kx264 hM1 hz ?_) | (refine ky_ok_stp rfl ?_; simp (disch := first | omega | assumption) only [ky_stp, ky_inv, ky_ldi, ky_ldl, ky_ldd, ky_lda, ky_cl2, ky_st1, ky_st2, ky_s1i, ky_s2i, ky_s1l, ky_s2l, ky_sli, ky_s1f, ky_s2f, ky_s1d, ky_s2d, ky_sr, ky_sai, ky_sasi, ky_sasl, ky_sasr, ky_svr, ky_sv, ky_sv2, ky_s1, ky_cs, ky_pop, ky_nth, ky_snt, ky_obj, ky_ari, ky_arl, ky_arr, ky_arn, ky_fv, ky_rcv, List.map_cons, List.map_nil, List.drop_succ_cons, List.drop_zero, Value.category, Nat.reduceAdd, Nat.reduceSub, true_and, and_true, true_or, or_true, reduceCtorEq, ite_true, ite_false, eq_self, Nat.reduceEqDiff, Nat.reduceLeDiff, nI_add, nI_1, nI_leI, nI_ltI, nI_eq, nI_clamp, kz_m1, kz_mn, kz_mn2, kz_n0, kz_0n, kz_0, kz_le0, kz_0lt, false_implies, true_implies, not_false_eq_true, not_true_eq_false, Nat.zero_le, kb_0, kz_10, kz_of, ky_sw, kz_mx, kz_mi, mh1]) | (refine ⟨vp_in_nI (by omega) (by omega), ?_⟩) | (refine ⟨fun zc => ?_, fun zc => ?_⟩ <;> try (exfalso; omega)) | fail)
      intro f2 g2 w1 w2 w3
      (try simp only [ky_aft, ky_vl, Nat.reduceAdd])
      exact main f2 g2 _ v7 v8 w1 w2 w3 rfl
    | succ m ih =>
      intro k v7 v8 hk
      have hL1 := kRw_l ho hR
      have hkl : k < (kCl s.o j).length := by omega
      obtain ⟨i, hi, ei⟩ := hsm k hkl
      have hOk : O k = nI (SL.getD k 0) := hO k hkl
      have hxn := hlt k hkl
      have hle := kCt_le (fun i => SL.getD i 0 ≠ (kCl s.o j).getD i 0) k
      have hsb : kSb (kL s.o.R) (kL s.o.R (SL.getD k 0)) (SL.getD k 0) 0 = i := by rw [ei]; exact kSb_cl ho hj hi
      have hih := ih (k + 1) v7 v8 (by omega)
      by_cases e : SL.getD k 0 = (kCl s.o j).getD k 0
      · have eik : i = k := by
          have := kSb_cl ho hj hkl
          rw [← e, hsb] at this
          exact this
        rw [kCt_s0 (p := fun i => SL.getD i 0 ≠ (kCl s.o j).getD i 0) (fun w => w e)] at hih
        repeat' (first | (refine kx181 hMo1 hr1 hL1 hxn ?_; simp only [ky_aft, ky_vl, Nat.reduceAdd]) | (exact hih) | (refine ky_ok_stp rfl ?_; simp (disch := first | omega | assumption) only [ky_stp, ky_inv, ky_ldi, ky_ldl, ky_ldd, ky_lda, ky_cl2, ky_st1, ky_st2, ky_s1i, ky_s2i, ky_s1l, ky_s2l, ky_sli, ky_s1f, ky_s2f, ky_s1d, ky_s2d, ky_sr, ky_sai, ky_sasi, ky_sasl, ky_sasr, ky_svr, ky_sv, ky_sv2, ky_s1, ky_cs, ky_pop, ky_nth, ky_snt, ky_obj, ky_ari, ky_arl, ky_arr, ky_arn, ky_fv, ky_rcv, List.map_cons, List.map_nil, List.drop_succ_cons, List.drop_zero, Value.category, Nat.reduceAdd, Nat.reduceSub, true_and, and_true, true_or, or_true, reduceCtorEq, ite_true, ite_false, eq_self, Nat.reduceEqDiff, Nat.reduceLeDiff, nI_add, nI_1, nI_leI, nI_ltI, nI_eq, nI_clamp, kz_m1, kz_mn, kz_mn2, kz_n0, kz_0n, kz_0, kz_le0, kz_0lt, false_implies, true_implies, not_false_eq_true, not_true_eq_false, Nat.zero_le, kb_0, kz_10, kz_of, ky_sw, kz_mx, kz_mi, mh1, h185, hOk, hsb, eik, Int32.add_zero]) | (refine ⟨vp_in_nI (by omega) (by omega), ?_⟩) | (refine ⟨fun zc => ?_, fun zc => ?_⟩ <;> try (exfalso; omega)) | fail)
      · have eik : ¬ i = k := fun w => e (by rw [ei, w])
        rw [kCt_s1 (p := fun i => SL.getD i 0 ≠ (kCl s.o j).getD i 0) e] at hih
        repeat' (first | (refine kx181 hMo1 hr1 hL1 hxn ?_; simp only [ky_aft, ky_vl, Nat.reduceAdd]) | (exact hih) | (refine ky_ok_stp rfl ?_; simp (disch := first | omega | assumption) only [ky_stp, ky_inv, ky_ldi, ky_ldl, ky_ldd, ky_lda, ky_cl2, ky_st1, ky_st2, ky_s1i, ky_s2i, ky_s1l, ky_s2l, ky_sli, ky_s1f, ky_s2f, ky_s1d, ky_s2d, ky_sr, ky_sai, ky_sasi, ky_sasl, ky_sasr, ky_svr, ky_sv, ky_sv2, ky_s1, ky_cs, ky_pop, ky_nth, ky_snt, ky_obj, ky_ari, ky_arl, ky_arr, ky_arn, ky_fv, ky_rcv, List.map_cons, List.map_nil, List.drop_succ_cons, List.drop_zero, Value.category, Nat.reduceAdd, Nat.reduceSub, true_and, and_true, true_or, or_true, reduceCtorEq, ite_true, ite_false, eq_self, Nat.reduceEqDiff, Nat.reduceLeDiff, nI_add, nI_1, nI_leI, nI_ltI, nI_eq, nI_clamp, kz_m1, kz_mn, kz_mn2, kz_n0, kz_0n, kz_0, kz_le0, kz_0lt, false_implies, true_implies, not_false_eq_true, not_true_eq_false, Nat.zero_le, kb_0, kz_10, kz_of, ky_sw, kz_mx, kz_mi, mh1, h185, hOk, hsb, eq_false eik]) | (refine ⟨vp_in_nI (by omega) (by omega), ?_⟩) | (refine ⟨fun zc => ?_, fun zc => ?_⟩ <;> try (exfalso; omega)) | fail)
  have hl := fun v7 v8 => cnt (kCl s.o j).length 0 v7 v8 (by omega)
  repeat' (first | (exact hl _ _) | (refine ky_ok_stp rfl ?_; simp (disch := first | omega | assumption) only [ky_stp, ky_inv, ky_ldi, ky_ldl, ky_ldd, ky_lda, ky_cl2, ky_st1, ky_st2, ky_s1i, ky_s2i, ky_s1l, ky_s2l, ky_sli, ky_s1f, ky_s2f, ky_s1d, ky_s2d, ky_sr, ky_sai, ky_sasi, ky_sasl, ky_sasr, ky_svr, ky_sv, ky_sv2, ky_s1, ky_cs, ky_pop, ky_nth, ky_snt, ky_obj, ky_ari, ky_arl, ky_arr, ky_arn, ky_fv, ky_rcv, List.map_cons, List.map_nil, List.drop_succ_cons, List.drop_zero, Value.category, Nat.reduceAdd, Nat.reduceSub, true_and, and_true, true_or, or_true, reduceCtorEq, ite_true, ite_false, eq_self, Nat.reduceEqDiff, Nat.reduceLeDiff, nI_add, nI_1, nI_leI, nI_ltI, nI_eq, nI_clamp, kz_m1, kz_mn, kz_mn2, kz_n0, kz_0n, kz_0, kz_le0, kz_0lt, false_implies, true_implies, not_false_eq_true, not_true_eq_false, Nat.zero_le, kb_0, kz_10, kz_of, ky_sw, kz_mx, kz_mi, mh1, kz_0, eq_false hl0]) | (refine ⟨vp_in_nI (by omega) (by omega), ?_⟩) | (refine ⟨fun zc => ?_, fun zc => ?_⟩ <;> try (exfalso; omega)) | fail)
theorem kx286 (hM : kM a f g s) (hz : kKz s) {y : Int32} (hy : ∀ j b, j ≤ s.o.n → b ≤ 2 → X = nI j - 1 → y = nI b → kMQ a f (kTs' s j b).2 0 Q (kTs' s j b).1) (h1 : ¬ (kHas s.o.n X ∨ X = -1) → kMQ a f s 1 Q 0) (h2' : (kHas s.o.n X ∨ X = -1) → ¬ kRg 0 2 y → kMQ a f s 2 Q 0) : ky_cl adK 286 [.ref (a 170), .int X, .int y] f Q := by
  have ho := hz.o
  have e2 : (2 : Int32) = nI 2 := rfl
  have rest : ∀ f1 g1, kM a f1 g1 s → g1 0 = 0 → kfr a f f1 kMF → ky_ok adK 286 5 [some (.ref (a 170)), some (.int X), some (.int y)] [] f1 0 0 Q := by
    intro f1 g1 hM1 h10 hF1
    obtain ⟨ha, hMo, ⟨⟨r, hr, hR⟩, hU, hV, hC, hT, hW⟩, h2, h3, h4⟩ := id hM1
    have mh := hMo
    unfold kMo at mh
    have h60 := ho.n60
    have hL := kRw_l ho hR
    by_cases hx : kHas s.o.n X ∨ X = -1
    case neg =>
      have hq := h1 hx
      have hxm : (X = -1) = False := eq_false fun w => hx (.inr w)
      repeat' (first | ((refine kx222 hMo hr h60 hR.1 (fun w => absurd (.inl w) hx) (fun _ => ?_); simp only [ky_aft, ky_vl, Nat.reduceAdd])) | (refine kx170t (p := 1) hM1 h10 (by decide) ?_) | (refine ky_ok_stp rfl ?_; simp (disch := first | omega | assumption) only [ky_stp, ky_inv, ky_ldi, ky_ldl, ky_ldd, ky_lda, ky_cl2, ky_st1, ky_st2, ky_s1i, ky_s2i, ky_s1l, ky_s2l, ky_sli, ky_s1f, ky_s2f, ky_s1d, ky_s2d, ky_sr, ky_sai, ky_sasi, ky_sasl, ky_sasr, ky_svr, ky_sv, ky_sv2, ky_s1, ky_cs, ky_pop, ky_nth, ky_snt, ky_obj, ky_ari, ky_arl, ky_arr, ky_arn, ky_fv, ky_rcv, List.map_cons, List.map_nil, List.drop_succ_cons, List.drop_zero, Value.category, Nat.reduceAdd, Nat.reduceSub, true_and, and_true, true_or, or_true, reduceCtorEq, ite_true, ite_false, eq_self, Nat.reduceEqDiff, Nat.reduceLeDiff, nI_add, nI_1, nI_leI, nI_ltI, nI_eq, nI_clamp, kz_m1, kz_mn, kz_mn2, kz_n0, kz_0n, kz_0, kz_le0, kz_0lt, false_implies, true_implies, not_false_eq_true, not_true_eq_false, Nat.zero_le, kb_0, kz_10, kz_of, ky_sw, kz_mx, kz_mi, mh, hxm]) | (refine ⟨vp_in_nI (by omega) (by omega), ?_⟩) | (refine ⟨fun zc => ?_, fun zc => ?_⟩ <;> try (exfalso; omega)) | fail)
      intro f2 g2 w1 w2 w3
      try simp only [ky_aft, ky_vl, Nat.reduceAdd]
      repeat' (first | (refine ky_ok_stp rfl ?_; simp (disch := first | omega | assumption) only [ky_stp, ky_inv, ky_ldi, ky_ldl, ky_ldd, ky_lda, ky_cl2, ky_st1, ky_st2, ky_s1i, ky_s2i, ky_s1l, ky_s2l, ky_sli, ky_s1f, ky_s2f, ky_s1d, ky_s2d, ky_sr, ky_sai, ky_sasi, ky_sasl, ky_sasr, ky_svr, ky_sv, ky_sv2, ky_s1, ky_cs, ky_pop, ky_nth, ky_snt, ky_obj, ky_ari, ky_arl, ky_arr, ky_arn, ky_fv, ky_rcv, List.map_cons, List.map_nil, List.drop_succ_cons, List.drop_zero, Value.category, Nat.reduceAdd, Nat.reduceSub, true_and, and_true, true_or, or_true, reduceCtorEq, ite_true, ite_false, eq_self, Nat.reduceEqDiff, Nat.reduceLeDiff, nI_add, nI_1, nI_leI, nI_ltI, nI_eq, nI_clamp, kz_m1, kz_mn, kz_mn2, kz_n0, kz_0n, kz_0, kz_le0, kz_0lt, false_implies, true_implies, not_false_eq_true, not_true_eq_false, Nat.zero_le, kb_0, kz_10, kz_of, ky_sw, kz_mx, kz_mi]) | (refine ⟨vp_in_nI (by omega) (by omega), ?_⟩) | (refine ⟨fun zc => ?_, fun zc => ?_⟩ <;> try (exfalso; omega)) | fail)
      (first | exact hq f2 g2 w1 w2 (kfr_tr hF1 w3 fun j hj => ⟨hj, hj⟩) | exact ⟨by decide, hq f2 g2 w1 w2 (kfr_tr hF1 w3 fun j hj => ⟨hj, hj⟩)⟩)
    have st : ky_ok adK 286 31 [some (.ref (a 170)), some (.int X), some (.int y)] [] f1 0 0 Q := by
      by_cases hyy : kRg 0 2 y
      case neg =>
        have hq := h2' hx hyy
        repeat' (first | ((refine kr_inx (lo := 0) (hi := 2) (by decide) (by decide) hyy ?_; simp only [ky_aft, ky_vl, Nat.reduceAdd])) | (refine kx170t (p := 2) hM1 h10 (by decide) ?_) | (refine ky_ok_stp rfl ?_; simp (disch := first | omega | assumption) only [ky_stp, ky_inv, ky_ldi, ky_ldl, ky_ldd, ky_lda, ky_cl2, ky_st1, ky_st2, ky_s1i, ky_s2i, ky_s1l, ky_s2l, ky_sli, ky_s1f, ky_s2f, ky_s1d, ky_s2d, ky_sr, ky_sai, ky_sasi, ky_sasl, ky_sasr, ky_svr, ky_sv, ky_sv2, ky_s1, ky_cs, ky_pop, ky_nth, ky_snt, ky_obj, ky_ari, ky_arl, ky_arr, ky_arn, ky_fv, ky_rcv, List.map_cons, List.map_nil, List.drop_succ_cons, List.drop_zero, Value.category, Nat.reduceAdd, Nat.reduceSub, true_and, and_true, true_or, or_true, reduceCtorEq, ite_true, ite_false, eq_self, Nat.reduceEqDiff, Nat.reduceLeDiff, nI_add, nI_1, nI_leI, nI_ltI, nI_eq, nI_clamp, kz_m1, kz_mn, kz_mn2, kz_n0, kz_0n, kz_0, kz_le0, kz_0lt, false_implies, true_implies, not_false_eq_true, not_true_eq_false, Nat.zero_le, kb_0, kz_10, kz_of, ky_sw, kz_mx, kz_mi, mh, e2]) | (refine ⟨vp_in_nI (by omega) (by omega), ?_⟩) | (refine ⟨fun zc => ?_, fun zc => ?_⟩ <;> try (exfalso; omega)) | fail)
        intro f2 g2 w1 w2 w3
        try simp only [ky_aft, ky_vl, Nat.reduceAdd]
        repeat' (first | (refine ky_ok_stp rfl ?_; simp (disch := first | omega | assumption) only [ky_stp, ky_inv, ky_ldi, ky_ldl, ky_ldd, ky_lda, ky_cl2, ky_st1, ky_st2, ky_s1i, ky_s2i, ky_s1l, ky_s2l, ky_sli, ky_s1f, ky_s2f, ky_s1d, ky_s2d, ky_sr, ky_sai, ky_sasi, ky_sasl, ky_sasr, ky_svr, ky_sv, ky_sv2, ky_s1, ky_cs, ky_pop, ky_nth, ky_snt, ky_obj, ky_ari, ky_arl, ky_arr, ky_arn, ky_fv, ky_rcv, List.map_cons, List.map_nil, List.drop_succ_cons, List.drop_zero, Value.category, Nat.reduceAdd, Nat.reduceSub, true_and, and_true, true_or, or_true, reduceCtorEq, ite_true, ite_false, eq_self, Nat.reduceEqDiff, Nat.reduceLeDiff, nI_add, nI_1, nI_leI, nI_ltI, nI_eq, nI_clamp, kz_m1, kz_mn, kz_mn2, kz_n0, kz_0n, kz_0, kz_le0, kz_0lt, false_implies, true_implies, not_false_eq_true, not_true_eq_false, Nat.zero_le, kb_0, kz_10, kz_of, ky_sw, kz_mx, kz_mi]) | (refine ⟨vp_in_nI (by omega) (by omega), ?_⟩) | (refine ⟨fun zc => ?_, fun zc => ?_⟩ <;> try (exfalso; omega)) | fail)
        (first | exact hq f2 g2 w1 w2 (kfr_tr hF1 w3 fun j hj => ⟨hj, hj⟩) | exact ⟨by decide, hq f2 g2 w1 w2 (kfr_tr hF1 w3 fun j hj => ⟨hj, hj⟩)⟩)
      obtain ⟨j, hj, hxj⟩ := kHas_j.mp hx
      obtain ⟨b, -, hb, rfl⟩ := id hyy
      have hq := kAQ_m (hy j b hj hb hxj rfl) h10 hF1
      repeat' (first | ((refine kr_in (lo := 0) (hi := 2) (by decide) (by decide) hyy ?_; simp only [ky_aft, ky_vl, Nat.reduceAdd])) | (refine kx170n hMo h10 ?_; simp only [ky_aft, ky_vl, Nat.reduceAdd]) | (refine kx285 hM1 hz hj hxj hb ?_) | (refine ky_ok_stp rfl ?_; simp (disch := first | omega | assumption) only [ky_stp, ky_inv, ky_ldi, ky_ldl, ky_ldd, ky_lda, ky_cl2, ky_st1, ky_st2, ky_s1i, ky_s2i, ky_s1l, ky_s2l, ky_sli, ky_s1f, ky_s2f, ky_s1d, ky_s2d, ky_sr, ky_sai, ky_sasi, ky_sasl, ky_sasr, ky_svr, ky_sv, ky_sv2, ky_s1, ky_cs, ky_pop, ky_nth, ky_snt, ky_obj, ky_ari, ky_arl, ky_arr, ky_arn, ky_fv, ky_rcv, List.map_cons, List.map_nil, List.drop_succ_cons, List.drop_zero, Value.category, Nat.reduceAdd, Nat.reduceSub, true_and, and_true, true_or, or_true, reduceCtorEq, ite_true, ite_false, eq_self, Nat.reduceEqDiff, Nat.reduceLeDiff, nI_add, nI_1, nI_leI, nI_ltI, nI_eq, nI_clamp, kz_m1, kz_mn, kz_mn2, kz_n0, kz_0n, kz_0, kz_le0, kz_0lt, false_implies, true_implies, not_false_eq_true, not_true_eq_false, Nat.zero_le, kb_0, kz_10, kz_of, ky_sw, kz_mx, kz_mi, mh, e2]) | (refine ⟨vp_in_nI (by omega) (by omega), ?_⟩) | (refine ⟨fun zc => ?_, fun zc => ?_⟩ <;> try (exfalso; omega)) | fail)
      intro f2 g2 w1 w2 w3
      (try simp only [ky_aft, ky_vl, Nat.reduceAdd])
      repeat' (first | (refine ky_ok_stp rfl ?_; simp (disch := first | omega | assumption) only [ky_stp, ky_inv, ky_ldi, ky_ldl, ky_ldd, ky_lda, ky_cl2, ky_st1, ky_st2, ky_s1i, ky_s2i, ky_s1l, ky_s2l, ky_sli, ky_s1f, ky_s2f, ky_s1d, ky_s2d, ky_sr, ky_sai, ky_sasi, ky_sasl, ky_sasr, ky_svr, ky_sv, ky_sv2, ky_s1, ky_cs, ky_pop, ky_nth, ky_snt, ky_obj, ky_ari, ky_arl, ky_arr, ky_arn, ky_fv, ky_rcv, List.map_cons, List.map_nil, List.drop_succ_cons, List.drop_zero, Value.category, Nat.reduceAdd, Nat.reduceSub, true_and, and_true, true_or, or_true, reduceCtorEq, ite_true, ite_false, eq_self, Nat.reduceEqDiff, Nat.reduceLeDiff, nI_add, nI_1, nI_leI, nI_ltI, nI_eq, nI_clamp, kz_m1, kz_mn, kz_mn2, kz_n0, kz_0n, kz_0, kz_le0, kz_0lt, false_implies, true_implies, not_false_eq_true, not_true_eq_false, Nat.zero_le, kb_0, kz_10, kz_of, ky_sw, kz_mx, kz_mi]) | (refine ⟨vp_in_nI (by omega) (by omega), ?_⟩) | (refine ⟨fun zc => ?_, fun zc => ?_⟩ <;> try (exfalso; omega)) | fail)
      (first | exact hq f2 g2 w1 w2 w3 | exact ⟨by decide, hq f2 g2 w1 w2 w3⟩)
    by_cases hxm : X = -1
    · repeat' (first | (exact st) | (refine kx170n hMo h10 ?_; simp only [ky_aft, ky_vl, Nat.reduceAdd]) | (refine ky_ok_stp rfl ?_; simp (disch := first | omega | assumption) only [ky_stp, ky_inv, ky_ldi, ky_ldl, ky_ldd, ky_lda, ky_cl2, ky_st1, ky_st2, ky_s1i, ky_s2i, ky_s1l, ky_s2l, ky_sli, ky_s1f, ky_s2f, ky_s1d, ky_s2d, ky_sr, ky_sai, ky_sasi, ky_sasl, ky_sasr, ky_svr, ky_sv, ky_sv2, ky_s1, ky_cs, ky_pop, ky_nth, ky_snt, ky_obj, ky_ari, ky_arl, ky_arr, ky_arn, ky_fv, ky_rcv, List.map_cons, List.map_nil, List.drop_succ_cons, List.drop_zero, Value.category, Nat.reduceAdd, Nat.reduceSub, true_and, and_true, true_or, or_true, reduceCtorEq, ite_true, ite_false, eq_self, Nat.reduceEqDiff, Nat.reduceLeDiff, nI_add, nI_1, nI_leI, nI_ltI, nI_eq, nI_clamp, kz_m1, kz_mn, kz_mn2, kz_n0, kz_0n, kz_0, kz_le0, kz_0lt, false_implies, true_implies, not_false_eq_true, not_true_eq_false, Nat.zero_le, kb_0, kz_10, kz_of, ky_sw, kz_mx, kz_mi, mh, eq_true hxm]) | (refine ⟨vp_in_nI (by omega) (by omega), ?_⟩) | (refine ⟨fun zc => ?_, fun zc => ?_⟩ <;> try (exfalso; omega)) | fail)
    · repeat' (first | (exact st) | ((refine kx222 hMo hr h60 hR.1 (fun _ => ?_) (fun w => absurd (hx.resolve_right hxm) w); simp only [ky_aft, ky_vl, Nat.reduceAdd])) | (refine kx170n hMo h10 ?_; simp only [ky_aft, ky_vl, Nat.reduceAdd]) | (refine ky_ok_stp rfl ?_; simp (disch := first | omega | assumption) only [ky_stp, ky_inv, ky_ldi, ky_ldl, ky_ldd, ky_lda, ky_cl2, ky_st1, ky_st2, ky_s1i, ky_s2i, ky_s1l, ky_s2l, ky_sli, ky_s1f, ky_s2f, ky_s1d, ky_s2d, ky_sr, ky_sai, ky_sasi, ky_sasl, ky_sasr, ky_svr, ky_sv, ky_sv2, ky_s1, ky_cs, ky_pop, ky_nth, ky_snt, ky_obj, ky_ari, ky_arl, ky_arr, ky_arn, ky_fv, ky_rcv, List.map_cons, List.map_nil, List.drop_succ_cons, List.drop_zero, Value.category, Nat.reduceAdd, Nat.reduceSub, true_and, and_true, true_or, or_true, reduceCtorEq, ite_true, ite_false, eq_self, Nat.reduceEqDiff, Nat.reduceLeDiff, nI_add, nI_1, nI_leI, nI_ltI, nI_eq, nI_clamp, kz_m1, kz_mn, kz_mn2, kz_n0, kz_0n, kz_0, kz_le0, kz_0lt, false_implies, true_implies, not_false_eq_true, not_true_eq_false, Nat.zero_le, kb_0, kz_10, kz_of, ky_sw, kz_mx, kz_mi, mh, eq_false hxm]) | (refine ⟨vp_in_nI (by omega) (by omega), ?_⟩) | (refine ⟨fun zc => ?_, fun zc => ?_⟩ <;> try (exfalso; omega)) | fail)
  have mh := hM.2.1
  unfold kMo at mh
  refine ⟨Nat.le_of_ble_eq_true rfl, fun z => absurd z (by decide), ?_⟩; show ky_ok adK 286 0 [some (.ref (a 170)), some (.int X), some (.int y)] [] f 0 0 _
  repeat' (first | (exact rest _ _ (kM_t0 hM) rfl (kMF_170 (kfr_up hM.1 kfr_rf rfl))) | (refine ky_ok_stp rfl ?_; simp (disch := first | omega | assumption) only [ky_stp, ky_inv, ky_ldi, ky_ldl, ky_ldd, ky_lda, ky_cl2, ky_st1, ky_st2, ky_s1i, ky_s2i, ky_s1l, ky_s2l, ky_sli, ky_s1f, ky_s2f, ky_s1d, ky_s2d, ky_sr, ky_sai, ky_sasi, ky_sasl, ky_sasr, ky_svr, ky_sv, ky_sv2, ky_s1, ky_cs, ky_pop, ky_nth, ky_snt, ky_obj, ky_ari, ky_arl, ky_arr, ky_arn, ky_fv, ky_rcv, List.map_cons, List.map_nil, List.drop_succ_cons, List.drop_zero, Value.category, Nat.reduceAdd, Nat.reduceSub, true_and, and_true, true_or, or_true, reduceCtorEq, ite_true, ite_false, eq_self, Nat.reduceEqDiff, Nat.reduceLeDiff, nI_add, nI_1, nI_leI, nI_ltI, nI_eq, nI_clamp, kz_m1, kz_mn, kz_mn2, kz_n0, kz_0n, kz_0, kz_le0, kz_0lt, false_implies, true_implies, not_false_eq_true, not_true_eq_false, Nat.zero_le, kb_0, kz_10, kz_of, ky_sw, kz_mx, kz_mi, mh]) | (refine ⟨vp_in_nI (by omega) (by omega), ?_⟩) | (refine ⟨fun zc => ?_, fun zc => ?_⟩ <;> try (exfalso; omega)) | fail)
end KXM
