/-! ## each method of the class beside the reference's -/
def kJr (adK : Nat → Nat) (mr : Nat) (As : List Value) (s s1 : kSt) (t v : Int32) : Prop := ∀ a f g Q, kM a f g s → kMQ a f s1 t Q v → ky_cl adK mr (.ref (a 170) :: As) f Q
def kJ (adK : Nat → Nat) (mc mr : Nat) (As : List Value) (C : List (Nat × Int32)) : Prop := ∀ (a : Nat → Nat) (f : ky_H) (s : kSt) (Q : ky_Q), kK a f s → (∀ a' f' s' v, kJr adK mr As s s' 0 v → kK a' f' s' → kAl a f a' f' kL8 → Q (.inl (some (.int v))) f') → (∀ k t f', (k, t) ∈ C → kJr adK mr As s s t 0 → kK a f' s → kfr a f f' kL8 → Q (.inr k) f') → ky_cl adK mc (.ref (a 0) :: As) f Q
section KXJ
variable {adK a a' : Nat → Nat} {f f' : ky_H} {Q : ky_Q} {s s' : kSt} {t : Int32} {x y v b c x1 x2 x3 x4 x5 : Int32}
theorem kTi_3 {j w : Nat} {nm : Int64} : kTi' s j w nm = kTi' s j (if j = 0 then 3 else w) nm := by
  by_cases e : j = 0
  · have h1 : ∀ z w, kIlv z j w = 1 := fun z w => if_pos e
    have h2 : ∀ (z : kZ) w, kIpl z j w = z.n := fun z w => if_pos e
    unfold kTi' kInz
    simp only [h1, h2]
  · rw [if_neg e]
theorem kMQ_e (hS : kSe s s') (h : kMQ a f s' t Q v) : kMQ a f s t Q v := fun f1 g1 h1 h2 h3 => h f1 g1 (kM_e h1 hS) h2 h3
theorem kj_al (h : kAl a f a' f' kL7) : kAl a f a' f' kL8 := ⟨h.1, fun j hj hf => h.2.1 j (fun w => hj w.1) hf, h.2.2⟩
theorem kj_f8 (h : kfr a f f' kL7) : kfr a f f' kL8 := fun j hj => h j fun w => hj w.1
theorem kj_u {i j : Nat} (hi : i < 100000) (hj : j < 100000) (h1 : x = nI i) (h2 : x = nI j) : i = j := (nI_eq (by omega) (by omega)).mp (h1.symm.trans h2)
theorem kj_s1 (x : Int32) : x - 1 + 1 = x := Int32.sub_add_cancel x 1
theorem kj_u1 {i j : Nat} (hi : i < 100000) (hj : j < 100000) (h1 : x = nI i - 1) (h2 : x = nI j - 1) : i = j := by
  have e : nI i - 1 = nI j - 1 := h1.symm.trans h2
  have e2 : nI i = nI j := by
    rw [← kj_s1 (nI i), ← kj_s1 (nI j), e]
  exact (nI_eq (by omega) (by omega)).mp e2
theorem kj95 : kJ adK 95 233 [.int x] [(1, 1)] := by
  intro a f s Q h hq hr
  have h60 := h.2.2.2.1.n60
  refine kx95 h (fun w f' p0 p1 p2 p3 => hq a f' _ _ (fun d e k R hM hQ => ?_) p2 (kAl_fr h.1 (kj_f8 p3))) (fun hn => hr 1 1 f (by decide) (fun d e k R hM hQ => ?_) h kfr_rf)
  · refine kx233 hM h.2.2.2.1 (fun w_ r0 r1 => ?_) (fun hn => absurd ⟨w, Nat.zero_le _, p0, p1⟩ hn)
    obtain rfl := kj_u (by omega) (by omega) r1 p1
    exact hQ
  · exact kx233 hM h.2.2.2.1 (fun w_ r0 r1 => absurd ⟨w_, Nat.zero_le _, r0, r1⟩ hn) (fun _ => hQ)
theorem kj96 : kJ adK 96 236 [.int x, .int y] [(2, 1), (1, 2)] := by
  intro a f s Q h hq hr
  have h60 := h.2.2.2.1.n60
  refine kx96 h (fun p w f' p0 p1 p2 p3 p4 p5 => hq a f' _ _ (fun d e k R hM hQ => ?_) p4 (kAl_fr h.1 (kj_f8 p5))) (fun hn => hr 2 1 f (by decide) (fun d e k R hM hQ => ?_) h kfr_rf) (fun g0 hn => hr 1 2 f (by decide) (fun d e k R hM hQ => ?_) h kfr_rf)
  · refine kx236 hM h.2.2.2.1 (fun p_ w_ r0 r1 r2 r3 => ?_) (fun hn => absurd ⟨p, p0, p2⟩ hn) (fun _ hn => absurd ⟨w, Nat.zero_le _, p1, p3⟩ hn)
    obtain rfl := kj_u (by omega) (by omega) r2 p2
    obtain rfl := kj_u (by omega) (by omega) r3 p3
    exact hQ
  · exact kx236 hM h.2.2.2.1 (fun p_ w_ r0 r1 r2 r3 => absurd ⟨p_, r0, r2⟩ hn) (fun _ => hQ) (fun hk _ => absurd hk hn)
  · exact kx236 hM h.2.2.2.1 (fun p_ w_ r0 r1 r2 r3 => absurd ⟨w_, Nat.zero_le _, r1, r3⟩ hn) (fun hn2 => absurd g0 hn2) (fun _ _ => hQ)
theorem kj99 : kJ adK 99 240 [.int x, .int y] [(2, 1), (1, 2)] := by
  intro a f s Q h hq hr
  have h60 := h.2.2.2.1.n60
  refine kx99 h (fun l w p0 p1 p2 p3 p4 => hq a f _ _ (fun d e k R hM hQ => ?_) h (kAl_fr h.1 kfr_rf)) (fun hn => hr 2 1 f (by decide) (fun d e k R hM hQ => ?_) h kfr_rf) (fun g0 hn => hr 1 2 f (by decide) (fun d e k R hM hQ => ?_) h kfr_rf)
  · refine kx240 hM h.2.2.2.1 (fun l_ w_ r0 r1 r2 r3 r4 => ?_) (fun hn => absurd ⟨l, p0, p1, p3⟩ hn) (fun _ hn => absurd ⟨w, Nat.zero_le _, p2, p4⟩ hn)
    obtain rfl := kj_u (by omega) (by omega) r3 p3
    obtain rfl := kj_u (by omega) (by omega) r4 p4
    exact hQ
  · exact kx240 hM h.2.2.2.1 (fun l_ w_ r0 r1 r2 r3 r4 => absurd ⟨l_, r0, r1, r3⟩ hn) (fun _ => hQ) (fun hk _ => absurd hk hn)
  · exact kx240 hM h.2.2.2.1 (fun l_ w_ r0 r1 r2 r3 r4 => absurd ⟨w_, Nat.zero_le _, r2, r4⟩ hn) (fun hn2 => absurd g0 hn2) (fun _ _ => hQ)
theorem kj101 : kJ adK 101 245 [.int x, .int y] [(2, 1)] := by
  intro a f s Q h hq hr
  have h60 := h.2.2.2.1.n60
  refine kx101 h (fun p t p0 p1 p2 p3 => hq a f _ _ (fun d e k R hM hQ => ?_) h (kAl_fr h.1 kfr_rf)) (fun hn => hr 2 1 f (by decide) (fun d e k R hM hQ => ?_) h kfr_rf)
  · refine kx245 hM h.2.2.2.1 (fun p_ t_ r0 r1 r2 r3 => ?_) (fun hn => absurd ⟨⟨p, p0, p2⟩, ⟨t, p1, p3⟩⟩ hn)
    obtain rfl := kj_u (by omega) (by omega) r2 p2
    obtain rfl := kj_u (by omega) (by omega) r3 p3
    exact hQ
  · exact kx245 hM h.2.2.2.1 (fun p_ t_ r0 r1 r2 r3 => absurd ⟨⟨p_, r0, r2⟩, ⟨t_, r1, r3⟩⟩ hn) (fun _ => hQ)
theorem kj107 : kJ adK 107 258 [.int x, .int y, .int v] [(2, 1), (1, 2)] := by
  intro a f s Q h hq hr
  have h60 := h.2.2.2.1.n60
  refine kx107 h (fun p t w p0 p1 p2 p3 p4 p5 => hq a f _ _ (fun d e k R hM hQ => ?_) h (kAl_fr h.1 kfr_rf)) (fun hn => hr 2 1 f (by decide) (fun d e k R hM hQ => ?_) h kfr_rf) (fun g0 g1 hn => hr 1 2 f (by decide) (fun d e k R hM hQ => ?_) h kfr_rf)
  · refine kx258 hM h.2.2.2.1 (fun p_ t_ w_ r0 r1 r2 r3 r4 r5 => ?_) (fun hn => absurd ⟨⟨p, p0, p3⟩, ⟨t, p1, p4⟩⟩ hn) (fun _ _ hn => absurd ⟨w, Nat.zero_le _, p2, p5⟩ hn)
    obtain rfl := kj_u (by omega) (by omega) r3 p3
    obtain rfl := kj_u (by omega) (by omega) r4 p4
    obtain rfl := kj_u (by omega) (by omega) r5 p5
    exact hQ
  · exact kx258 hM h.2.2.2.1 (fun p_ t_ w_ r0 r1 r2 r3 r4 r5 => absurd ⟨⟨p_, r0, r3⟩, ⟨t_, r1, r4⟩⟩ hn) (fun _ => hQ) (fun hk0 hk1 _ => absurd ⟨hk0, hk1⟩ hn)
  · exact kx258 hM h.2.2.2.1 (fun p_ t_ w_ r0 r1 r2 r3 r4 r5 => absurd ⟨w_, Nat.zero_le _, r2, r5⟩ hn) (fun hn2 => absurd ⟨g0, g1⟩ hn2) (fun _ _ _ => hQ)
theorem kj108 : kJ adK 108 261 [.int x, .int y, .int v] [(2, 1), (1, 2)] := by
  intro a f s Q h hq hr
  have h60 := h.2.2.2.1.n60
  refine kx108 h (fun p t w f' p0 p1 p2 p3 p4 p5 p6 p7 => hq a f' _ _ (fun d e k R hM hQ => ?_) p6 (kAl_fr h.1 (kj_f8 p7))) (fun hn => hr 2 1 f (by decide) (fun d e k R hM hQ => ?_) h kfr_rf) (fun g0 g1 hn => hr 1 2 f (by decide) (fun d e k R hM hQ => ?_) h kfr_rf)
  · refine kx261 hM h.2.2.2.1 (fun p_ t_ w_ r0 r1 r2 r3 r4 r5 => ?_) (fun hn => absurd ⟨⟨p, p0, p3⟩, ⟨t, p1, p4⟩⟩ hn) (fun _ _ hn => absurd ⟨w, Nat.zero_le _, p2, p5⟩ hn)
    obtain rfl := kj_u (by omega) (by omega) r3 p3
    obtain rfl := kj_u (by omega) (by omega) r4 p4
    obtain rfl := kj_u (by omega) (by omega) r5 p5
    exact hQ
  · exact kx261 hM h.2.2.2.1 (fun p_ t_ w_ r0 r1 r2 r3 r4 r5 => absurd ⟨⟨p_, r0, r3⟩, ⟨t_, r1, r4⟩⟩ hn) (fun _ => hQ) (fun hk0 hk1 _ => absurd ⟨hk0, hk1⟩ hn)
  · exact kx261 hM h.2.2.2.1 (fun p_ t_ w_ r0 r1 r2 r3 r4 r5 => absurd ⟨w_, Nat.zero_le _, r2, r5⟩ hn) (fun hn2 => absurd ⟨g0, g1⟩ hn2) (fun _ _ _ => hQ)
theorem kj109 : kJ adK 109 262 [.int x, .int y] [(2, 1)] := by
  intro a f s Q h hq hr
  have h60 := h.2.2.2.1.n60
  refine kx109 h (fun p l f' p0 p1 p2 p3 p4 p5 p6 => hq a f' _ _ (fun d e k R hM hQ => ?_) p5 (kAl_fr h.1 (kj_f8 p6))) (fun hn => hr 2 1 f (by decide) (fun d e k R hM hQ => ?_) h kfr_rf)
  · refine kx262 hM h.2.2.2.1 (fun p_ l_ r0 r1 r2 r3 r4 => ?_) (fun hn => absurd ⟨⟨p, p0, p3⟩, ⟨l, p1, p2, p4⟩⟩ hn)
    obtain rfl := kj_u (by omega) (by omega) r3 p3
    obtain rfl := kj_u (by omega) (by omega) r4 p4
    exact hQ
  · exact kx262 hM h.2.2.2.1 (fun p_ l_ r0 r1 r2 r3 r4 => absurd ⟨⟨p_, r0, r3⟩, ⟨l_, r1, r2, r4⟩⟩ hn) (fun _ => hQ)
theorem kj110 : kJ adK 110 263 [.int x] [(2, 1)] := by
  intro a f s Q h hq hr
  have h60 := h.2.2.2.1.n60
  refine kx110 h (fun p f' p0 p1 p2 p3 => hq a f' _ _ (fun d e k R hM hQ => ?_) p2 (kAl_fr h.1 (kj_f8 p3))) (fun hn => hr 2 1 f (by decide) (fun d e k R hM hQ => ?_) h kfr_rf)
  · refine kx263 hM h.2.2.2.1 (fun p_ r0 r1 => ?_) (fun hn => absurd ⟨p, p0, p1⟩ hn)
    obtain rfl := kj_u (by omega) (by omega) r1 p1
    exact hQ
  · exact kx263 hM h.2.2.2.1 (fun p_ r0 r1 => absurd ⟨p_, r0, r1⟩ hn) (fun _ => hQ)
theorem kj111 : kJ adK 111 268 [.int x, .int y, .int v] [(2, 1), (1, 2)] := by
  intro a f s Q h hq hr
  have h60 := h.2.2.2.1.n60
  refine kx111 h (fun j w b a' f' s' p0 p1 p2 p3 p4 p5 p6 p7 p8 p9 p10 => hq a' f' s' _ (fun d e k R hM hQ => ?_) p9 (kj_al p10)) (fun hn => hr 2 1 f (by decide) (fun d e k R hM hQ => ?_) h kfr_rf) (fun g0 hn => hr 1 2 f (by decide) (fun d e k R hM hQ => ?_) h kfr_rf)
  · refine kx268 hM h.2.2.2 (fun j_ w_ b_ r0 r1 r2 r3 r4 r5 r6 r7 => ?_) (fun hn => absurd (kHas_j.mpr ⟨j, p0, p4⟩) hn) (fun _ hn => absurd ⟨⟨w, Nat.zero_le _, p1, p5⟩, ⟨b, p2, p3, p6, p7⟩⟩ hn)
    obtain rfl := kj_u1 (by omega) (by omega) r4 p4
    obtain rfl := kj_u (by omega) (by omega) r5 p5
    obtain rfl := kj_u (by omega) (by omega) r6 p6
    rw [kTi_3]
    exact kMQ_e p8 hQ
  · exact kx268 hM h.2.2.2 (fun j_ w_ b_ r0 r1 r2 r3 r4 r5 r6 r7 => absurd (kHas_j.mpr ⟨j_, r0, r4⟩) hn) (fun _ => hQ) (fun hk _ => absurd hk hn)
  · exact kx268 hM h.2.2.2 (fun j_ w_ b_ r0 r1 r2 r3 r4 r5 r6 r7 => absurd ⟨⟨w_, Nat.zero_le _, r1, r5⟩, ⟨b_, r2, r3, r6, r7⟩⟩ hn) (fun hn2 => absurd g0 hn2) (fun _ _ => hQ)
theorem kj112 : kJ adK 112 270 [.int x] [(2, 1)] := by
  intro a f s Q h hq hr
  have h60 := h.2.2.2.1.n60
  refine kx112 h (fun p a' f' s' p0 p1 p2 p3 p4 => hq a' f' s' _ (fun d e k R hM hQ => ?_) p3 (kj_al p4)) (fun hn => hr 2 1 f (by decide) (fun d e k R hM hQ => ?_) h kfr_rf)
  · refine kx270 hM h.2.2.2 (fun p_ r0 r1 => ?_) (fun hn => absurd ⟨p, p0, p1⟩ hn)
    obtain rfl := kj_u (by omega) (by omega) r1 p1
    exact kMQ_e p2 hQ
  · exact kx270 hM h.2.2.2 (fun p_ r0 r1 => absurd ⟨p_, r0, r1⟩ hn) (fun _ => hQ)
theorem kj113 : kJ adK 113 273 [.int x] [(2, 1)] := by
  intro a f s Q h hq hr
  have h60 := h.2.2.2.1.n60
  refine kx113 h (fun p a' f' s' p0 p1 p2 p3 p4 => hq a' f' s' _ (fun d e k R hM hQ => ?_) p3 (kj_al p4)) (fun hn => hr 2 1 f (by decide) (fun d e k R hM hQ => ?_) h kfr_rf)
  · refine kx273 hM h.2.2.2 (fun p_ r0 r1 => ?_) (fun hn => absurd ⟨p, p0, p1⟩ hn)
    obtain rfl := kj_u (by omega) (by omega) r1 p1
    exact kMQ_e p2 hQ
  · exact kx273 hM h.2.2.2 (fun p_ r0 r1 => absurd ⟨p_, r0, r1⟩ hn) (fun _ => hQ)
theorem kj115 : kJ adK 115 277 [.int x] [(2, 1)] := by
  intro a f s Q h hq hr
  have h60 := h.2.2.2.1.n60
  refine kx115 h (fun p a' f' s' p0 p1 p2 p3 p4 => hq a' f' s' _ (fun d e k R hM hQ => ?_) p3 (kj_al p4)) (fun hn => hr 2 1 f (by decide) (fun d e k R hM hQ => ?_) h kfr_rf)
  · refine kx277 hM h.2.2.2 (fun p_ r0 r1 => ?_) (fun hn => absurd ⟨p, p0, p1⟩ hn)
    obtain rfl := kj_u (by omega) (by omega) r1 p1
    exact kMQ_e p2 hQ
  · exact kx277 hM h.2.2.2 (fun p_ r0 r1 => absurd ⟨p_, r0, r1⟩ hn) (fun _ => hQ)
theorem kj116 : kJ adK 116 279 [.int x] [(2, 1)] := by
  intro a f s Q h hq hr
  have h60 := h.2.2.2.1.n60
  refine kx116 h (fun p a' f' s' p0 p1 p2 p3 p4 => hq a' f' s' _ (fun d e k R hM hQ => ?_) p3 (kj_al p4)) (fun hn => hr 2 1 f (by decide) (fun d e k R hM hQ => ?_) h kfr_rf)
  · refine kx279 hM h.2.2.2 (fun p_ r0 r1 => ?_) (fun hn => absurd ⟨p, p0, p1⟩ hn)
    obtain rfl := kj_u (by omega) (by omega) r1 p1
    exact kMQ_e p2 hQ
  · exact kx279 hM h.2.2.2 (fun p_ r0 r1 => absurd ⟨p_, r0, r1⟩ hn) (fun _ => hQ)
theorem kj117 (hb : k01 b) : kJ adK 117 281 [.int x, .int b] [(2, 1)] := by
  intro a f s Q h hq hr
  have h60 := h.2.2.2.1.n60
  refine kx117 hb h (fun p a' f' s' p0 p1 p2 p3 p4 => hq a' f' s' _ (fun d e k R hM hQ => ?_) p3 (kj_al p4)) (fun hn => hr 2 1 f (by decide) (fun d e k R hM hQ => ?_) h kfr_rf)
  · refine kx281 hM h.2.2.2 hb (fun p_ r0 r1 => ?_) (fun hn => absurd ⟨p, p0, p1⟩ hn)
    obtain rfl := kj_u (by omega) (by omega) r1 p1
    exact kMQ_e p2 hQ
  · exact kx281 hM h.2.2.2 hb (fun p_ r0 r1 => absurd ⟨p_, r0, r1⟩ hn) (fun _ => hQ)
theorem kj120 (hb : k01 b) : kJ adK 120 287 [.int x, .int b] [(2, 1)] := by
  intro a f s Q h hq hr
  have h60 := h.2.2.2.1.n60
  refine kx120 hb h (fun p a' f' s' p0 p1 p2 p3 p4 => hq a' f' s' _ (fun d e k R hM hQ => ?_) p3 (kj_al p4)) (fun hn => hr 2 1 f (by decide) (fun d e k R hM hQ => ?_) h kfr_rf)
  · refine kx287 hM h.2.2.2 hb (fun p_ r0 r1 => ?_) (fun hn => absurd ⟨p, p0, p1⟩ hn)
    obtain rfl := kj_u (by omega) (by omega) r1 p1
    exact kMQ_e p2 hQ
  · exact kx287 hM h.2.2.2 hb (fun p_ r0 r1 => absurd ⟨p_, r0, r1⟩ hn) (fun _ => hQ)
theorem kj114 : kJ adK 114 275 [.int x, .int y, .int v] [(2, 1), (1, 2)] := by
  intro a f s Q h hq hr
  have h60 := h.2.2.2.1.n60
  refine kx114 h (fun p t w a' f' s' p0 p1 p2 p3 p4 p5 p6 p7 p8 => hq a' f' s' _ (fun d e k R hM hQ => ?_) p7 (kj_al p8)) (fun hn => hr 2 1 f (by decide) (fun d e k R hM hQ => ?_) h kfr_rf) (fun g0 g1 hn => hr 1 2 f (by decide) (fun d e k R hM hQ => ?_) h kfr_rf)
  · refine kx275 hM h.2.2.2 (fun p_ t_ w_ r0 r1 r2 r3 r4 r5 => ?_) (fun hn => absurd ⟨⟨p, p0, p3⟩, ⟨t, p1, p4⟩⟩ hn) (fun _ _ hn => absurd ⟨w, Nat.zero_le _, p2, p5⟩ hn)
    obtain rfl := kj_u (by omega) (by omega) r3 p3
    obtain rfl := kj_u (by omega) (by omega) r4 p4
    obtain rfl := kj_u (by omega) (by omega) r5 p5
    exact kMQ_e p6 hQ
  · exact kx275 hM h.2.2.2 (fun p_ t_ w_ r0 r1 r2 r3 r4 r5 => absurd ⟨⟨p_, r0, r3⟩, ⟨t_, r1, r4⟩⟩ hn) (fun _ => hQ) (fun hk0 hk1 _ => absurd ⟨hk0, hk1⟩ hn)
  · exact kx275 hM h.2.2.2 (fun p_ t_ w_ r0 r1 r2 r3 r4 r5 => absurd ⟨w_, Nat.zero_le _, r2, r5⟩ hn) (fun hn2 => absurd ⟨g0, g1⟩ hn2) (fun _ _ _ => hQ)
theorem kj118 : kJ adK 118 282 [.int x] [(2, 1)] := by
  intro a f s Q h hq hr
  have h60 := h.2.2.2.1.n60
  refine kx118 h (fun l a' f' s' p0 p1 p2 p3 p4 p5 => hq a' f' s' _ (fun d e k R hM hQ => ?_) p4 (kj_al p5)) (fun hn => hr 2 1 f (by decide) (fun d e k R hM hQ => ?_) h kfr_rf)
  · refine kx282 hM h.2.2.2 (fun l_ r0 r1 r2 => ?_) (fun hn => absurd ⟨l, p0, p1, p2⟩ hn)
    obtain rfl := kj_u (by omega) (by omega) r2 p2
    exact kMQ_e p3 hQ
  · exact kx282 hM h.2.2.2 (fun l_ r0 r1 r2 => absurd ⟨l_, r0, r1, r2⟩ hn) (fun _ => hQ)
theorem kj119 : kJ adK 119 286 [.int x, .int y] [(2, 1), (1, 2)] := by
  intro a f s Q h hq hr
  have h60 := h.2.2.2.1.n60
  refine kx119 h (fun j b a' f' s' p0 p1 p2 p3 p4 p5 p6 => hq a' f' s' _ (fun d e k R hM hQ => ?_) p5 (kj_al p6)) (fun hn => hr 2 1 f (by decide) (fun d e k R hM hQ => ?_) h kfr_rf) (fun g0 hn => hr 1 2 f (by decide) (fun d e k R hM hQ => ?_) h kfr_rf)
  · refine kx286 hM h.2.2.2 (fun j_ b_ r0 r1 r2 r3 => ?_) (fun hn => absurd (kHas_j.mpr ⟨j, p0, p2⟩) hn) (fun _ hn => absurd ⟨b, Nat.zero_le _, p1, p3⟩ hn)
    obtain rfl := kj_u1 (by omega) (by omega) r2 p2
    obtain rfl := kj_u (by omega) (by omega) r3 p3
    exact kMQ_e p4 hQ
  · exact kx286 hM h.2.2.2 (fun j_ b_ r0 r1 r2 r3 => absurd (kHas_j.mpr ⟨j_, r0, r2⟩) hn) (fun _ => hQ) (fun hk _ => absurd hk hn)
  · exact kx286 hM h.2.2.2 (fun j_ b_ r0 r1 r2 r3 => absurd ⟨b_, Nat.zero_le _, r1, r3⟩ hn) (fun hn2 => absurd g0 hn2) (fun _ _ => hQ)
theorem kj121 : kJ adK 121 288 [.int x, .int y, .int v] [(2, 1), (1, 2)] := by
  intro a f s Q h hq hr
  have h60 := h.2.2.2.1.n60
  refine kx121 h (fun l i j a' f' s' p0 p1 p2 p3 p4 p5 p6 p7 p8 p9 p10 => hq a' f' s' _ (fun d e k R hM hQ => ?_) p9 (kj_al p10)) (fun hn => hr 2 1 f (by decide) (fun d e k R hM hQ => ?_) h kfr_rf) (fun g0 hn => hr 1 2 f (by decide) (fun d e k R hM hQ => ?_) h kfr_rf)
  · refine kx288 hM h.2.2.2 (fun l_ i_ j_ r0 r1 r2 r3 r4 r5 r6 r7 => ?_) (fun hn => absurd ⟨l, p0, p1, p5⟩ hn) (fun _ hn => absurd ⟨⟨i, Nat.zero_le _, p2, p6⟩, ⟨j, p3, p4, p7⟩⟩ hn)
    obtain rfl := kj_u (by omega) (by omega) r5 p5
    obtain rfl := kj_u (by omega) (by omega) r6 p6
    obtain rfl := kj_u (by omega) (by omega) r7 p7
    exact kMQ_e p8 hQ
  · exact kx288 hM h.2.2.2 (fun l_ i_ j_ r0 r1 r2 r3 r4 r5 r6 r7 => absurd ⟨l_, r0, r1, r5⟩ hn) (fun _ => hQ) (fun hk _ => absurd hk hn)
  · exact kx288 hM h.2.2.2 (fun l_ i_ j_ r0 r1 r2 r3 r4 r5 r6 r7 => absurd ⟨⟨i_, Nat.zero_le _, r2, r6⟩, ⟨j_, r3, r4, r7⟩⟩ hn) (fun hn2 => absurd g0 hn2) (fun _ _ => hQ)
theorem kj122 (hb : k01 b) (hc : k01 c) : kJ adK 122 289 [.int x, .int b, .int c] [(2, 1)] := by
  intro a f s Q h hq hr
  have h60 := h.2.2.2.1.n60
  refine kx122 hb hc h (fun l a' f' s' p0 p1 p2 p3 p4 p5 => hq a' f' s' _ (fun d e k R hM hQ => ?_) p4 (kj_al p5)) (fun hn => hr 2 1 f (by decide) (fun d e k R hM hQ => ?_) h kfr_rf)
  · refine kx289 hM h.2.2.2 hb hc (fun l_ r0 r1 r2 => ?_) (fun hn => absurd ⟨l, p0, p1, p2⟩ hn)
    obtain rfl := kj_u (by omega) (by omega) r2 p2
    exact kMQ_e p3 hQ
  · exact kx289 hM h.2.2.2 hb hc (fun l_ r0 r1 r2 => absurd ⟨l_, r0, r1, r2⟩ hn) (fun _ => hQ)
theorem kj126 : kJ adK 126 296 [.int x] [(2, 1)] := by
  intro a f s Q h hq hr
  have h60 := h.2.2.2.1.n60
  refine kx126 h (fun i a' f' s' p0 p1 p2 p3 p4 => hq a' f' s' _ (fun d e k R hM hQ => ?_) p3 (kj_al p4)) (fun hn => hr 2 1 f (by decide) (fun d e k R hM hQ => ?_) h kfr_rf)
  · refine kx296 hM h.2.2.2 (fun i_ r0 r1 => ?_) (fun hn => absurd ⟨i, Nat.zero_le _, Nat.le_of_lt_succ p0, p1⟩ hn)
    obtain rfl := kj_u (by omega) (by omega) r1 p1
    exact kMQ_e p2 hQ
  · exact kx296 hM h.2.2.2 (fun i_ r0 r1 => absurd ⟨i_, Nat.zero_le _, Nat.le_of_lt_succ r0, r1⟩ hn) (fun _ => hQ)
theorem kj97 : kJ adK 97 237 [.int x, .int y] [(2, 1)] := by
  intro a f s Q h hq hr
  have h60 := h.2.2.2.1.n60
  have hl : ∀ p, p < s.o.n → (kWo (kN s.o.R p)).length ≤ 60 := fun p hp => by
    have hw := (kWo_s (h.2.2.2.1.wd p hp)).2
    have := hw.2.1
    omega
  refine kx97 h (fun p i p0 p1 p2 p3 => hq a f s _ (fun d e g R hM hQ => ?_) h (kAl_fr h.1 kfr_rf)) (fun p p0 p1 p2 => hq a f s _ (fun d e g R hM hQ => ?_) h (kAl_fr h.1 kfr_rf)) (fun hn => hr 2 1 f (by decide) (fun d e g R hM hQ => ?_) h kfr_rf)
  · refine kx237 hM h.2.2.2.1 (fun p_ i_ r0 r1 r2 r3 => ?_) (fun p_ r0 r1 r2 => ?_) (fun hn => absurd ⟨p, p0, p2⟩ hn)
    · obtain rfl := kj_u (by omega) (by omega) r2 p2
      have := hl _ r0
      obtain rfl := kj_u (by omega) (by omega) r3 p3
      exact hQ
    · obtain rfl := kj_u (by omega) (by omega) r1 p2
      exact absurd p3 (r2 i p1)
  · refine kx237 hM h.2.2.2.1 (fun p_ i_ r0 r1 r2 r3 => ?_) (fun p_ r0 r1 r2 => hQ) (fun hn => absurd ⟨p, p0, p1⟩ hn)
    obtain rfl := kj_u (by omega) (by omega) r2 p1
    exact absurd r3 (p2 i_ r1)
  · exact kx237 hM h.2.2.2.1 (fun p_ i_ r0 r1 r2 r3 => absurd ⟨p_, r0, r2⟩ hn) (fun p_ r0 r1 r2 => absurd ⟨p_, r0, r1⟩ hn) (fun _ => hQ)
theorem kj98 : kJ adK 98 238 [.int x, .int y] [(2, 1)] := by
  intro a f s Q h hq hr
  have h60 := h.2.2.2.1.n60
  have hl : ∀ p, p < s.o.n → (kNO s.o p).length ≤ 60 := fun p hp => by
    have := kNO_l h.2.2.2.1 6 p hp (h.2.2.2.1.lv p hp).2.2
    have := (h.2.2.2.1.lv p hp).2.2
    omega
  refine kx98 h (fun p i f' p0 p1 p2 p3 p4 p5 => hq a f' s _ (fun d e g R hM hQ => ?_) p4 (kAl_fr h.1 (kj_f8 p5))) (fun p f' p0 p1 p2 p3 p4 => hq a f' s _ (fun d e g R hM hQ => ?_) p3 (kAl_fr h.1 (kj_f8 p4))) (fun hn => hr 2 1 f (by decide) (fun d e g R hM hQ => ?_) h kfr_rf)
  · refine kx238 hM h.2.2.2.1 (fun p_ i_ r0 r1 r2 r3 => ?_) (fun p_ r0 r1 r2 => ?_) (fun hn => absurd ⟨p, p0, p2⟩ hn)
    · obtain rfl := kj_u (by omega) (by omega) r2 p2
      have := hl _ r0
      obtain rfl := kj_u (by omega) (by omega) r3 p3
      exact hQ
    · obtain rfl := kj_u (by omega) (by omega) r1 p2
      exact absurd p3 (r2 i p1)
  · refine kx238 hM h.2.2.2.1 (fun p_ i_ r0 r1 r2 r3 => ?_) (fun p_ r0 r1 r2 => hQ) (fun hn => absurd ⟨p, p0, p1⟩ hn)
    obtain rfl := kj_u (by omega) (by omega) r2 p1
    exact absurd r3 (p2 i_ r1)
  · exact kx238 hM h.2.2.2.1 (fun p_ i_ r0 r1 r2 r3 => absurd ⟨p_, r0, r2⟩ hn) (fun p_ r0 r1 r2 => absurd ⟨p_, r0, r1⟩ hn) (fun _ => hQ)
theorem kj100 : kJ adK 100 244 [.int x, .int y] [(2, 1), (3, 2)] := by
  intro a f s Q h hq hr
  have h60 := h.2.2.2.1.n60
  refine kx100 h (fun j i f' p0 p2 p1 p3 p4 p5 => hq a f' s _ (fun d e g R hM hQ => ?_) p4 (kAl_fr h.1 (kj_f8 p5))) (fun j f' p0 p1 p2 p3 p4 => hr 3 2 f' (by decide) (fun d e g R hM hQ => ?_) p3 (kj_f8 p4)) (fun hn => hr 2 1 f (by decide) (fun d e g R hM hQ => ?_) h kfr_rf)
  · refine kx244 hM h.2.2.2.1 (fun p_ i_ r0 r2 r1 r3 => ?_) (fun p_ r0 r1 r2 => ?_) (fun hn => absurd (kHas_j.mpr ⟨j, p0, p2⟩) hn)
    · obtain rfl := kj_u1 (by omega) (by omega) r2 p2
      have := kCl_le r0
      obtain rfl := kj_u (by omega) (by omega) r3 p3
      exact hQ
    · obtain rfl := kj_u1 (by omega) (by omega) r1 p2
      exact absurd p3 (r2 i p1)
  · refine kx244 hM h.2.2.2.1 (fun p_ i_ r0 r2 r1 r3 => ?_) (fun p_ r0 r1 r2 => hQ) (fun hn => absurd (kHas_j.mpr ⟨j, p0, p1⟩) hn)
    obtain rfl := kj_u1 (by omega) (by omega) r2 p1
    exact absurd r3 (p2 i_ r1)
  · exact kx244 hM h.2.2.2.1 (fun p_ i_ r0 r2 r1 r3 => absurd (kHas_j.mpr ⟨p_, r0, r2⟩) hn) (fun p_ r0 r1 r2 => absurd (kHas_j.mpr ⟨p_, r0, r1⟩) hn) (fun _ => hQ)
theorem kj102 : kJ adK 102 246 [.int x] [] := by
  intro a f s Q h hq hr
  have h60 := h.2.2.2.1.n60
  have hl := kVl_le s.o
  refine kx102 h (fun i f' p0 p1 p2 p3 => hq a f' s _ (fun d e g R hM hQ => ?_) p2 (kAl_fr h.1 (kj_f8 p3))) (fun f' p0 p1 p2 => hq a f' s _ (fun d e g R hM hQ => ?_) p1 (kAl_fr h.1 (kj_f8 p2)))
  · refine kx246 hM h.2.2.2.1 (fun i_ r0 r1 => ?_) (fun r0 => absurd p1 (r0 i p0))
    obtain rfl := kj_u (by omega) (by omega) r1 p1
    exact hQ
  · exact kx246 hM h.2.2.2.1 (fun i_ r0 r1 => absurd r1 (p0 i_ r0)) (fun r0 => hQ)
theorem kj103 : kJ adK 103 247 [] [] := by
  intro a f s Q h hq hr
  exact kx103 h (fun f' p0 p1 => hq a f' s _ (fun d e g R hM hQ => kx247 hM h.2.2.2.1 hQ) p0 (kAl_fr h.1 (kj_f8 p1)))
theorem kj92 : kJ adK 92 210 [] [] := by
  intro a f s Q h hq hr
  exact kx92 h (hq a f s _ (fun d e g R hM hQ => kx210 hM hQ) h (kAl_fr h.1 kfr_rf))
theorem kj93 : kJ adK 93 211 [] [] := by
  intro a f s Q h hq hr
  exact kx93 h (hq a f s _ (fun d e g R hM hQ => kx211 hM hQ) h (kAl_fr h.1 kfr_rf))
theorem kj94 (hb : k01 b) : kJ adK 94 227 [.int b] [] := by
  intro a f s Q h hq hr
  exact kx94 h fun f' p0 p1 => hq a f' _ _ (fun d e g R hM hQ => kx227 hM h.2.2.2.1 hb hQ) p0 (kAl_fr h.1 (kj_f8 p1))
theorem kj104 : kJ adK 104 248 [.int x] [(1, 1)] := by
  intro a f s Q h hq hr
  refine kx104 h (fun i p0 p1 => hq a f s _ (fun d e g R hM hQ => ?_) h (kAl_fr h.1 kfr_rf)) (fun p0 => hr 1 1 f (by decide) (fun d e g R hM hQ => ?_) h kfr_rf)
  · refine kx248 hM h.2.2.2.1 (fun i_ r0 r1 => ?_) (fun r0 => absurd p1 (r0 i p0))
    obtain rfl := kj_u (by omega) (by omega) r1 p1
    exact hQ
  · exact kx248 hM h.2.2.2.1 (fun i_ r0 r1 => absurd r1 (p0 i_ r0)) (fun r0 => hQ)
theorem kj124 : kJ adK 124 293 [.int x] [(2, 1)] := by
  intro a f s Q h hq hr
  refine kx124 h (fun i p0 p1 => hq a f s _ (fun d e g R hM hQ => ?_) h (kAl_fr h.1 kfr_rf)) (fun p0 => hr 2 1 f (by decide) (fun d e g R hM hQ => ?_) h kfr_rf)
  · have h45 := hM.2.2.2.2.2.2.2.2
    refine kx293 hM h.2.2.2.1 (fun i_ r0 r1 => ?_) (fun r0 => absurd p1 (r0 i p0))
    obtain rfl := kj_u (by omega) (by omega) r1 p1
    exact hQ
  · exact kx293 hM h.2.2.2.1 (fun i_ r0 r1 => absurd r1 (p0 i_ r0)) (fun r0 => hQ)
theorem kj123 : kJ adK 123 292 [] [] := by
  intro a f s Q h hq hr
  exact kx123 h (fun f' c p0 p1 p2 => hq a f' _ _ (fun d e g R hM hQ => kx292 hM h.2.2.2.1 (kMQ_e (s' := s.setW (kOut s.o (kVl s.o)).length c) ⟨kZe_rf _, rfl, fun _ _ => kZe_rf _, fun i _ => kSe_v s.v i, rfl, rfl, fun _ _ => rfl, rfl, fun i hi => p1 i hi, rfl, rfl⟩ hQ)) p0 (kAl_fr h.1 (kj_f8 p2)))
theorem kj90 : kJ adK 90 218 [] [] := by
  intro a f s Q h hq hr
  refine kx90 h (fun f' e st p0 p1 p2 p3 p4 => hq a f' _ _ (fun d e' g R hM hQ => ?_) p3 (kAl_fr h.1 p4)) (fun f' z s' p0 p1 p2 p3 p4 => hq a f' s' _ (fun d e' g R hM hQ => ?_) p3 (kAl_fr h.1 p4))
  · refine kx218 hM h.2.2.2.1 (fun e1 st1 r0 r1 => ?_) (fun z r0 r1 => by rw [p0] at r0; cases r0)
    rw [p0] at r0
    injection r0 with r0
    injection r0 with r2 r3
    subst r2 r3
    exact hQ
  · refine kx218 hM h.2.2.2.1 (fun e1 st1 r0 r1 => by rw [p0] at r0; cases r0) (fun z1 r0 r1 => ?_)
    rw [p0] at r0
    injection r0 with r0
    subst r0
    exact kMQ_e p2 hQ
theorem kj91 : kJ adK 91 224 [] [] := by
  intro a f s Q h hq hr
  refine kx91 h (fun f' e st p0 p1 p2 p3 p4 => hq a f' _ _ (fun d e' g R hM hQ => ?_) p3 (kAl_fr h.1 p4)) (fun a' f' n X d s' p0 p1 p2 p3 p4 p5 p6 => hq a' f' s' _ (fun b e' g R hM hQ => ?_) p5 p6)
  · refine kx224 hM h.2.2.2 (fun e1 st1 r0 r1 => ?_) (fun n X r0 => by rw [p0] at r0; cases r0)
    rw [p0] at r0
    injection r0 with r0
    injection r0 with r2 r3
    subst r2 r3
    exact hQ
  · refine kx224 hM h.2.2.2 (fun e1 st1 r0 r1 => by rw [p0] at r0; cases r0) (fun n1 X1 r0 => ?_)
    rw [p0] at r0
    injection r0 with r0
    injection r0 with r2 r3
    subst r2 r3
    exact ⟨d, s', p4, hQ⟩
theorem kj89 : kJ adK 89 198 [.int x1, .int x2, .int x3, .int x4, .int x5] [(0, 1)] := by
  intro a f s Q h hq hr
  refine kx89 h (fun f' c p0 p1 p2 p3 => hq a f' _ _ (fun d e g R hM hQ => ?_) p1 (kAl_fr h.1 (kj_f8 p3))) (fun hn => hr 0 1 f (by decide) (fun d e g R hM hQ => ?_) h kfr_rf)
  · refine kx198 hM h.2.2.2.1 (fun c1 r0 r1 => ?_) (fun hn => by omega)
    exact kMQ_e (s' := s.setB (s.bl + (kApl s x1 x2 x3 x4 x5).length) c) ⟨kZe_rf _, rfl, fun _ _ => kZe_rf _, fun i _ => kSe_v s.v i, rfl, rfl, fun i hi => (p2 i hi).trans (r1 i hi).symm, rfl, fun _ _ => rfl, rfl, rfl⟩ hQ
  · exact kx198 hM h.2.2.2.1 (fun c1 r0 r1 => by omega) (fun _ => hQ)
theorem kj125 : kJ adK 125 294 [] [(0, 1)] := by
  intro a f s Q h hq hr
  refine kx125 h (fun f' s' p0 p1 p2 p3 => hq a f' s' _ (fun d e g R hM hQ => ?_) p2 (kAl_fr h.1 (kj_f8 p3))) (fun hn => hr 0 1 f (by decide) (fun d e g R hM hQ => ?_) h kfr_rf)
  · exact kx294 hM h.2.2.2 (fun _ => kMQ_e p1 hQ) (fun hn => by omega)
  · exact kx294 hM h.2.2.2 (fun r0 => by omega) (fun _ => hQ)
theorem kj127 : kJ adK 127 297 [.int x] [(2, 1), (0, 2)] := by
  intro a f s Q h hq hr
  refine kx127 h (fun i z f' s' p0 p1 p2 p3 p4 p5 => hq a f' s' _ (fun d e g R hM hQ => ?_) p4 (kAl_fr h.1 (kj_f8 p5))) (fun i p0 p1 p2 => hr 0 2 f (by decide) (fun d e g R hM hQ => ?_) h kfr_rf) (fun hn => hr 2 1 f (by decide) (fun d e g R hM hQ => ?_) h kfr_rf)
  · refine kx297 hM h.2.2.2 (fun i_ z_ r0 r1 r2 => ?_) (fun i_ r0 r1 r2 => ?_) (fun hn => absurd ⟨i, Nat.zero_le _, by omega, p1⟩ hn)
    · obtain rfl := kj_u (by omega) (by omega) r1 p1
      rw [p2] at r2
      injection r2 with r2
      subst r2
      exact kMQ_e p3 hQ
    · obtain rfl := kj_u (by omega) (by omega) r1 p1
      rw [p2] at r2
      cases r2
  · refine kx297 hM h.2.2.2 (fun i_ z_ r0 r1 r2 => ?_) (fun i_ r0 r1 r2 => hQ) (fun hn => absurd ⟨i, Nat.zero_le _, by omega, p1⟩ hn)
    obtain rfl := kj_u (by omega) (by omega) r1 p1
    rw [p2] at r2
    cases r2
  · exact kx297 hM h.2.2.2 (fun i_ z_ r0 r1 r2 => absurd ⟨i_, Nat.zero_le _, by omega, r1⟩ hn) (fun i_ r0 r1 r2 => absurd ⟨i_, Nat.zero_le _, by omega, r1⟩ hn) (fun _ => hQ)
end KXJ
