/-! ===== what holds between calls ===== -/
def Hrl (G : Gh) (C S : St) : Prop := ∀ y, y < G.H → S 36 y = nI (G.ht y) ∧ S 37 y = G.hd y ∧ S 38 y = C 38 y + nI 1
def IV (G : Gh) (C S : St) (n m c : Nat) : Prop := OKG G ∧ VC G C ∧ Wfr G C ∧ W4 G ∧ Wlen C ∧ (∃ nr, Wro G C nr ∧ ∀ j, j < nr → S 22 j = C 22 j) ∧ (∃ q, q ≤ 7 ∧ C 32 0 = nI q) ∧ C 42 0 = nI 0 ∧ JK G C ∧ (C 17 0 = nI m ∧ m ≤ G.N ∧ m ≤ c) ∧ (∀ a, G.W a ≠ 0 → a < n) ∧ Qv C S ∧ (∀ t, t < G.T → C 3 t = nI 1 → S 5 t = C 5 t) ∧ Hrl G C S ∧ ∃ E, Hs G S E m C
section DR
variable {G : Gh} {C C' S S' : St} {n m c : Nat}
/-- the numbers change where neither things nor what was done is told -/
theorem IV_fr (iv : IV G C S n m c) (k : ∀ f, hf f = true → ∀ j, C' f j = C f j) (h17 : C' 17 0 = C 17 0) (h16 : ∀ j, j < 6 * m → S' 16 j = S 16 j) (hS : ∀ f, f = 5 ∨ f = 36 ∨ f = 37 ∨ f = 38 → ∀ j, S' f j = S f j) (qv : Qv C' S') (vc : VC G C') (wf : Wfr G C') (wl : Wlen C') (wr : ∃ nr, Wro G C' nr ∧ ∀ j, j < nr → S' 22 j = C' 22 j) (w32 : ∃ q, q ≤ 7 ∧ C' 32 0 = nI q) (w42 : C' 42 0 = nI 0) : IV G C' S' n m (c + 1) := by
  obtain ⟨hG, _, _, w4, _, _, _, _, jk, ⟨m1, m2, m3⟩, hn, _, h5, hh, E, hs⟩ := iv
  refine ⟨hG, vc, wf, w4, wl, wr, w32, w42, JK_eq (fun f hk j => k f (by unfold hf; rw [hk]; rfl) j) jk, ⟨by rw [h17]; exact m1, m2, by omega⟩, hn, qv, fun t ht h3 => ?_, fun y hy => ?_, E, Hs_ext hG m C C' k h16 (fun _ _ => rfl) hs⟩
  · rw [k 3 rfl] at h3
    rw [hS 5 (by omega), k 5 rfl]
    exact h5 t ht h3
  · rw [hS 36 (by omega), hS 37 (by omega), hS 38 (by omega), k 38 rfl]
    exact hh y hy
theorem IV_Sq (iv : IV G C S n m c) (sq : Sq m S S') : IV G C S' n m c := by
  obtain ⟨hG, vc, wf, w4, wl, ⟨nr, wr, w22⟩, w32, w42, jk, m1, hn, qv, h5, hh, E, hs⟩ := iv
  have e := sq.1
  refine ⟨hG, vc, wf, w4, wl, ⟨nr, wr, fun j hj => by rw [e 22 j (by decide) rfl]; exact w22 j hj⟩, w32, w42, jk, m1, hn, fun f j hf => ?_, fun t ht h3 => by rw [e 5 t (by decide) rfl]; exact h5 t ht h3, fun y hy => ?_, E, Hs_ext hG m C C (fun _ _ _ => rfl) sq.2 (fun _ _ => rfl) hs⟩
  · rw [e f j (fun y => by subst y; cases hf) ?_]
    · exact qv f j hf
    · unfold shf at hf
      simp at hf
      rcases hf with y | y | y | y | y | y | y | y | y | y | y | y | y | y | y | y | y | y | y | y | y | y | y | y | y | y <;> subst y <;> rfl
  · rw [e 36 y (by decide) rfl, e 37 y (by decide) rfl, e 38 y (by decide) rfl]
    exact hh y hy
theorem VC_k (vc : VC G C) (h : ∀ f, f = 22 ∨ f = 44 → ∀ j, C' f j = C f j) : VC G C' := VC_eq vc h
theorem Wfr_k (wf : Wfr G C) (h : ∀ f, f = 9 ∨ f = 10 ∨ f = 11 ∨ f = 12 → ∀ j, C' f j = C f j) : Wfr G C' := ⟨fun j hj => by rw [h 9 (by omega), h 10 (by omega), h 11 (by omega)]; exact wf.1 j hj, fun j hj => by rw [h 12 (by omega)]; exact wf.2 j hj⟩
/-- numbers that change in status, locks, what locks are held alone -/
theorem IV_st (iv : IV G C S n m c) (k : ∀ f, f ≠ 0 → f ≠ 14 → f ≠ 15 → f ≠ 42 → ∀ j, C' f j = C f j) (ks : ∀ f, f ≠ 0 → f ≠ 14 → f ≠ 15 → ∀ j, S' f j = S f j) (q0 : ∀ f j, f = 0 ∨ f = 14 ∨ f = 15 → S' f j = C' f j) (w42 : C' 42 0 = C 42 0) : IV G C' S' n m (c + 1) := by
  have vc := iv.2.1
  have wf := iv.2.2.1
  have wl := iv.2.2.2.2.1
  obtain ⟨nr, wr, w22⟩ := iv.2.2.2.2.2.1
  obtain ⟨q, q1, q2⟩ := iv.2.2.2.2.2.2.1
  have i42 := iv.2.2.2.2.2.2.2.1
  have qv := iv.2.2.2.2.2.2.2.2.2.2.2.1
  refine IV_fr iv (fun f h j => k f (fun y => by subst y; cases h) (fun y => by subst y; cases h) (fun y => by subst y; cases h) (fun y => by subst y; cases h) j) (k 17 (by decide) (by decide) (by decide) (by decide) 0) (fun j _ => ks 16 (by decide) (by decide) (by decide) j) (fun f h j => ks f (by omega) (by omega) (by omega) j) (fun f j h => ?_) (VC_k vc (fun f h j => k f (by omega) (by omega) (by omega) (by omega) j)) (Wfr_k wf (fun f h j => k f (by omega) (by omega) (by omega) (by omega) j)) (fun j => by rw [k 24 (by decide) (by decide) (by decide) (by decide)]; exact wl j) ⟨nr, Wro_eq wr (fun f h j => k f (by omega) (by omega) (by omega) (by omega) j), fun j hj => by rw [ks 22 (by decide) (by decide) (by decide), k 22 (by decide) (by decide) (by decide) (by decide)]; exact w22 j hj⟩ ⟨q, q1, by rw [k 32 (by decide) (by decide) (by decide) (by decide)]; exact q2⟩ (by rw [w42]; exact i42)
  by_cases e : f = 0 ∨ f = 14 ∨ f = 15
  · exact q0 f j e
  · rw [k f (by omega) (by omega) (by omega) (fun y => by subst y; cases h), ks f (by omega) (by omega) (by omega)]
    exact qv f j h
/-- two answers and what is behind them -/
def RR (G : Gh) (n m c : Nat) (rC rS : Int32 × St) : Prop := rC.1 = rS.1 ∧ IV G rC.2 rS.2 n m (c + 1) ∧ rS.2 17 0 = nI m
theorem IV_qv (iv : IV G C S n m c) : Qv C S := iv.2.2.2.2.2.2.2.2.2.2.2.1
theorem IV_17 (iv : IV G C S n m c) : S 17 0 = nI m := by rw [IV_qv iv 17 0 rfl]; exact iv.2.2.2.2.2.2.2.2.2.1.1
theorem IV_0 (iv : IV G C S n m c) (x : Int32) : IV G (sup C 0 0 x) (sup S 0 0 x) n m (c + 1) := IV_st iv (fun f h _ _ _ j => sup_f h) (fun f h _ _ j => sup_f h) (fun f j h => Qv_sup (IV_qv iv) 0 0 x f j (by rcases h with y | y | y <;> subst y <;> rfl)) (sup_f (by decide))
theorem RR_bd (iv : IV G C S n m c) {w : Nat} : RR G n m c (bdS C w) (bdS S w) := ⟨rfl, IV_0 iv _, by rw [bdS_2, sup_f (by decide)]; exact IV_17 iv⟩
theorem RR_fn (iv : IV G C S n m c) {x y : Int32} (e : x = y) : RR G n m c (fnS C x) (fnS S y) := ⟨e, IV_0 iv _, by rw [fnS_2, sup_f (by decide)]; exact IV_17 iv⟩
theorem IV_c (iv : IV G C S n m c) : IV G C S n m (c + 1) := by
  obtain ⟨a1, a2, a3, a4, a5, a6, a7, a8, a9, ⟨b1, b2, b3⟩, a11⟩ := iv
  exact ⟨a1, a2, a3, a4, a5, a6, a7, a8, a9, ⟨b1, b2, by omega⟩, a11⟩
theorem RR_id (iv : IV G C S n m c) {x y : Int32} (e : x = y) : RR G n m c (x, C) (y, S) := ⟨e, IV_c iv, IV_17 iv⟩
theorem IV_lk (iv : IV G C S n m c) (w : Nat) (x : Int32) : IV G (sup (lvC2 (sup (lkC C) 0 0 x)) 0 0 x) (sup (lkd S) 0 0 x) n m (c + 1) := by
  have qv := IV_qv iv
  refine IV_st iv (fun f a b c e j => ?_) (fun f a b c j => ?_) (fun f j h => ?_) ?_
  · unfold lvC2 lkC lkd
    rw [sup_f a, sup_f e, sup_f a, sup_f e, sup_f c, sup_f b]
  · unfold lkd
    rw [sup_f a, sup_f c, sup_f b]
  · by_cases z : f = 0 ∧ j = 0
    · obtain ⟨rfl, rfl⟩ := z
      rw [sup_eq, sup_eq]
    · rw [sup_ne z, sup_ne z]
      unfold lvC2 lkC
      rw [sup_f (by omega), sup_ne z, sup_f (by omega)]
      unfold lkd
      rw [qv 14 0 rfl, qv 15 0 rfl]
      exact Qv_sup (Qv_sup qv _ _ _) _ _ _ f j (by rcases h with y | y | y <;> subst y <;> rfl)
  · rw [sup_f (by decide)]
    unfold lvC2 lkC
    rw [sup_eq, sup_f (by decide), sup_eq, i_as, i_as]
/-- what the ghost keeps over a call -/
def Gq (G G' : Gh) (n : Nat) : Prop := G'.ad 1 = G.ad 1 ∧ ∀ a, a < n → G.W a = 0 → G'.W a = 0
/-- a call on both sides: alike, and all holds behind it -/
def OpQ (d : Nat) (G : Gh) (C S : St) (n k m c : Nat) (m0 : Mm) (s0 : Nat → Nat × Nat) (mi : Nat) (L : Lc) (mr : Nat) (Lr : Nat → Lc) : Prop := ∃ G' C' r n' k', Gr G G' C' m0 s0 n n' k' (ex (d + 13) mi 0 L [] (cM G C m0, cS G s0, n, k)) r.1 ∧ Gq G G' n ∧ n ≤ n' ∧ n' ≤ n + 4 ∧ k' ≤ k + 60 ∧ (∃ m', IV G' C' r.2 n' m' (c + 1)) ∧ ∀ o F, FrO o F m → Md o m F (ex (d + 13) mr 0 (Lr o) [] (hM o F S)) r
section DR2
variable {d k mi mr : Nat} {m0 : Mm} {s0 : Nat → Nat × Nat} {L : Lc} {Lr : Nat → Lc} {rC rS : Int32 × St}
theorem Gr_rt (h : ex (d + 13) mi 0 L [] (cM G C m0, cS G s0, n, k) = rtC G m0 s0 n k rC) : Gr G G rC.2 m0 s0 n n k (ex (d + 13) mi 0 L [] (cM G C m0, cS G s0, n, k)) rC.1 := ⟨m0, s0, h, fun _ _ _ => ⟨rfl, rfl⟩⟩
theorem OpM (h : ex (d + 13) mi 0 L [] (cM G C m0, cS G s0, n, k) = rtC G m0 s0 n k rC) (rr : RR G n m c rC rS) (hm : ∀ o F, FrO o F m → Md o m F (ex (d + 13) mr 0 (Lr o) [] (hM o F S)) rS) : OpQ d G C S n k m c m0 s0 mi L mr Lr :=
  ⟨G, rC.2, rS, n, k, by have := Gr_rt h; rw [rr.1] at this; exact this, ⟨rfl, fun _ _ h => h⟩, Nat.le_refl _, by omega, by omega, ⟨m, rr.2.1⟩, hm⟩
theorem OpR (h : ex (d + 13) mi 0 L [] (cM G C m0, cS G s0, n, k) = rtC G m0 s0 n k rC) (rr : RR G n m c rC rS) (hm : ∀ o p pl M s n k, Op o p → ex (d + 13) mr 0 (Lr o) [] (mM o p S M, sM o p pl s, n, k) = rt o p pl M s n k rS) : OpQ d G C S n k m c m0 s0 mi L mr Lr :=
  OpM h rr (fun o F hF => Md_rt (hm o F.p F.pl F.m0 F.s0 F.n F.k hF.1) hF rr.2.2)
end DR2
end DR
