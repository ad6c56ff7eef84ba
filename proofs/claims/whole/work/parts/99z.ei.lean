/-! ===== the law: a call, all calls ===== -/
def HH (b o L : Nat) (xs : Nat → Int32) (G : Gh) (C S : St) (p pl m : Nat) (h : Hp) : Prop := h.1 = cM G C h.1 ∧ h.2.1 = cS G h.2.1 ∧ h.1 = mM o p S h.1 ∧ h.2.1 = sM o p pl h.2.1 ∧ (∀ j, h.1 b j = .int (xs j)) ∧ h.2.1 b = (30, L) ∧ b < h.2.2.1 ∧ G.W b = 0 ∧ (b < o ∨ o + 27 < b) ∧ b ≠ p ∧ FrO o (mkFr p pl h.1 h.2.1 h.2.2.1 h.2.2.2) m ∧ (∀ a, G.W a ≠ 0 → (a < o ∨ o + 27 < a) ∧ a ≠ p)
/-- a call on both sides, from a heap on -/
def StQ (d b o L : Nat) (xs : Nat → Int32) (A c pl : Nat) (h : Hp) (mi : Nat) (l1 : Lc) (mr : Nat) (l2 : Lc) : Prop := ∃ x h1 h2 G C S p2 pl2 m, ex (d + 13) mi 0 l1 [] h = some (some (.int x), h1) ∧ ex (d + 13) mr 0 l2 [] h1 = some (some (.int x), h2) ∧ h1.2.1 b = (30, L) ∧ (∀ j, h1.1 b j = .int (xs j)) ∧ h1.2.1 o = (11, 42) ∧ HH b o L xs G C S p2 pl2 m h2 ∧ IV G C S h2.2.2.1 m (c + 1) ∧ G.ad 1 = A ∧ h2.2.2.1 ≤ h.2.2.1 + 5 ∧ h2.2.2.2 + 2 * pl ≤ h.2.2.2 + 60 + 2 * pl2
section EM
variable {d b o L : Nat} {xs : Nat → Int32} {G : Gh} {C S : St} {p pl n m c : Nat} {M M0 : Mm} {s s' : Nat → Nat × Nat} {h : Hp}
theorem mM_sf (e : ∀ a, a = o ∨ a = p ∨ (o < a ∧ a ≤ o + 27) → M a = M0 a) (h0 : M0 = mM o p S M0) : M = mM o p S M := by
  funext a j
  by_cases hr : a = o ∨ a = p ∨ (o < a ∧ a ≤ o + 27)
  · rw [e a hr]
    have := congrFun (congrFun h0 a) j
    rw [this]
    unfold mM
    by_cases h1 : a = o
    · rw [if_pos h1, if_pos h1]
    · rw [if_neg h1, if_neg h1]
      by_cases h2 : a = p
      · rw [if_pos h2, if_pos h2]
      · rw [if_neg h2, if_neg h2]
        by_cases h3 : o < a ∧ a ≤ o + 27 ∧ a ≠ o + 12
        · rw [if_pos h3, if_pos h3]
        · rw [if_neg h3, if_neg h3, e a hr]
  · unfold mM
    rw [if_neg (fun y => hr (Or.inl y)), if_neg (fun y => hr (Or.inr (Or.inl y))), if_neg (fun y => hr (Or.inr (Or.inr ⟨y.1, y.2.1⟩)))]
theorem sM_sf (e : ∀ a, a = o ∨ a = p ∨ (o < a ∧ a ≤ o + 27) → s a = s' a) (h0 : s' = sM o p pl s') : s = sM o p pl s := by
  funext a
  by_cases hr : a = o ∨ a = p ∨ (o < a ∧ a ≤ o + 27)
  · rw [e a hr]
    have := congrFun h0 a
    rw [this]
    unfold sM
    by_cases h1 : a = o
    · rw [if_pos h1, if_pos h1]
    · rw [if_neg h1, if_neg h1]
      by_cases h2 : a = p
      · rw [if_pos h2, if_pos h2]
      · rw [if_neg h2, if_neg h2]
        by_cases h3 : o < a ∧ a ≤ o + 27 ∧ a ≠ o + 12
        · rw [if_pos h3, if_pos h3]
        · rw [if_neg h3, if_neg h3, e a hr]
  · unfold sM
    rw [if_neg (fun y => hr (Or.inl y)), if_neg (fun y => hr (Or.inr (Or.inl y))), if_neg (fun y => hr (Or.inr (Or.inr ⟨y.1, y.2.1⟩)))]
theorem mM_id : mM o p S M = mM o p S (mM o p S M) := by
  funext a j
  unfold mM
  by_cases h1 : a = o
  · rw [if_pos h1, if_pos h1]
  · rw [if_neg h1, if_neg h1]
    by_cases h2 : a = p
    · rw [if_pos h2, if_pos h2]
    · rw [if_neg h2, if_neg h2]
      by_cases h3 : o < a ∧ a ≤ o + 27 ∧ a ≠ o + 12
      · rw [if_pos h3, if_pos h3]
      · rw [if_neg h3, if_neg h3]
theorem sM_id : sM o p pl s = sM o p pl (sM o p pl s) := by
  funext a
  unfold sM
  by_cases h1 : a = o
  · rw [if_pos h1, if_pos h1]
  · rw [if_neg h1, if_neg h1]
    by_cases h2 : a = p
    · rw [if_pos h2, if_pos h2]
    · rw [if_neg h2, if_neg h2]
      by_cases h3 : o < a ∧ a ≤ o + 27 ∧ a ≠ o + 12
      · rw [if_pos h3, if_pos h3]
      · rw [if_neg h3, if_neg h3]
theorem mM_off {a : Nat} (h1 : a < o ∨ o + 27 < a) (h2 : a ≠ p) : mM o p S M a = M a := by
  funext j
  unfold mM
  rw [if_neg (by omega), if_neg h2, if_neg (by omega)]
theorem sM_off {a : Nat} (h1 : a < o ∨ o + 27 < a) (h2 : a ≠ p) : sM o p pl s a = s a := by
  unfold sM
  rw [if_neg (by omega), if_neg h2, if_neg (by omega)]
theorem cM_sf (e : ∀ a, G.W a ≠ 0 → M a = M0 a) (h0 : ∀ a, G.W a ≠ 0 → ∀ j, M0 a j = cW G (G.W a) j (C (loc (G.W a) j).1 (loc (G.W a) j).2)) : M = cM G C M := by
  funext a j
  unfold cM
  by_cases hw : G.W a = 0
  · rw [if_pos hw]
  · rw [if_neg hw, e a hw, h0 a hw j]
theorem cS_sf (e : ∀ a, G.W a ≠ 0 → s a = s' a) (h0 : ∀ a, G.W a ≠ 0 → s' a = cT G (G.W a)) : s = cS G s := by
  funext a
  unfold cS
  by_cases hw : G.W a = 0
  · rw [if_pos hw]
  · rw [if_neg hw, e a hw, h0 a hw]
theorem IV_n {n' : Nat} (iv : IV G C S n m c) (hn : n ≤ n') : IV G C S n' m c := by
  obtain ⟨a1, a2, a3, a4, a5, a6, a7, a8, a9, a10, a11, a12⟩ := iv
  exact ⟨a1, a2, a3, a4, a5, a6, a7, a8, a9, a10, fun a ha => Nat.lt_of_lt_of_le (a11 a ha) hn, a12⟩
theorem step1 {mi mr : Nat} {l1 : Lc} {l2 : Nat → Lc} (hc : c < 512) (hh : HH b o L xs G C S p pl m h) (iv : IV G C S h.2.2.1 m c) (op : OpQ d G C S h.2.2.1 h.2.2.2 m c h.1 h.2.1 mi l1 mr l2) : StQ d b o L xs (G.ad 1) c pl h mi l1 mr (l2 o) := by
  obtain ⟨c1, c2, r1, r2, v1, v2, v3, v4, v5, v6, fr, wv⟩ := hh
  obtain ⟨G', C', r, n', k', ⟨m', s', x1, x2⟩, ⟨gA, gW⟩, n1, n2, k1, ⟨mm, iv'⟩, hm⟩ := op
  obtain ⟨f1, f2, f3, f4, f5, f6, f7⟩ := fr
  have f2' : p < h.2.2.1 := f2
  have f3' : o + 27 < h.2.2.1 := f3
  rw [← c1, ← c2] at x1
  have hw : ∀ a, a < h.2.2.1 → G.W a = 0 → cM G' C' m' a = h.1 a ∧ cS G' s' a = h.2.1 a := fun a ha w0 => by
    have w1 := gW a ha w0
    constructor
    · funext j
      unfold cM
      rw [if_pos w1, (x2 a ha w0).1]
    · unfold cS
      rw [if_pos w1, (x2 a ha w0).2]
  have rf0 : ∀ a, a = o ∨ a = p ∨ (o < a ∧ a ≤ o + 27) → a < h.2.2.1 ∧ G.W a = 0 := fun a ha => by
    refine ⟨by omega, ?_⟩
    by_cases w : G.W a = 0
    · exact w
    · have := wv a w
      omega
  have R1 : cM G' C' m' = mM o p S (cM G' C' m') := mM_sf (fun a ha => (hw a (rf0 a ha).1 (rf0 a ha).2).1) r1
  have R2 : cS G' s' = sM o p pl (cS G' s') := sM_sf (fun a ha => (hw a (rf0 a ha).1 (rf0 a ha).2).2) r2
  have wv' : ∀ a, G'.W a ≠ 0 → (a < o ∨ o + 27 < a) ∧ a ≠ p ∧ a < n' := fun a ha => by
    have a1 := iv'.2.2.2.2.2.2.2.2.2.2.1 a ha
    by_cases lt : a < h.2.2.1
    · have w : G.W a ≠ 0 := fun y => ha (gW a lt y)
      have := wv a w
      exact ⟨this.1, this.2, a1⟩
    · exact ⟨by omega, by omega, a1⟩
  obtain ⟨F2, Z, y1, y2, y3, y4⟩ := hm o (mkFr p pl (cM G' C' m') (cS G' s') n' k') ⟨f1, Nat.lt_of_lt_of_le f2' n1, Nat.lt_of_lt_of_le f3' n1, f4, f5, f6, f7⟩
  have eh1 : hM o (mkFr p pl (cM G' C' m') (cS G' s') n' k') S = (cM G' C' m', cS G' s', n', k') := by
    show (mM o p S (cM G' C' m'), sM o p pl (cS G' s'), n', k') = _
    rw [← R1, ← R2]
  rw [eh1] at y1
  have st : stM r.2 = mm := by
    have := IV_mc iv'
    unfold stM
    rw [IV_17 iv', nI_clamp (by omega)]
  rw [st] at y3 y4
  obtain ⟨g1, g2, g3, g4, g5, g6, g7⟩ := y3
  have b1 := hw b v3 v4
  have cell' : ∀ a, G'.W a ≠ 0 → ∀ j, cM G' C' m' a j = cW G' (G'.W a) j (C' (loc (G'.W a) j).1 (loc (G'.W a) j).2) := fun a w j => by unfold cM; rw [if_neg w]
  have shp' : ∀ a, G'.W a ≠ 0 → cS G' s' a = cT G' (G'.W a) := fun a w => by unfold cS; rw [if_neg w]
  have bn : b < n' := Nat.lt_of_lt_of_le v3 n1
  have fac : (∀ a, a < n' → a ≠ p → F2.m0 a = cM G' C' m' a ∧ F2.s0 a = cS G' s' a ∧ a ≠ F2.p) ∧ n' ≤ F2.n ∧ F2.n ≤ n' + 1 ∧ F2.k + 2 * pl ≤ k' + 2 * F2.pl := by
    rcases y2 with e | ⟨e1, e2, e3, e4, e5, e6⟩
    · subst e
      exact ⟨fun a ha hp => ⟨rfl, rfl, hp⟩, Nat.le_refl _, Nat.le_succ _, Nat.le_refl _⟩
    · have e1' : F2.p = n' := e1
      have e2' : F2.pl = 2 * pl := e2
      have e4' : F2.n = n' + 1 := e4
      have e5' : F2.k = k' + 2 * pl := e5
      refine ⟨fun a ha hp => ?_, by omega, by omega, by omega⟩
      obtain ⟨q1, q2⟩ := e3 a hp (show a ≠ n' by omega)
      exact ⟨q1, q2, by omega⟩
  obtain ⟨fc, fn1, fn2, fk⟩ := fac
  refine ⟨r.1, (cM G' C' m', cS G' s', n', k'), hM o F2 Z, G', C', Z, F2.p, F2.pl, mm, x1, y1, by rw [← v2]; exact b1.2, fun j => by rw [← v1 j]; exact congrFun b1.1 j, ?_, ⟨?_, ?_, mM_id, sM_id, fun j => ?_, ?_, Nat.lt_of_lt_of_le bn fn1, gW b v3 v4, v5, (fc b bn v6).2.2, ⟨g1, g2, g3, g4, g5, g6, g7⟩, fun a ha => ⟨(wv' a ha).1, (fc a (wv' a ha).2.2 (wv' a ha).2.1).2.2⟩⟩, IV_n (IV_Sq iv' y4) fn1, gA, ?_, ?_⟩
  · show cS G' s' o = (11, 42)
    rw [R2]
    exact sM_o
  · refine cM_sf (M0 := cM G' C' m') (fun a ha => ?_) cell'
    obtain ⟨w1, w2, w3⟩ := wv' a ha
    show mM o F2.p Z F2.m0 a = _
    rw [mM_off w1 (fc a w3 w2).2.2]
    exact (fc a w3 w2).1
  · refine cS_sf (s' := cS G' s') (fun a ha => ?_) shp'
    obtain ⟨w1, w2, w3⟩ := wv' a ha
    show sM o F2.p F2.pl F2.s0 a = _
    rw [sM_off w1 (fc a w3 w2).2.2]
    exact (fc a w3 w2).2.1
  · show mM o F2.p Z F2.m0 b j = _
    rw [mM_off v5 (fc b bn v6).2.2, (fc b bn v6).1, b1.1]
    exact v1 j
  · show sM o F2.p F2.pl F2.s0 b = _
    rw [sM_off v5 (fc b bn v6).2.2, (fc b bn v6).2.1, b1.2]
    exact v2
  · show F2.n ≤ _
    omega
  · show F2.k + 2 * pl ≤ _
    have k1' : k' ≤ h.2.2.2 + 60 := k1
    omega
/-- a round of the law's loop leaves so much -/
def RdQ (d b o L : Nat) (xs : Nat → Int32) (A c pl i : Nat) (h : Hp) (X : Option Rs) : Prop := ∃ h2 G C S p2 pl2 m, X = ex (d + 14) 209 1338 [some (.ref b), some (.ref A), some (.ref o), some (.int (nI i))] [] h2 ∧ HH b o L xs G C S p2 pl2 m h2 ∧ IV G C S h2.2.2.1 m (c + 1) ∧ G.ad 1 = A ∧ h2.2.2.1 ≤ h.2.2.1 + 5 ∧ h2.2.2.2 + 2 * pl ≤ h.2.2.2 + 60 + 2 * pl2
theorem and63 (x : Int32) : ((x &&& nI 63).toInt < 0 ∨ 39 < (x &&& nI 63).toInt) ∨ ∃ j, j < 40 ∧ x &&& nI 63 = nI j := by
  by_cases h : (x &&& nI 63).toInt < 0 ∨ 39 < (x &&& nI 63).toInt
  · exact Or.inl h
  · right
    have e : x &&& nI 63 = nI (x &&& nI 63).toInt.toNat := by
      apply Int32.toInt_inj.mp
      rw [nI_toInt (by omega)]
      omega
    exact ⟨(x &&& nI 63).toInt.toNat, by omega, e⟩
theorem t_A (hh : HH b o L xs G C S p pl m h) (hG : OKG G) : h.2.1 (G.ad 1) = (10, 17) := by
  rw [hh.2.1]
  exact k_s1 hG
theorem rnd_0 {i : Nat} (hc : c < 512) (hh : HH b o L xs G C S p pl m h) (iv : IV G C S h.2.2.1 m c) (g : i + 4 < L) (gL : L ≤ 2560) : RdQ d b o L xs (G.ad 1) c pl i h (ex (d + 14) 209 32 [some (.ref b), some (.ref (G.ad 1)), some (.ref o), some (.int (nI i))] [.int (nI 0)] h) := by
  obtain ⟨x, h1, h2, G2, C2, S2, p2, pl2, m2, y1, y2, y3, y4, y5, y6, y7, y8, y9, y10⟩ := step1 (d := d) hc hh iv (op0 (d := d) iv (a := xs (i + 1)))
  refine ⟨h2, G2, C2, S2, p2, pl2, m2, ?_, y6, y7, y8, y9, y10⟩
  rw [x209_32_0]
  exact lw_0 y1 y2 hh.2.2.2.2.2.1 hh.2.2.2.2.1 (t_A hh iv.1) y3 y4 y5 g gL
theorem rnd_1 {i : Nat} (hc : c < 512) (hh : HH b o L xs G C S p pl m h) (iv : IV G C S h.2.2.1 m c) (g : i + 4 < L) (gL : L ≤ 2560) : RdQ d b o L xs (G.ad 1) c pl i h (ex (d + 14) 209 32 [some (.ref b), some (.ref (G.ad 1)), some (.ref o), some (.int (nI i))] [.int (nI 1)] h) := by
  obtain ⟨x, h1, h2, G2, C2, S2, p2, pl2, m2, y1, y2, y3, y4, y5, y6, y7, y8, y9, y10⟩ := step1 (d := d) hc hh iv (op1 (d := d) iv (a := xs (i + 1)))
  refine ⟨h2, G2, C2, S2, p2, pl2, m2, ?_, y6, y7, y8, y9, y10⟩
  rw [x209_32_1]
  exact lw_1 y1 y2 hh.2.2.2.2.2.1 hh.2.2.2.2.1 (t_A hh iv.1) y3 y4 y5 g gL
theorem rnd_2 {i : Nat} (hc : c < 512) (hh : HH b o L xs G C S p pl m h) (iv : IV G C S h.2.2.1 m c) (g : i + 4 < L) (gL : L ≤ 2560) : RdQ d b o L xs (G.ad 1) c pl i h (ex (d + 14) 209 32 [some (.ref b), some (.ref (G.ad 1)), some (.ref o), some (.int (nI i))] [.int (nI 2)] h) := by
  obtain ⟨x, h1, h2, G2, C2, S2, p2, pl2, m2, y1, y2, y3, y4, y5, y6, y7, y8, y9, y10⟩ := step1 (d := d) hc hh iv (op2 (d := d) iv)
  refine ⟨h2, G2, C2, S2, p2, pl2, m2, ?_, y6, y7, y8, y9, y10⟩
  rw [x209_32_2]
  exact lw_2 y1 y2 hh.2.2.2.2.2.1 hh.2.2.2.2.1 (t_A hh iv.1) y3 y4 y5 g gL
theorem rnd_3 {i : Nat} (hc : c < 512) (hh : HH b o L xs G C S p pl m h) (iv : IV G C S h.2.2.1 m c) (g : i + 4 < L) (gL : L ≤ 2560) : RdQ d b o L xs (G.ad 1) c pl i h (ex (d + 14) 209 32 [some (.ref b), some (.ref (G.ad 1)), some (.ref o), some (.int (nI i))] [.int (nI 3)] h) := by
  obtain ⟨x, h1, h2, G2, C2, S2, p2, pl2, m2, y1, y2, y3, y4, y5, y6, y7, y8, y9, y10⟩ := step1 (d := d) hc hh iv (op3 (d := d) iv (a := xs (i + 1)))
  refine ⟨h2, G2, C2, S2, p2, pl2, m2, ?_, y6, y7, y8, y9, y10⟩
  rw [x209_32_3]
  exact lw_3 y1 y2 hh.2.2.2.2.2.1 hh.2.2.2.2.1 (t_A hh iv.1) y3 y4 y5 g gL
theorem rnd_4 {i : Nat} (hc : c < 512) (hh : HH b o L xs G C S p pl m h) (iv : IV G C S h.2.2.1 m c) (g : i + 4 < L) (gL : L ≤ 2560) : RdQ d b o L xs (G.ad 1) c pl i h (ex (d + 14) 209 32 [some (.ref b), some (.ref (G.ad 1)), some (.ref o), some (.int (nI i))] [.int (nI 4)] h) := by
  obtain ⟨x, h1, h2, G2, C2, S2, p2, pl2, m2, y1, y2, y3, y4, y5, y6, y7, y8, y9, y10⟩ := step1 (d := d) hc hh iv (op4 (d := d) iv (a := xs (i + 1)) (b := xs (i + 2)))
  refine ⟨h2, G2, C2, S2, p2, pl2, m2, ?_, y6, y7, y8, y9, y10⟩
  rw [x209_32_4]
  exact lw_4 y1 y2 hh.2.2.2.2.2.1 hh.2.2.2.2.1 (t_A hh iv.1) y3 y4 y5 g gL
theorem rnd_5 {i : Nat} (hc : c < 512) (hh : HH b o L xs G C S p pl m h) (iv : IV G C S h.2.2.1 m c) (g : i + 4 < L) (gL : L ≤ 2560) : RdQ d b o L xs (G.ad 1) c pl i h (ex (d + 14) 209 32 [some (.ref b), some (.ref (G.ad 1)), some (.ref o), some (.int (nI i))] [.int (nI 5)] h) := by
  obtain ⟨x, h1, h2, G2, C2, S2, p2, pl2, m2, y1, y2, y3, y4, y5, y6, y7, y8, y9, y10⟩ := step1 (d := d) hc hh iv (op5 (d := d) iv (a := xs (i + 1)) (b := xs (i + 2)) (v := xs (i + 3)))
  refine ⟨h2, G2, C2, S2, p2, pl2, m2, ?_, y6, y7, y8, y9, y10⟩
  rw [x209_32_5]
  exact lw_5 y1 y2 hh.2.2.2.2.2.1 hh.2.2.2.2.1 (t_A hh iv.1) y3 y4 y5 g gL
theorem rnd_6 {i : Nat} (hc : c < 512) (hh : HH b o L xs G C S p pl m h) (iv : IV G C S h.2.2.1 m c) (g : i + 4 < L) (gL : L ≤ 2560) : RdQ d b o L xs (G.ad 1) c pl i h (ex (d + 14) 209 32 [some (.ref b), some (.ref (G.ad 1)), some (.ref o), some (.int (nI i))] [.int (nI 6)] h) := by
  obtain ⟨x, h1, h2, G2, C2, S2, p2, pl2, m2, y1, y2, y3, y4, y5, y6, y7, y8, y9, y10⟩ := step1 (d := d) hc hh iv (op6 (d := d) iv (a := xs (i + 1)) (b := xs (i + 2)))
  refine ⟨h2, G2, C2, S2, p2, pl2, m2, ?_, y6, y7, y8, y9, y10⟩
  rw [x209_32_6]
  exact lw_6 y1 y2 hh.2.2.2.2.2.1 hh.2.2.2.2.1 (t_A hh iv.1) y3 y4 y5 g gL
theorem rnd_7 {i : Nat} (hc : c < 512) (hh : HH b o L xs G C S p pl m h) (iv : IV G C S h.2.2.1 m c) (g : i + 4 < L) (gL : L ≤ 2560) : RdQ d b o L xs (G.ad 1) c pl i h (ex (d + 14) 209 32 [some (.ref b), some (.ref (G.ad 1)), some (.ref o), some (.int (nI i))] [.int (nI 7)] h) := by
  obtain ⟨x, h1, h2, G2, C2, S2, p2, pl2, m2, y1, y2, y3, y4, y5, y6, y7, y8, y9, y10⟩ := step1 (d := d) hc hh iv (op7 (d := d) iv (a := xs (i + 1)))
  refine ⟨h2, G2, C2, S2, p2, pl2, m2, ?_, y6, y7, y8, y9, y10⟩
  rw [x209_32_7]
  exact lw_7 y1 y2 hh.2.2.2.2.2.1 hh.2.2.2.2.1 (t_A hh iv.1) y3 y4 y5 g gL
theorem rnd_8 {i : Nat} (hc : c < 512) (hh : HH b o L xs G C S p pl m h) (iv : IV G C S h.2.2.1 m c) (g : i + 4 < L) (gL : L ≤ 2560) : RdQ d b o L xs (G.ad 1) c pl i h (ex (d + 14) 209 32 [some (.ref b), some (.ref (G.ad 1)), some (.ref o), some (.int (nI i))] [.int (nI 8)] h) := by
  obtain ⟨x, h1, h2, G2, C2, S2, p2, pl2, m2, y1, y2, y3, y4, y5, y6, y7, y8, y9, y10⟩ := step1 (d := d) hc hh iv (op8 (d := d) iv (a := xs (i + 1)))
  refine ⟨h2, G2, C2, S2, p2, pl2, m2, ?_, y6, y7, y8, y9, y10⟩
  rw [x209_32_8]
  exact lw_8 y1 y2 hh.2.2.2.2.2.1 hh.2.2.2.2.1 (t_A hh iv.1) y3 y4 y5 g gL
theorem rnd_9 {i : Nat} (hc : c < 512) (hh : HH b o L xs G C S p pl m h) (iv : IV G C S h.2.2.1 m c) (g : i + 4 < L) (gL : L ≤ 2560) : RdQ d b o L xs (G.ad 1) c pl i h (ex (d + 14) 209 32 [some (.ref b), some (.ref (G.ad 1)), some (.ref o), some (.int (nI i))] [.int (nI 9)] h) := by
  obtain ⟨x, h1, h2, G2, C2, S2, p2, pl2, m2, y1, y2, y3, y4, y5, y6, y7, y8, y9, y10⟩ := step1 (d := d) hc hh iv (op9 (d := d) iv (a := xs (i + 1)))
  refine ⟨h2, G2, C2, S2, p2, pl2, m2, ?_, y6, y7, y8, y9, y10⟩
  rw [x209_32_9]
  exact lw_9 y1 y2 hh.2.2.2.2.2.1 hh.2.2.2.2.1 (t_A hh iv.1) y3 y4 y5 g gL
theorem rnd_10 {i : Nat} (hc : c < 512) (hh : HH b o L xs G C S p pl m h) (iv : IV G C S h.2.2.1 m c) (g : i + 4 < L) (gL : L ≤ 2560) : RdQ d b o L xs (G.ad 1) c pl i h (ex (d + 14) 209 32 [some (.ref b), some (.ref (G.ad 1)), some (.ref o), some (.int (nI i))] [.int (nI 10)] h) := by
  obtain ⟨x, h1, h2, G2, C2, S2, p2, pl2, m2, y1, y2, y3, y4, y5, y6, y7, y8, y9, y10⟩ := step1 (d := d) hc hh iv (op10 (d := d) iv hc (h := xs (i + 1)) (s := xs (i + 2)) (t := xs (i + 3)))
  refine ⟨h2, G2, C2, S2, p2, pl2, m2, ?_, y6, y7, y8, y9, y10⟩
  rw [x209_32_10]
  exact lw_10 y1 y2 hh.2.2.2.2.2.1 hh.2.2.2.2.1 (t_A hh iv.1) y3 y4 y5 g gL
theorem rnd_11 {i : Nat} (hc : c < 512) (hh : HH b o L xs G C S p pl m h) (iv : IV G C S h.2.2.1 m c) (g : i + 4 < L) (gL : L ≤ 2560) : RdQ d b o L xs (G.ad 1) c pl i h (ex (d + 14) 209 32 [some (.ref b), some (.ref (G.ad 1)), some (.ref o), some (.int (nI i))] [.int (nI 11)] h) := by
  obtain ⟨x, h1, h2, G2, C2, S2, p2, pl2, m2, y1, y2, y3, y4, y5, y6, y7, y8, y9, y10⟩ := step1 (d := d) hc hh iv (op11 (d := d) iv hc (h := xs (i + 1)) (s := xs (i + 2)))
  refine ⟨h2, G2, C2, S2, p2, pl2, m2, ?_, y6, y7, y8, y9, y10⟩
  rw [x209_32_11]
  exact lw_11 y1 y2 hh.2.2.2.2.2.1 hh.2.2.2.2.1 (t_A hh iv.1) y3 y4 y5 g gL
theorem rnd_12 {i : Nat} (hc : c < 512) (hh : HH b o L xs G C S p pl m h) (iv : IV G C S h.2.2.1 m c) (g : i + 4 < L) (gL : L ≤ 2560) : RdQ d b o L xs (G.ad 1) c pl i h (ex (d + 14) 209 32 [some (.ref b), some (.ref (G.ad 1)), some (.ref o), some (.int (nI i))] [.int (nI 12)] h) := by
  obtain ⟨x, h1, h2, G2, C2, S2, p2, pl2, m2, y1, y2, y3, y4, y5, y6, y7, y8, y9, y10⟩ := step1 (d := d) hc hh iv (op12 (d := d) iv (a := xs (i + 1)) (b := xs (i + 2)))
  refine ⟨h2, G2, C2, S2, p2, pl2, m2, ?_, y6, y7, y8, y9, y10⟩
  rw [x209_32_12]
  exact lw_12 y1 y2 hh.2.2.2.2.2.1 hh.2.2.2.2.1 (t_A hh iv.1) y3 y4 y5 g gL
theorem rnd_13 {i : Nat} (hc : c < 512) (hh : HH b o L xs G C S p pl m h) (iv : IV G C S h.2.2.1 m c) (g : i + 4 < L) (gL : L ≤ 2560) : RdQ d b o L xs (G.ad 1) c pl i h (ex (d + 14) 209 32 [some (.ref b), some (.ref (G.ad 1)), some (.ref o), some (.int (nI i))] [.int (nI 13)] h) := by
  obtain ⟨x, h1, h2, G2, C2, S2, p2, pl2, m2, y1, y2, y3, y4, y5, y6, y7, y8, y9, y10⟩ := step1 (d := d) hc hh iv (op13 (d := d) iv hc (t := xs (i + 1)) (i := xs (i + 2)) (v := xs (i + 3)))
  refine ⟨h2, G2, C2, S2, p2, pl2, m2, ?_, y6, y7, y8, y9, y10⟩
  rw [x209_32_13]
  exact lw_13 y1 y2 hh.2.2.2.2.2.1 hh.2.2.2.2.1 (t_A hh iv.1) y3 y4 y5 g gL
theorem rnd_14 {i : Nat} (hc : c < 512) (hh : HH b o L xs G C S p pl m h) (iv : IV G C S h.2.2.1 m c) (g : i + 4 < L) (gL : L ≤ 2560) : RdQ d b o L xs (G.ad 1) c pl i h (ex (d + 14) 209 32 [some (.ref b), some (.ref (G.ad 1)), some (.ref o), some (.int (nI i))] [.int (nI 14)] h) := by
  obtain ⟨x, h1, h2, G2, C2, S2, p2, pl2, m2, y1, y2, y3, y4, y5, y6, y7, y8, y9, y10⟩ := step1 (d := d) hc hh iv (op14 (d := d) iv hc (t := xs (i + 1)) (i := xs (i + 2)) (v := xs (i + 3)) (u := xs (i + 4)))
  refine ⟨h2, G2, C2, S2, p2, pl2, m2, ?_, y6, y7, y8, y9, y10⟩
  rw [x209_32_14]
  exact lw_14 y1 y2 hh.2.2.2.2.2.1 hh.2.2.2.2.1 (t_A hh iv.1) y3 y4 y5 g gL
theorem rnd_15 {i : Nat} (hc : c < 512) (hh : HH b o L xs G C S p pl m h) (iv : IV G C S h.2.2.1 m c) (g : i + 4 < L) (gL : L ≤ 2560) : RdQ d b o L xs (G.ad 1) c pl i h (ex (d + 14) 209 32 [some (.ref b), some (.ref (G.ad 1)), some (.ref o), some (.int (nI i))] [.int (nI 15)] h) := by
  obtain ⟨x, h1, h2, G2, C2, S2, p2, pl2, m2, y1, y2, y3, y4, y5, y6, y7, y8, y9, y10⟩ := step1 (d := d) hc hh iv (op15 (d := d) iv hc (t := xs (i + 1)) (i := xs (i + 2)) (x := xs (i + 3)))
  refine ⟨h2, G2, C2, S2, p2, pl2, m2, ?_, y6, y7, y8, y9, y10⟩
  rw [x209_32_15]
  exact lw_15 y1 y2 hh.2.2.2.2.2.1 hh.2.2.2.2.1 (t_A hh iv.1) y3 y4 y5 g gL
theorem rnd_16 {i : Nat} (hc : c < 512) (hh : HH b o L xs G C S p pl m h) (iv : IV G C S h.2.2.1 m c) (g : i + 4 < L) (gL : L ≤ 2560) : RdQ d b o L xs (G.ad 1) c pl i h (ex (d + 14) 209 32 [some (.ref b), some (.ref (G.ad 1)), some (.ref o), some (.int (nI i))] [.int (nI 16)] h) := by
  obtain ⟨x, h1, h2, G2, C2, S2, p2, pl2, m2, y1, y2, y3, y4, y5, y6, y7, y8, y9, y10⟩ := step1 (d := d) hc hh iv (op16 (d := d) iv (a := xs (i + 1)) (b := xs (i + 2)) (v := xs (i + 3)))
  refine ⟨h2, G2, C2, S2, p2, pl2, m2, ?_, y6, y7, y8, y9, y10⟩
  rw [x209_32_16]
  exact lw_16 y1 y2 hh.2.2.2.2.2.1 hh.2.2.2.2.1 (t_A hh iv.1) y3 y4 y5 g gL
theorem rnd_17 {i : Nat} (hc : c < 512) (hh : HH b o L xs G C S p pl m h) (iv : IV G C S h.2.2.1 m c) (g : i + 4 < L) (gL : L ≤ 2560) : RdQ d b o L xs (G.ad 1) c pl i h (ex (d + 14) 209 32 [some (.ref b), some (.ref (G.ad 1)), some (.ref o), some (.int (nI i))] [.int (nI 17)] h) := by
  obtain ⟨x, h1, h2, G2, C2, S2, p2, pl2, m2, y1, y2, y3, y4, y5, y6, y7, y8, y9, y10⟩ := step1 (d := d) hc hh iv (op17 (d := d) iv)
  refine ⟨h2, G2, C2, S2, p2, pl2, m2, ?_, y6, y7, y8, y9, y10⟩
  rw [x209_32_17]
  exact lw_17 y1 y2 hh.2.2.2.2.2.1 hh.2.2.2.2.1 (t_A hh iv.1) y3 y4 y5 g gL
theorem rnd_18 {i : Nat} (hc : c < 512) (hh : HH b o L xs G C S p pl m h) (iv : IV G C S h.2.2.1 m c) (g : i + 4 < L) (gL : L ≤ 2560) : RdQ d b o L xs (G.ad 1) c pl i h (ex (d + 14) 209 32 [some (.ref b), some (.ref (G.ad 1)), some (.ref o), some (.int (nI i))] [.int (nI 18)] h) := by
  obtain ⟨x, h1, h2, G2, C2, S2, p2, pl2, m2, y1, y2, y3, y4, y5, y6, y7, y8, y9, y10⟩ := step1 (d := d) hc hh iv (op18 (d := d) iv hc (a := xs (i + 1)) (i := xs (i + 2)) (v := xs (i + 3)))
  refine ⟨h2, G2, C2, S2, p2, pl2, m2, ?_, y6, y7, y8, y9, y10⟩
  rw [x209_32_18]
  exact lw_18 y1 y2 hh.2.2.2.2.2.1 hh.2.2.2.2.1 (t_A hh iv.1) y3 y4 y5 g gL
theorem rnd_19 {i : Nat} (hc : c < 512) (hh : HH b o L xs G C S p pl m h) (iv : IV G C S h.2.2.1 m c) (g : i + 4 < L) (gL : L ≤ 2560) : RdQ d b o L xs (G.ad 1) c pl i h (ex (d + 14) 209 32 [some (.ref b), some (.ref (G.ad 1)), some (.ref o), some (.int (nI i))] [.int (nI 19)] h) := by
  obtain ⟨x, h1, h2, G2, C2, S2, p2, pl2, m2, y1, y2, y3, y4, y5, y6, y7, y8, y9, y10⟩ := step1 (d := d) hc hh iv (op19 (d := d) iv (a := xs (i + 1)) (b := xs (i + 2)))
  refine ⟨h2, G2, C2, S2, p2, pl2, m2, ?_, y6, y7, y8, y9, y10⟩
  rw [x209_32_19]
  exact lw_19 y1 y2 hh.2.2.2.2.2.1 hh.2.2.2.2.1 (t_A hh iv.1) y3 y4 y5 g gL
theorem rnd_20 {i : Nat} (hc : c < 512) (hh : HH b o L xs G C S p pl m h) (iv : IV G C S h.2.2.1 m c) (g : i + 4 < L) (gL : L ≤ 2560) : RdQ d b o L xs (G.ad 1) c pl i h (ex (d + 14) 209 32 [some (.ref b), some (.ref (G.ad 1)), some (.ref o), some (.int (nI i))] [.int (nI 20)] h) := by
  obtain ⟨x, h1, h2, G2, C2, S2, p2, pl2, m2, y1, y2, y3, y4, y5, y6, y7, y8, y9, y10⟩ := step1 (d := d) hc hh iv (op20 (d := d) iv (a := xs (i + 1)) (b := xs (i + 2)))
  refine ⟨h2, G2, C2, S2, p2, pl2, m2, ?_, y6, y7, y8, y9, y10⟩
  rw [x209_32_20]
  exact lw_20 y1 y2 hh.2.2.2.2.2.1 hh.2.2.2.2.1 (t_A hh iv.1) y3 y4 y5 g gL
theorem rnd_21 {i : Nat} (hc : c < 512) (hh : HH b o L xs G C S p pl m h) (iv : IV G C S h.2.2.1 m c) (g : i + 4 < L) (gL : L ≤ 2560) : RdQ d b o L xs (G.ad 1) c pl i h (ex (d + 14) 209 32 [some (.ref b), some (.ref (G.ad 1)), some (.ref o), some (.int (nI i))] [.int (nI 21)] h) := by
  obtain ⟨x, h1, h2, G2, C2, S2, p2, pl2, m2, y1, y2, y3, y4, y5, y6, y7, y8, y9, y10⟩ := step1 (d := d) hc hh iv (op21 (d := d) iv (b := xs (i + 1)))
  refine ⟨h2, G2, C2, S2, p2, pl2, m2, ?_, y6, y7, y8, y9, y10⟩
  rw [x209_32_21]
  exact lw_21 y1 y2 hh.2.2.2.2.2.1 hh.2.2.2.2.1 (t_A hh iv.1) y3 y4 y5 g gL
theorem rnd_22 {i : Nat} (hc : c < 512) (hh : HH b o L xs G C S p pl m h) (iv : IV G C S h.2.2.1 m c) (g : i + 4 < L) (gL : L ≤ 2560) : RdQ d b o L xs (G.ad 1) c pl i h (ex (d + 14) 209 32 [some (.ref b), some (.ref (G.ad 1)), some (.ref o), some (.int (nI i))] [.int (nI 22)] h) := by
  obtain ⟨x, h1, h2, G2, C2, S2, p2, pl2, m2, y1, y2, y3, y4, y5, y6, y7, y8, y9, y10⟩ := step1 (d := d) hc hh iv (op22 (d := d) iv (b := xs (i + 1)))
  refine ⟨h2, G2, C2, S2, p2, pl2, m2, ?_, y6, y7, y8, y9, y10⟩
  rw [x209_32_22]
  exact lw_22 y1 y2 hh.2.2.2.2.2.1 hh.2.2.2.2.1 (t_A hh iv.1) y3 y4 y5 g gL
theorem rnd_23 {i : Nat} (hc : c < 512) (hh : HH b o L xs G C S p pl m h) (iv : IV G C S h.2.2.1 m c) (g : i + 4 < L) (gL : L ≤ 2560) : RdQ d b o L xs (G.ad 1) c pl i h (ex (d + 14) 209 32 [some (.ref b), some (.ref (G.ad 1)), some (.ref o), some (.int (nI i))] [.int (nI 23)] h) := by
  obtain ⟨x, h1, h2, G2, C2, S2, p2, pl2, m2, y1, y2, y3, y4, y5, y6, y7, y8, y9, y10⟩ := step1 (d := d) hc hh iv (op23 (d := d) iv (a := xs (i + 1)) (s := xs (i + 2)))
  refine ⟨h2, G2, C2, S2, p2, pl2, m2, ?_, y6, y7, y8, y9, y10⟩
  rw [x209_32_23]
  exact lw_23 y1 y2 hh.2.2.2.2.2.1 hh.2.2.2.2.1 (t_A hh iv.1) y3 y4 y5 g gL
theorem rnd_24 {i : Nat} (hc : c < 512) (hh : HH b o L xs G C S p pl m h) (iv : IV G C S h.2.2.1 m c) (g : i + 4 < L) (gL : L ≤ 2560) : RdQ d b o L xs (G.ad 1) c pl i h (ex (d + 14) 209 32 [some (.ref b), some (.ref (G.ad 1)), some (.ref o), some (.int (nI i))] [.int (nI 24)] h) := by
  obtain ⟨x, h1, h2, G2, C2, S2, p2, pl2, m2, y1, y2, y3, y4, y5, y6, y7, y8, y9, y10⟩ := step1 (d := d) hc hh iv (op24 (d := d) iv)
  refine ⟨h2, G2, C2, S2, p2, pl2, m2, ?_, y6, y7, y8, y9, y10⟩
  rw [x209_32_24]
  exact lw_24 y1 y2 hh.2.2.2.2.2.1 hh.2.2.2.2.1 (t_A hh iv.1) y3 y4 y5 g gL
theorem rnd_25 {i : Nat} (hc : c < 512) (hh : HH b o L xs G C S p pl m h) (iv : IV G C S h.2.2.1 m c) (g : i + 4 < L) (gL : L ≤ 2560) : RdQ d b o L xs (G.ad 1) c pl i h (ex (d + 14) 209 32 [some (.ref b), some (.ref (G.ad 1)), some (.ref o), some (.int (nI i))] [.int (nI 25)] h) := by
  obtain ⟨x, h1, h2, G2, C2, S2, p2, pl2, m2, y1, y2, y3, y4, y5, y6, y7, y8, y9, y10⟩ := step1 (d := d) hc hh iv (op25 (d := d) iv (a := xs (i + 1)) (b := xs (i + 2)))
  refine ⟨h2, G2, C2, S2, p2, pl2, m2, ?_, y6, y7, y8, y9, y10⟩
  rw [x209_32_25]
  exact lw_25 y1 y2 hh.2.2.2.2.2.1 hh.2.2.2.2.1 (t_A hh iv.1) y3 y4 y5 g gL
theorem rnd_26 {i : Nat} (hc : c < 512) (hh : HH b o L xs G C S p pl m h) (iv : IV G C S h.2.2.1 m c) (g : i + 4 < L) (gL : L ≤ 2560) : RdQ d b o L xs (G.ad 1) c pl i h (ex (d + 14) 209 32 [some (.ref b), some (.ref (G.ad 1)), some (.ref o), some (.int (nI i))] [.int (nI 26)] h) := by
  obtain ⟨x, h1, h2, G2, C2, S2, p2, pl2, m2, y1, y2, y3, y4, y5, y6, y7, y8, y9, y10⟩ := step1 (d := d) hc hh iv (op26 (d := d) iv)
  refine ⟨h2, G2, C2, S2, p2, pl2, m2, ?_, y6, y7, y8, y9, y10⟩
  rw [x209_32_26]
  exact lw_26 y1 y2 hh.2.2.2.2.2.1 hh.2.2.2.2.1 (t_A hh iv.1) y3 y4 y5 g gL
theorem rnd_27 {i : Nat} (hc : c < 512) (hh : HH b o L xs G C S p pl m h) (iv : IV G C S h.2.2.1 m c) (g : i + 4 < L) (gL : L ≤ 2560) : RdQ d b o L xs (G.ad 1) c pl i h (ex (d + 14) 209 32 [some (.ref b), some (.ref (G.ad 1)), some (.ref o), some (.int (nI i))] [.int (nI 27)] h) := by
  obtain ⟨x, h1, h2, G2, C2, S2, p2, pl2, m2, y1, y2, y3, y4, y5, y6, y7, y8, y9, y10⟩ := step1 (d := d) hc hh iv (op27 (d := d) iv (a := xs (i + 1)))
  refine ⟨h2, G2, C2, S2, p2, pl2, m2, ?_, y6, y7, y8, y9, y10⟩
  rw [x209_32_27]
  exact lw_27 y1 y2 hh.2.2.2.2.2.1 hh.2.2.2.2.1 (t_A hh iv.1) y3 y4 y5 g gL
theorem rnd_28 {i : Nat} (hc : c < 512) (hh : HH b o L xs G C S p pl m h) (iv : IV G C S h.2.2.1 m c) (g : i + 4 < L) (gL : L ≤ 2560) : RdQ d b o L xs (G.ad 1) c pl i h (ex (d + 14) 209 32 [some (.ref b), some (.ref (G.ad 1)), some (.ref o), some (.int (nI i))] [.int (nI 28)] h) := by
  obtain ⟨x, h1, h2, G2, C2, S2, p2, pl2, m2, y1, y2, y3, y4, y5, y6, y7, y8, y9, y10⟩ := step1 (d := d) hc hh iv (op28 (d := d) iv (a := xs (i + 1)) (b := xs (i + 2)))
  refine ⟨h2, G2, C2, S2, p2, pl2, m2, ?_, y6, y7, y8, y9, y10⟩
  rw [x209_32_28]
  exact lw_28 y1 y2 hh.2.2.2.2.2.1 hh.2.2.2.2.1 (t_A hh iv.1) y3 y4 y5 g gL
theorem rnd_29 {i : Nat} (hc : c < 512) (hh : HH b o L xs G C S p pl m h) (iv : IV G C S h.2.2.1 m c) (g : i + 4 < L) (gL : L ≤ 2560) : RdQ d b o L xs (G.ad 1) c pl i h (ex (d + 14) 209 32 [some (.ref b), some (.ref (G.ad 1)), some (.ref o), some (.int (nI i))] [.int (nI 29)] h) := by
  obtain ⟨x, h1, h2, G2, C2, S2, p2, pl2, m2, y1, y2, y3, y4, y5, y6, y7, y8, y9, y10⟩ := step1 (d := d) hc hh iv (op29 (d := d) iv hc (t := xs (i + 1)) (x := xs (i + 2)))
  refine ⟨h2, G2, C2, S2, p2, pl2, m2, ?_, y6, y7, y8, y9, y10⟩
  rw [x209_32_29]
  exact lw_29 y1 y2 hh.2.2.2.2.2.1 hh.2.2.2.2.1 (t_A hh iv.1) y3 y4 y5 g gL
theorem rnd_30 {i : Nat} (hc : c < 512) (hh : HH b o L xs G C S p pl m h) (iv : IV G C S h.2.2.1 m c) (g : i + 4 < L) (gL : L ≤ 2560) : RdQ d b o L xs (G.ad 1) c pl i h (ex (d + 14) 209 32 [some (.ref b), some (.ref (G.ad 1)), some (.ref o), some (.int (nI i))] [.int (nI 30)] h) := by
  obtain ⟨x, h1, h2, G2, C2, S2, p2, pl2, m2, y1, y2, y3, y4, y5, y6, y7, y8, y9, y10⟩ := step1 (d := d) hc hh iv (op30 (d := d) iv hc (x := xs (i + 1)) (h := xs (i + 2)) (s := xs (i + 3)) (cc := xs (i + 4)))
  refine ⟨h2, G2, C2, S2, p2, pl2, m2, ?_, y6, y7, y8, y9, y10⟩
  rw [x209_32_30]
  exact lw_30 y1 y2 hh.2.2.2.2.2.1 hh.2.2.2.2.1 (t_A hh iv.1) y3 y4 y5 g gL
theorem rnd_31 {i : Nat} (hc : c < 512) (hh : HH b o L xs G C S p pl m h) (iv : IV G C S h.2.2.1 m c) (g : i + 4 < L) (gL : L ≤ 2560) : RdQ d b o L xs (G.ad 1) c pl i h (ex (d + 14) 209 32 [some (.ref b), some (.ref (G.ad 1)), some (.ref o), some (.int (nI i))] [.int (nI 31)] h) := by
  obtain ⟨x, h1, h2, G2, C2, S2, p2, pl2, m2, y1, y2, y3, y4, y5, y6, y7, y8, y9, y10⟩ := step1 (d := d) hc hh iv (op31 (d := d) iv)
  refine ⟨h2, G2, C2, S2, p2, pl2, m2, ?_, y6, y7, y8, y9, y10⟩
  rw [x209_32_31]
  exact lw_31 y1 y2 hh.2.2.2.2.2.1 hh.2.2.2.2.1 (t_A hh iv.1) y3 y4 y5 g gL
theorem rnd_32 {i : Nat} (hc : c < 512) (hh : HH b o L xs G C S p pl m h) (iv : IV G C S h.2.2.1 m c) (g : i + 4 < L) (gL : L ≤ 2560) : RdQ d b o L xs (G.ad 1) c pl i h (ex (d + 14) 209 32 [some (.ref b), some (.ref (G.ad 1)), some (.ref o), some (.int (nI i))] [.int (nI 32)] h) := by
  obtain ⟨x, h1, h2, G2, C2, S2, p2, pl2, m2, y1, y2, y3, y4, y5, y6, y7, y8, y9, y10⟩ := step1 (d := d) hc hh iv (op32 (d := d) iv)
  refine ⟨h2, G2, C2, S2, p2, pl2, m2, ?_, y6, y7, y8, y9, y10⟩
  rw [x209_32_32]
  exact lw_32 y1 y2 hh.2.2.2.2.2.1 hh.2.2.2.2.1 (t_A hh iv.1) y3 y4 y5 g gL
theorem rnd_33 {i : Nat} (hc : c < 512) (hh : HH b o L xs G C S p pl m h) (iv : IV G C S h.2.2.1 m c) (g : i + 4 < L) (gL : L ≤ 2560) : RdQ d b o L xs (G.ad 1) c pl i h (ex (d + 14) 209 32 [some (.ref b), some (.ref (G.ad 1)), some (.ref o), some (.int (nI i))] [.int (nI 33)] h) := by
  obtain ⟨x, h1, h2, G2, C2, S2, p2, pl2, m2, y1, y2, y3, y4, y5, y6, y7, y8, y9, y10⟩ := step1 (d := d) hc hh iv (op33 (d := d) iv (a := xs (i + 1)) (b := xs (i + 2)))
  refine ⟨h2, G2, C2, S2, p2, pl2, m2, ?_, y6, y7, y8, y9, y10⟩
  rw [x209_32_33]
  exact lw_33 y1 y2 hh.2.2.2.2.2.1 hh.2.2.2.2.1 (t_A hh iv.1) y3 y4 y5 g gL
theorem rnd_34 {i : Nat} (hc : c < 512) (hh : HH b o L xs G C S p pl m h) (iv : IV G C S h.2.2.1 m c) (g : i + 4 < L) (gL : L ≤ 2560) : RdQ d b o L xs (G.ad 1) c pl i h (ex (d + 14) 209 32 [some (.ref b), some (.ref (G.ad 1)), some (.ref o), some (.int (nI i))] [.int (nI 34)] h) := by
  obtain ⟨x, h1, h2, G2, C2, S2, p2, pl2, m2, y1, y2, y3, y4, y5, y6, y7, y8, y9, y10⟩ := step1 (d := d) hc hh iv (op34 (d := d) iv (a := xs (i + 1)) (b := xs (i + 2)))
  refine ⟨h2, G2, C2, S2, p2, pl2, m2, ?_, y6, y7, y8, y9, y10⟩
  rw [x209_32_34]
  exact lw_34 y1 y2 hh.2.2.2.2.2.1 hh.2.2.2.2.1 (t_A hh iv.1) y3 y4 y5 g gL
theorem rnd_35 {i : Nat} (hc : c < 512) (hh : HH b o L xs G C S p pl m h) (iv : IV G C S h.2.2.1 m c) (g : i + 4 < L) (gL : L ≤ 2560) : RdQ d b o L xs (G.ad 1) c pl i h (ex (d + 14) 209 32 [some (.ref b), some (.ref (G.ad 1)), some (.ref o), some (.int (nI i))] [.int (nI 35)] h) := by
  obtain ⟨x, h1, h2, G2, C2, S2, p2, pl2, m2, y1, y2, y3, y4, y5, y6, y7, y8, y9, y10⟩ := step1 (d := d) hc hh iv (op35 (d := d) iv (a := xs (i + 1)))
  refine ⟨h2, G2, C2, S2, p2, pl2, m2, ?_, y6, y7, y8, y9, y10⟩
  rw [x209_32_35]
  exact lw_35 y1 y2 hh.2.2.2.2.2.1 hh.2.2.2.2.1 (t_A hh iv.1) y3 y4 y5 g gL
theorem rnd_36 {i : Nat} (hc : c < 512) (hh : HH b o L xs G C S p pl m h) (iv : IV G C S h.2.2.1 m c) (g : i + 4 < L) (gL : L ≤ 2560) : RdQ d b o L xs (G.ad 1) c pl i h (ex (d + 14) 209 32 [some (.ref b), some (.ref (G.ad 1)), some (.ref o), some (.int (nI i))] [.int (nI 36)] h) := by
  obtain ⟨x, h1, h2, G2, C2, S2, p2, pl2, m2, y1, y2, y3, y4, y5, y6, y7, y8, y9, y10⟩ := step1 (d := d) hc hh iv (op36 (d := d) iv hc)
  refine ⟨h2, G2, C2, S2, p2, pl2, m2, ?_, y6, y7, y8, y9, y10⟩
  rw [x209_32_36]
  exact lw_36 y1 y2 hh.2.2.2.2.2.1 hh.2.2.2.2.1 (t_A hh iv.1) y3 y4 y5 g gL
theorem rnd_37 {i : Nat} (hc : c < 512) (hh : HH b o L xs G C S p pl m h) (iv : IV G C S h.2.2.1 m c) (g : i + 4 < L) (gL : L ≤ 2560) : RdQ d b o L xs (G.ad 1) c pl i h (ex (d + 14) 209 32 [some (.ref b), some (.ref (G.ad 1)), some (.ref o), some (.int (nI i))] [.int (nI 37)] h) := by
  obtain ⟨x, h1, h2, G2, C2, S2, p2, pl2, m2, y1, y2, y3, y4, y5, y6, y7, y8, y9, y10⟩ := step1 (d := d) hc hh iv (op37 (d := d) iv (a := xs (i + 1)))
  refine ⟨h2, G2, C2, S2, p2, pl2, m2, ?_, y6, y7, y8, y9, y10⟩
  rw [x209_32_37]
  exact lw_37 y1 y2 hh.2.2.2.2.2.1 hh.2.2.2.2.1 (t_A hh iv.1) y3 y4 y5 g gL
theorem rnd_38 {i : Nat} (hc : c < 512) (hh : HH b o L xs G C S p pl m h) (iv : IV G C S h.2.2.1 m c) (g : i + 4 < L) (gL : L ≤ 2560) : RdQ d b o L xs (G.ad 1) c pl i h (ex (d + 14) 209 32 [some (.ref b), some (.ref (G.ad 1)), some (.ref o), some (.int (nI i))] [.int (nI 38)] h) := by
  obtain ⟨x, h1, h2, G2, C2, S2, p2, pl2, m2, y1, y2, y3, y4, y5, y6, y7, y8, y9, y10⟩ := step1 (d := d) hc hh iv (op38 (d := d) iv)
  refine ⟨h2, G2, C2, S2, p2, pl2, m2, ?_, y6, y7, y8, y9, y10⟩
  rw [x209_32_38]
  exact lw_38 y1 y2 hh.2.2.2.2.2.1 hh.2.2.2.2.1 (t_A hh iv.1) y3 y4 y5 g gL
theorem rnd_39 {i : Nat} (hc : c < 512) (hh : HH b o L xs G C S p pl m h) (iv : IV G C S h.2.2.1 m c) (g : i + 4 < L) (gL : L ≤ 2560) : RdQ d b o L xs (G.ad 1) c pl i h (ex (d + 14) 209 32 [some (.ref b), some (.ref (G.ad 1)), some (.ref o), some (.int (nI i))] [.int (nI 39)] h) := by
  obtain ⟨x, h1, h2, G2, C2, S2, p2, pl2, m2, y1, y2, y3, y4, y5, y6, y7, y8, y9, y10⟩ := step1 (d := d) hc hh iv (op39 (d := d) iv)
  refine ⟨h2, G2, C2, S2, p2, pl2, m2, ?_, y6, y7, y8, y9, y10⟩
  rw [x209_32_39]
  exact lw_39 y1 y2 hh.2.2.2.2.2.1 hh.2.2.2.2.1 (t_A hh iv.1) y3 y4 y5 g gL
theorem rnd_all {i : Nat} {x : Int32} (hc : c < 512) (hh : HH b o L xs G C S p pl m h) (iv : IV G C S h.2.2.1 m c) (g : i + 4 < L) (gL : L ≤ 2560) : RdQ d b o L xs (G.ad 1) c pl i h (ex (d + 14) 209 32 [some (.ref b), some (.ref (G.ad 1)), some (.ref o), some (.int (nI i))] [.int (x &&& nI 63)] h) := by
  rcases and63 x with hx | ⟨j, hj, e⟩
  · exact ⟨h, G, C, S, p, pl, m, x209_32_o hx, hh, IV_c iv, rfl, by omega, by omega⟩
  · rw [e]
    have : j = 0 ∨ j = 1 ∨ j = 2 ∨ j = 3 ∨ j = 4 ∨ j = 5 ∨ j = 6 ∨ j = 7 ∨ j = 8 ∨ j = 9 ∨ j = 10 ∨ j = 11 ∨ j = 12 ∨ j = 13 ∨ j = 14 ∨ j = 15 ∨ j = 16 ∨ j = 17 ∨ j = 18 ∨ j = 19 ∨ j = 20 ∨ j = 21 ∨ j = 22 ∨ j = 23 ∨ j = 24 ∨ j = 25 ∨ j = 26 ∨ j = 27 ∨ j = 28 ∨ j = 29 ∨ j = 30 ∨ j = 31 ∨ j = 32 ∨ j = 33 ∨ j = 34 ∨ j = 35 ∨ j = 36 ∨ j = 37 ∨ j = 38 ∨ j = 39 := by omega
    rcases this with q | q | q | q | q | q | q | q | q | q | q | q | q | q | q | q | q | q | q | q | q | q | q | q | q | q | q | q | q | q | q | q | q | q | q | q | q | q | q | q
    · subst q; exact rnd_0 hc hh iv g gL
    · subst q; exact rnd_1 hc hh iv g gL
    · subst q; exact rnd_2 hc hh iv g gL
    · subst q; exact rnd_3 hc hh iv g gL
    · subst q; exact rnd_4 hc hh iv g gL
    · subst q; exact rnd_5 hc hh iv g gL
    · subst q; exact rnd_6 hc hh iv g gL
    · subst q; exact rnd_7 hc hh iv g gL
    · subst q; exact rnd_8 hc hh iv g gL
    · subst q; exact rnd_9 hc hh iv g gL
    · subst q; exact rnd_10 hc hh iv g gL
    · subst q; exact rnd_11 hc hh iv g gL
    · subst q; exact rnd_12 hc hh iv g gL
    · subst q; exact rnd_13 hc hh iv g gL
    · subst q; exact rnd_14 hc hh iv g gL
    · subst q; exact rnd_15 hc hh iv g gL
    · subst q; exact rnd_16 hc hh iv g gL
    · subst q; exact rnd_17 hc hh iv g gL
    · subst q; exact rnd_18 hc hh iv g gL
    · subst q; exact rnd_19 hc hh iv g gL
    · subst q; exact rnd_20 hc hh iv g gL
    · subst q; exact rnd_21 hc hh iv g gL
    · subst q; exact rnd_22 hc hh iv g gL
    · subst q; exact rnd_23 hc hh iv g gL
    · subst q; exact rnd_24 hc hh iv g gL
    · subst q; exact rnd_25 hc hh iv g gL
    · subst q; exact rnd_26 hc hh iv g gL
    · subst q; exact rnd_27 hc hh iv g gL
    · subst q; exact rnd_28 hc hh iv g gL
    · subst q; exact rnd_29 hc hh iv g gL
    · subst q; exact rnd_30 hc hh iv g gL
    · subst q; exact rnd_31 hc hh iv g gL
    · subst q; exact rnd_32 hc hh iv g gL
    · subst q; exact rnd_33 hc hh iv g gL
    · subst q; exact rnd_34 hc hh iv g gL
    · subst q; exact rnd_35 hc hh iv g gL
    · subst q; exact rnd_36 hc hh iv g gL
    · subst q; exact rnd_37 hc hh iv g gL
    · subst q; exact rnd_38 hc hh iv g gL
    · subst q; exact rnd_39 hc hh iv g gL
/-- the law's loop -/
theorem loop : ∀ (u c i : Nat) (G : Gh) (C S : St) (p pl m : Nat) (h : Hp), L ≤ 2560 → i = 5 * c → c + u = L / 5 → HH b o L xs G C S p pl m h → IV G C S h.2.2.1 m c → ∃ hE : Hp, ex (d + 14) 209 18 [some (.ref b), some (.ref (G.ad 1)), some (.ref o), some (.int (nI i))] [] h = some (some (.int 1), hE) ∧ hE.2.2.1 ≤ h.2.2.1 + 5 * u ∧ hE.2.2.2 + 2 * pl ≤ h.2.2.2 + 60 * u + 16000 := by
  intro u
  induction u with
  | zero =>
    intro c i G C S p pl m h gL hi hu hh iv
    have tb := hh.2.2.2.2.2.1
    have ta : (20 ≤ 30) ↔ True := by decide
    have tc : (30 ≤ 30) ↔ True := by decide
    have pl8 : pl ≤ 8000 := hh.2.2.2.2.2.2.2.2.2.2.1.2.2.2.2.2.1
    have gt : nI L - nI 5 < nI i := by
      rw [Int32.lt_iff_toInt_lt, pk_sub_toInt (by omega) (by omega), nI_toInt (by omega)]
      omega
    refine ⟨h, ?_, by omega, by omega⟩
    conv => lhs; simp only [x209_18, x209_19, x209_20, x209_21, x209_22, x209_23, bnd_some, Option.toList_some, Option.toList_none, List.cons_append, List.nil_append, List.singleton_append, clr_i, clr_r, clr_n, clr_0, clr_q, clr_l, isR_r, isR_n, isR_q, cat1_i, cat1_r, b0, b1, if_true, if_false, not_true, not_false_eq_true, reduceCtorEq, ite_self, and_true, true_and, and_false, false_and, or_true, true_or, or_false, false_or, ta, tc, tb, gt]
    rw [x209_1344]
    exact x209_1345 (x := nI 1) (Or.inr rfl)
  | succ u ih =>
    intro c i G C S p pl m h gL hi hu hh iv
    have tb := hh.2.2.2.2.2.1
    have vb := hh.2.2.2.2.1
    have ta : (20 ≤ 30) ↔ True := by decide
    have tc : (30 ≤ 30) ↔ True := by decide
    have ng : ¬ nI L - nI 5 < nI i := by
      rw [Int32.lt_iff_toInt_lt, pk_sub_toInt (by omega) (by omega), nI_toInt (by omega)]
      omega
    have g0 : i < L := by omega
    have e0 : i < 2147483648 := by omega
    obtain ⟨h2, G2, C2, S2, p2, pl2, m2, y1, y2, y3, y4, y5, y6⟩ := rnd_all (d := d) (i := i) (x := xs i) (by omega) hh iv (by omega) gL
    obtain ⟨hE, z1, z2, z3⟩ := ih (c + 1) (i + 5) G2 C2 S2 p2 pl2 m2 h2 gL (by omega) (by omega) y2 y3
    refine ⟨hE, ?_, by omega, by omega⟩
    rw [y4] at z1
    rw [← z1]
    conv => lhs; simp only [x209_18, x209_19, x209_20, x209_21, x209_22, x209_23, bnd_some, Option.toList_some, Option.toList_none, List.cons_append, List.nil_append, List.singleton_append, clr_i, clr_r, clr_n, clr_0, clr_q, clr_l, isR_r, isR_n, isR_q, cat1_i, cat1_r, b0, b1, if_true, if_false, not_true, not_false_eq_true, reduceCtorEq, ite_self, and_true, true_and, and_false, false_and, or_true, true_or, or_false, false_or, ta, tc, tb, ng]
    conv => lhs; simp only [x209_26, x209_27, s209_28, x209_29, x209_31, bnd_some, Option.toList_some, Option.toList_none, List.cons_append, List.nil_append, List.singleton_append, clr_i, clr_r, clr_n, clr_0, clr_q, clr_l, isR_r, isR_n, isR_q, cat1_i, cat1_r, b0, b1, if_true, if_false, not_true, not_false_eq_true, reduceCtorEq, ite_self, and_true, true_and, and_false, false_and, or_true, true_or, or_false, false_or, tb, vb, g0, e0]
    rw [y1]
    conv => lhs; simp only [x209_1338, x209_1341, bnd_some, Option.toList_some, Option.toList_none, List.cons_append, List.nil_append, List.singleton_append, clr_i, clr_r, clr_n, clr_0, clr_q, clr_l, isR_r, isR_n, isR_q, cat1_i, cat1_r, b0, b1, if_true, if_false, not_true, not_false_eq_true, reduceCtorEq, ite_self, and_true, true_and, and_false, false_and, or_true, true_or, or_false, false_or, nI_add]
end EM
