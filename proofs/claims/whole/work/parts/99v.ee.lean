/-! ===== calls: undo ===== -/
def buC (C : St) (i : Nat) : St := sup (sup C 17 0 (nI i)) 0 0 (nI 0)
theorem buC_f {C : St} {i f j : Nat} (h0 : f ≠ 0) (h17 : f ≠ 17) : buC C i f j = C f j := by
  unfold buC
  rw [sup_f h0, sup_f h17]
theorem Qv_bu {C S : St} {i : Nat} (qv : Qv C S) : Qv (buC C i) (buC S i) := Qv_sup (Qv_sup qv _ _ _) _ _ _
section EF
variable {d k : Nat} {m0 : Mm} {s0 : Nat → Nat × Nat} {G : Gh} {C S S1 : St} {n m c i : Nat}
theorem Ent_0 {P : Pw} (h : Ent G S C i P) {f j : Nat} (hf0 : hf f = false) : P f j = none := (Ent_Dm h f j).resolve_right (fun y => by rw [hf_Dm y] at hf0; cases hf0)
/-- one step back -/
theorem IV_pop {E : Nat → Pw} (iv : IV G C S n (i + 1) c) (en : Ent G S C i (E i)) (jk : JK G (ow (E i) C)) (hs : Hs G S E i (ow (E i) C)) (qv : Qv (ow (E i) (buC C i)) S1) (s16 : ∀ j, j < 6 * i → S1 16 j = S 16 j) (s22 : ∀ j, S1 22 j = S 22 j) (h5 : ∀ t, t < G.T → ow (E i) (buC C i) 3 t = nI 1 → S1 5 t = ow (E i) (buC C i) 5 t) (hh : Hrl G (ow (E i) (buC C i)) S1) : IV G (ow (E i) (buC C i)) S1 n i (c + 1) := by
  obtain ⟨hG, vc, wf, w4, wl, ⟨nr, wr, w22⟩, ⟨q3, q1, q2⟩, w42, _, ⟨m1, m2, m3⟩, hn, _, _, _, _⟩ := iv
  have o : ∀ f, hf f = false → f ≠ 0 → f ≠ 17 → ∀ j, ow (E i) (buC C i) f j = C f j := fun f h a b j => by rw [ow_n (Ent_0 en h), buC_f a b]
  have e : ∀ f, hf f = true → ∀ j, ow (E i) (buC C i) f j = ow (E i) C f j := fun f h j => by
    unfold ow
    rw [buC_f (fun y => by subst y; cases h) (fun y => by subst y; cases h)]
  have w9 : ∀ f, f = 9 ∨ f = 10 ∨ f = 11 → ∀ j, 6 * G.T ≤ j → ow (E i) (buC C i) f j = C f j := fun f hf j hj => by
    have : (E i) f j = none := (Ent_Dm en f j).resolve_right (fun y => by
      rcases y with ⟨a, _⟩ | ⟨a, _⟩ | ⟨_, b⟩ | ⟨a, _⟩ | ⟨a, _⟩ | ⟨a, _⟩ <;> omega)
    rw [ow_n this, buC_f (by omega) (by omega)]
  refine ⟨hG, VC_k vc (fun f hf j => o f (by rcases hf with y | y <;> subst y <;> rfl) (by omega) (by omega) j), ⟨fun j hj => ?_, fun j hj => ?_⟩, w4, fun j => ?_, ⟨nr, Wro_eq wr (fun f hf j => o f (by rcases hf with y | y | y <;> subst y <;> rfl) (by omega) (by omega) j), fun j hj => ?_⟩, ⟨q3, q1, ?_⟩, ?_, JK_eq (fun f hk j => e f (by unfold hf; rw [hk]; rfl) j) jk, ⟨?_, by omega, by omega⟩, hn, qv, h5, hh, E, Hs_ext hG i _ _ e s16 (fun _ _ => rfl) hs⟩
  · rw [w9 9 (by omega) j hj, w9 10 (by omega) j hj, w9 11 (by omega) j hj]; exact wf.1 j hj
  · rw [o 12 rfl (by decide) (by decide)]; exact wf.2 j hj
  · rw [o 24 rfl (by decide) (by decide)]; exact wl j
  · rw [s22, o 22 rfl (by decide) (by decide)]; exact w22 j hj
  · rw [o 32 rfl (by decide) (by decide)]; exact q2
  · rw [o 42 rfl (by decide) (by decide)]; exact w42
  · rw [ow_n (Ent_0 en rfl)]
    unfold buC
    rw [sup_f (by decide), sup_eq]
theorem Md_pop {o : Nat} {F : Fr} {X : Option Rs} {r : Int32 × St} (hX : X = rt o F.p F.pl F.m0 F.s0 F.n F.k r) (hF : FrO o F (i + 1)) (hm : r.2 17 0 = nI i) : Md o (i + 1) F X r := by
  obtain ⟨a, b, e, f, g, h, l⟩ := hF
  have st : stM r.2 = i := by unfold stM; rw [hm, nI_clamp (by omega)]
  exact ⟨F, r.2, hX, Or.inl rfl, by rw [st]; exact ⟨a, b, e, by omega, g, h, by omega⟩, Sq_rfl⟩
/-- undo, by the change's own revert -/
theorem op36_w {C1 : St} {rS : Int32 × St} {mi : Nat} (iv : IV G C S n (i + 1) c) (hck : mi = 12 ∧ G.ck i = 4 ∨ mi = 32 ∧ G.ck i = 6 ∨ mi = 34 ∧ G.ck i = 7) (hN : i < G.N) (hx : ∀ d, ex (d + 4) mi 0 [some (.ref (aC G i)), some (.ref (G.ad 1))] [] (cM G (sup C 17 0 (nI i)) m0, cS G s0, n, k) = some (none, (cM G C1 m0, cS G s0, n, k))) (iv' : IV G (sup C1 0 0 (nI 0)) rS.2 n i (c + 1)) (h1 : rS.1 = nI 1) (hm : ∀ o F, FrO o F (i + 1) → ex (d + 13) 165 0 [some (.ref o), none, none, none, none, none, none] [] (mM o F.p S F.m0, sM o F.p F.pl F.s0, F.n, F.k) = rt o F.p F.pl F.m0 F.s0 F.n F.k rS) : OpQ d G C S n k (i + 1) c m0 s0 80 [some (.ref (G.ad 1)), none] 165 (fun o => [some (.ref o), none, none, none, none, none, none]) := by
  have cc := c80_w (d := d + 8) (C' := C1) iv.1 iv.2.2.2.2.2.2.2.2.2.1.1 hN (fun e => ⟨mi, hck, hx e⟩)
  refine OpP (rS := rS) (m' := i) (G' := G) (n' := n) (k' := k) (C' := sup C1 0 0 (nI 0)) ?_ ⟨rfl, fun _ _ h => h⟩ (Nat.le_refl _) (by omega) (by omega) iv' (fun o F hF => Md_pop (hm o F hF) hF (IV_17 iv'))
  rw [h1]
  exact ⟨m0, s0, cc, fun _ _ _ => ⟨rfl, rfl⟩⟩
theorem op36 (iv : IV G C S n m c) (hc : c < 512) : OpQ d G C S n k m c m0 s0 80 [some (.ref (G.ad 1)), none] 165 (fun o => [some (.ref o), none, none, none, none, none, none]) := by
  have hG := iv.1
  have hK := IV_K iv
  have qv := IV_qv iv
  have hT := okT hG
  have hA := okA hG
  have hH := okH hG
  have hmc := IV_mc iv
  have hrl := iv.2.2.2.2.2.2.2.2.2.2.2.2.2.1
  have i5 := iv.2.2.2.2.2.2.2.2.2.2.2.2.1
  obtain ⟨E, hs⟩ := iv.2.2.2.2.2.2.2.2.2.2.2.2.2.2
  cases m with
  | zero => exact OpR (c80_0 (d := d + 12) hG iv.2.2.2.2.2.2.2.2.2.1.1) (rS := bdS S 11) (RR_bd iv) (fun o p pl M s n k hp => m165_n (d := d + 12) (IV_17 iv))
  | succ i =>
    obtain ⟨en, jk, hs'⟩ := hs
    have N := Ent_N en
    have S17 := IV_17 iv
    have wfT := IV_WfT iv
    have rowS : ∀ r, lvR G r → rowI G.R G.T S (hN r) = some r := fun r lv => by rw [IV_row iv]; exact lv_rowI hG hK lv
    have b0 : ∀ (P : Pw) (X : St), P 0 0 = none → sup (ow P (sup X 17 0 (nI i))) 0 0 (nI 0) = ow P (buC X i) := fun P X h => ow_sup h
    have pe0 : E i 0 0 = none := Ent_0 en rfl
    have bS : ∀ f, f ≠ 0 → f ≠ 17 → ∀ j, buC S i f j = S f j := fun f a b j => buC_f a b
    have so0 : ∀ (X : St), (∀ f j, f ≠ 3 → f ≠ 4 → f ≠ 5 → f ≠ 7 → f ≠ 34 → f ≠ 38 → X f j = sup S 17 0 (nI i) f j) → ∀ f j, f ≠ 3 → f ≠ 4 → f ≠ 5 → f ≠ 7 → f ≠ 34 → f ≠ 38 → sup X 0 0 (nI 0) f j = buC S i f j := fun X hX f j a b e g x y => by
      unfold buC
      by_cases z : f = 0 ∧ j = 0
      · obtain ⟨rfl, rfl⟩ := z; rw [sup_eq, sup_eq]
      · rw [sup_ne z, sup_ne z]; exact hX f j a b e g x y
    rcases id en with ⟨t, r, q, sl, mv, q0, q1, ht, lv, hq, h3, h4, h5, h7, eP⟩ | ⟨t, r, q, mv, q0, q1, q2, q3, ht, lv, hq, h4, eP⟩ | ⟨t, q, a, b, e, g, rs, q0, q1, q2, q3, q4, q5, ht, k3, hq, eP⟩ | ⟨t, q, a, rm, q0, q1, q2, ht, hq, eP⟩ | ⟨r, q, y, mv, q0, q1, q2, q3, q4, hy, ht, lv, hq, h4, eP⟩ | ⟨r, q, y, sl, g, mv, q0, q1, q2, hy, ht, lv, hq, h3, h4, h5, h7, eP⟩
    · have s40 := hG.2.2.2.2.1 r lv
      have iv' : IV G (sup (sup (mvO (sup C 17 0 (nI i)) t r q (nI 0) sl) 34 0 (C 34 0)) 0 0 (nI 0)) (fnS (lfS (sup S 17 0 (nI i)) r q t (nI 0)) (nI 1)).2 n i (c + 1) := by
        rw [mvO_eq, ← eP, b0 _ _ pe0]
        have X : ∀ f j, f ≠ 3 → f ≠ 4 → f ≠ 5 → f ≠ 7 → f ≠ 34 → f ≠ 38 → lfS (sup S 17 0 (nI i)) r q t (nI 0) f j = sup S 17 0 (nI i) f j := fun f j a b e g x y => lf_f a b g
        refine IV_pop iv en jk hs' ?_ (fun j hj => ?_) (fun j => ?_) (fun u hu h => ?_) (fun y hy => ?_)
        · rw [eP]
          refine Qv_mv (Qv_bu qv) (fun j => ?_) (fun j => ?_) (fun j => ?_) (fun j => ?_) (fun f j h a b e g => ?_)
          · rw [fnS_2, sup_f (by decide), lf_3, sup_f (by decide), bS 3 (by decide) (by decide)]
          · rw [fnS_2, sup_f (by decide), lf_4, sup_f (by decide), bS 4 (by decide) (by decide)]
          · rw [fnS_2, sup_f (by decide), lf_7, sup_f (by decide), bS 7 (by decide) (by decide)]
          · rw [fnS_2, sup_f (by decide), lf_f (by decide) (by decide) (by decide), sup_f (by decide), bS 34 (by decide) (by decide), ← qv 34 0 rfl]
            by_cases ej : j = 0
            · rw [if_pos ej, ej]
            · rw [if_neg ej]
          · rw [fnS_2]
            exact so0 _ X f j a b (fun y => by subst y; cases h) e g (fun y => by subst y; cases h)
        · rw [fnS_2, sup_f (by decide), lf_f (by decide) (by decide) (by decide), sup_f (by decide)]
        · rw [fnS_2, sup_f (by decide), lf_f (by decide) (by decide) (by decide), sup_f (by decide)]
        · rw [eP, uM_3] at h
          rw [fnS_2, sup_f (by decide), lf_f (by decide) (by decide) (by decide), sup_f (by decide), eP, uM_5]
          by_cases eu : u = t
          · rw [if_pos eu] at h; exact absurd h (by decide)
          · rw [if_neg eu, buC_f (by decide) (by decide)] at h
            rw [if_neg eu, buC_f (by decide) (by decide)]
            exact i5 u hu h
        · rw [eP, uM_f (by decide) (by decide) (by decide) (by decide) (by decide), buC_f (by decide) (by decide), fnS_2, sup_f (by decide), sup_f (by decide), sup_f (by decide), lf_f (by decide) (by decide) (by decide), lf_f (by decide) (by decide) (by decide), lf_f (by decide) (by decide) (by decide), sup_f (by decide), sup_f (by decide), sup_f (by decide)]
          exact hrl y hy
      exact op36_w (rS := fnS (lfS (sup S 17 0 (nI i)) r q t (nI 0)) (nI 1)) iv (Or.inl ⟨rfl, mv.2.1⟩) N (fun e => c12_o (d := e + 1) (C := sup C 17 0 (nI i)) hG mv lv hq ht (by rw [sup_f (by decide)]; exact h4) (by rw [sup_f (by decide)]; exact h5)) iv' rfl (fun o F hF => m165_0 (d := d + 10) hF.1 S17 (by omega) (by have := hF.2.2.2.1; omega) wfT q0 q1 (by omega) (by rw [qv 4 t rfl, h4]; exact rowS r lv) (by rw [i5 t ht h3]; exact h5) (by omega))
    · have s40 := hG.2.2.2.2.1 r lv
      have iv' : IV G (sup (sup (mvI (sup C 17 0 (nI i)) t r q (nI 1)) 34 0 (C 34 0)) 0 0 (nI 0)) (fnS (layS (sup S 17 0 (nI i)) r q t (hN r)) (nI 1)).2 n i (c + 1) := by
        rw [mvI_eq, ← eP, b0 _ _ pe0]
        have X : ∀ f j, f ≠ 3 → f ≠ 4 → f ≠ 5 → f ≠ 7 → f ≠ 34 → f ≠ 38 → layS (sup S 17 0 (nI i)) r q t (hN r) f j = sup S 17 0 (nI i) f j := fun f j a b e g x y => lay_f a b e g
        refine IV_pop iv en jk hs' ?_ (fun j hj => ?_) (fun j => ?_) (fun u hu h => ?_) (fun y hy => ?_)
        · rw [eP]
          refine Qv_mv (Qv_bu qv) (fun j => ?_) (fun j => ?_) (fun j => ?_) (fun j => ?_) (fun f j h a b e g => ?_)
          · rw [fnS_2, sup_f (by decide), lay_3, sup_f (by decide), bS 3 (by decide) (by decide)]
          · rw [fnS_2, sup_f (by decide), lay_4, sup_f (by decide), bS 4 (by decide) (by decide)]
          · rw [fnS_2, sup_f (by decide), lay_7, sup_f (by decide), bS 7 (by decide) (by decide)]
          · rw [fnS_2, sup_f (by decide), lay_f (by decide) (by decide) (by decide) (by decide), sup_f (by decide), bS 34 (by decide) (by decide), ← qv 34 0 rfl]
            by_cases ej : j = 0
            · rw [if_pos ej, ej]
            · rw [if_neg ej]
          · rw [fnS_2]
            exact so0 _ X f j a b (fun y => by subst y; cases h) e g (fun y => by subst y; cases h)
        · rw [fnS_2, sup_f (by decide), lay_f (by decide) (by decide) (by decide) (by decide), sup_f (by decide)]
        · rw [fnS_2, sup_f (by decide), lay_f (by decide) (by decide) (by decide) (by decide), sup_f (by decide)]
        · rw [eP, uM_3] at h
          rw [fnS_2, sup_f (by decide), lay_5, sup_f (by decide), eP, uM_5]
          by_cases eu : u = t
          · rw [if_pos eu, if_pos eu]
          · rw [if_neg eu, buC_f (by decide) (by decide)] at h
            rw [if_neg eu, if_neg eu, buC_f (by decide) (by decide)]
            exact i5 u hu h
        · rw [eP, uM_f (by decide) (by decide) (by decide) (by decide) (by decide), buC_f (by decide) (by decide), fnS_2, sup_f (by decide), sup_f (by decide), sup_f (by decide), lay_f (by decide) (by decide) (by decide) (by decide), lay_f (by decide) (by decide) (by decide) (by decide), lay_f (by decide) (by decide) (by decide) (by decide), sup_f (by decide), sup_f (by decide), sup_f (by decide)]
          exact hrl y hy
      exact op36_w (rS := fnS (layS (sup S 17 0 (nI i)) r q t (hN r)) (nI 1)) iv (Or.inl ⟨rfl, mv.2.1⟩) N (fun e => c12_i (d := e + 1) (C := sup C 17 0 (nI i)) hG mv lv hq ht (by rw [sup_f (by decide)]; exact h4)) iv' rfl (fun o F hF => m165_1 (d := d + 10) hF.1 S17 (by omega) (by have := hF.2.2.2.1; omega) wfT q0 q1 (by omega) q2 (rowS r lv) q3 (by omega))
    · have eC : sup (sup (sup (sup (sup C 17 0 (nI i)) 9 (6 * t + q) a) 10 (6 * t + q) b) 11 (6 * t + q) e) 18 0 (C 18 0 - g) = ow (E i) (sup C 17 0 (nI i)) := by
        rw [eP, uZ_eq, sup_com (show 11 ≠ 18 by decide), sup_com (show 10 ≠ 18 by decide), sup_com (show 9 ≠ 18 by decide), sup_com (show 9 ≠ 10 by decide), sup_com (show 9 ≠ 11 by decide), sup_com (show 10 ≠ 11 by decide)]
      have sf : ∀ f, f ≠ 0 → f ≠ 9 → f ≠ 10 → f ≠ 11 → f ≠ 18 → f ≠ 17 → ∀ j, (fnS (sup (sup (sup (sup (sup S 17 0 (nI i)) 9 (6 * t + q) a) 10 (6 * t + q) b) 11 (6 * t + q) e) 18 0 (S 18 0 - g)) (nI 1)).2 f j = S f j := fun f x0 x9 x10 x11 x18 x17 j => by rw [fnS_2, sup_f x0, sup_f x18, sup_f x11, sup_f x10, sup_f x9, sup_f x17]
      have uZf : ∀ f, f ≠ 9 → f ≠ 10 → f ≠ 11 → f ≠ 18 → ∀ (B : St) j, ow (uZ (6 * t + q) a b e (C 18 0 - g)) B f j = B f j := fun f x9 x10 x11 x18 B j => by rw [uZ_eq, sup_f x9, sup_f x10, sup_f x11, sup_f x18]
      have iv' : IV G (sup (sup (sup (sup (sup (sup C 17 0 (nI i)) 9 (6 * t + q) a) 10 (6 * t + q) b) 11 (6 * t + q) e) 18 0 (C 18 0 - g)) 0 0 (nI 0)) (fnS (sup (sup (sup (sup (sup S 17 0 (nI i)) 9 (6 * t + q) a) 10 (6 * t + q) b) 11 (6 * t + q) e) 18 0 (S 18 0 - g)) (nI 1)).2 n i (c + 1) := by
        rw [eC, b0 _ _ pe0]
        refine IV_pop iv en jk hs' ?_ (fun j hj => sf 16 (by decide) (by decide) (by decide) (by decide) (by decide) (by decide) j) (fun j => sf 22 (by decide) (by decide) (by decide) (by decide) (by decide) (by decide) j) (fun u hu h => ?_) (fun y hy => ?_)
        · rw [← b0 _ _ pe0, ← eC, fnS_2, qv 18 0 rfl]
          exact Qv_sup (Qv_sup (Qv_sup (Qv_sup (Qv_sup (Qv_sup qv _ _ _) _ _ _) _ _ _) _ _ _) _ _ _) _ _ _
        · rw [eP, uZf 3 (by decide) (by decide) (by decide) (by decide), buC_f (by decide) (by decide)] at h
          rw [sf 5 (by decide) (by decide) (by decide) (by decide) (by decide) (by decide), eP, uZf 5 (by decide) (by decide) (by decide) (by decide), buC_f (by decide) (by decide)]
          exact i5 u hu h
        · rw [sf 36 (by decide) (by decide) (by decide) (by decide) (by decide) (by decide), sf 37 (by decide) (by decide) (by decide) (by decide) (by decide) (by decide), sf 38 (by decide) (by decide) (by decide) (by decide) (by decide) (by decide), eP, uZf 38 (by decide) (by decide) (by decide) (by decide), buC_f (by decide) (by decide)]
          exact hrl y hy
      exact op36_w (rS := fnS (sup (sup (sup (sup (sup S 17 0 (nI i)) 9 (6 * t + q) a) 10 (6 * t + q) b) 11 (6 * t + q) e) 18 0 (S 18 0 - g)) (nI 1)) iv (Or.inr (Or.inr ⟨rfl, rs.2.1⟩)) N (fun x => c34 (d := x + 4) (C := sup C 17 0 (nI i)) hG rs ht k3 hq) iv' rfl (fun o F hF => m165_2 (d := d + 10) hF.1 S17 (by omega) (by have := hF.2.2.2.1; omega) q0 q1 (by omega) q2 q3 q4 q5)
    · have sf : ∀ f, f ≠ 0 → f ≠ 20 → f ≠ 17 → ∀ j, (fnS (sup (sup S 17 0 (nI i)) 20 (6 * t + q) a) (nI 1)).2 f j = S f j := fun f x0 x9 x17 j => by rw [fnS_2, sup_f x0, sup_f x9, sup_f x17]
      have uAf : ∀ f, f ≠ 20 → ∀ (B : St) j, ow (uA (6 * t + q) a) B f j = B f j := fun f x9 B j => by rw [uA_eq, sup_f x9]
      have iv' : IV G (sup (sup (sup C 17 0 (nI i)) 20 (6 * t + q) a) 0 0 (nI 0)) (fnS (sup (sup S 17 0 (nI i)) 20 (6 * t + q) a) (nI 1)).2 n i (c + 1) := by
        rw [← uA_eq, ← eP, b0 _ _ pe0]
        refine IV_pop iv en jk hs' ?_ (fun j hj => sf 16 (by decide) (by decide) (by decide) j) (fun j => sf 22 (by decide) (by decide) (by decide) j) (fun u hu h => ?_) (fun y hy => ?_)
        · rw [← b0 _ _ pe0, eP, uA_eq, fnS_2]
          exact Qv_sup (Qv_sup (Qv_sup qv _ _ _) _ _ _) _ _ _
        · rw [eP, uAf 3 (by decide), buC_f (by decide) (by decide)] at h
          rw [sf 5 (by decide) (by decide) (by decide), eP, uAf 5 (by decide), buC_f (by decide) (by decide)]
          exact i5 u hu h
        · rw [sf 36 (by decide) (by decide) (by decide), sf 37 (by decide) (by decide) (by decide), sf 38 (by decide) (by decide) (by decide), eP, uAf 38 (by decide), buC_f (by decide) (by decide)]
          exact hrl y hy
      exact op36_w (rS := fnS (sup (sup S 17 0 (nI i)) 20 (6 * t + q) a) (nI 1)) iv (Or.inr (Or.inl ⟨rfl, rm.2.1⟩)) N (fun x => c32 (d := x + 4) (C := sup C 17 0 (nI i)) hG rm ht hq) iv' rfl (fun o F hF => m165_3 (d := d + 10) hF.1 S17 (by omega) (by have := hF.2.2.2.1; omega) q0 q1 (by omega) q2)
    · have s40 := hG.2.2.2.2.1 r lv
      obtain ⟨r36, r37, r38⟩ := hrl y hy
      have iv' : IV G (sup (sup (sup (mvI (sup C 17 0 (nI i)) (G.ht y) r q (nI 1)) 34 0 (C 34 0 - G.hd y)) 38 y (nI 2)) 0 0 (nI 0)) (fnS (sup (sup (layS (sup S 17 0 (nI i)) r q (G.ht y) (hN r)) 34 0 (S 34 0 - S 37 y)) 38 y (nI 3)) (nI 1)).2 n i (c + 1) := by
        rw [mvI_eq, ← uY_eq, ← eP, b0 _ _ pe0]
        have X : ∀ f j, f ≠ 3 → f ≠ 4 → f ≠ 5 → f ≠ 7 → f ≠ 34 → f ≠ 38 → sup (sup (layS (sup S 17 0 (nI i)) r q (G.ht y) (hN r)) 34 0 (S 34 0 - S 37 y)) 38 y (nI 3) f j = sup S 17 0 (nI i) f j := fun f j a b e g x z => by rw [sup_f z, sup_f x, lay_f a b e g]
        refine IV_pop iv en jk hs' ?_ (fun j hj => ?_) (fun j => ?_) (fun u hu h => ?_) (fun y' hy' => ?_)
        · rw [eP]
          refine Qv_y (Qv_mv (Qv_bu qv) (fun j => ?_) (fun j => ?_) (fun j => ?_) (fun j => ?_) (fun f j h a b e g => ?_))
          · rw [fnS_2, sup_f (by decide), sup_f (by decide), sup_f (by decide), lay_3, sup_f (by decide), bS 3 (by decide) (by decide)]
          · rw [fnS_2, sup_f (by decide), sup_f (by decide), sup_f (by decide), lay_4, sup_f (by decide), bS 4 (by decide) (by decide)]
          · rw [fnS_2, sup_f (by decide), sup_f (by decide), sup_f (by decide), lay_7, sup_f (by decide), bS 7 (by decide) (by decide)]
          · rw [fnS_2, sup_f (by decide), sup_f (by decide), bS 34 (by decide) (by decide), r37, qv 34 0 rfl]
            by_cases ej : j = 0
            · rw [if_pos ej, ej, sup_eq]
            · rw [if_neg ej, sup_j ej, lay_f (by decide) (by decide) (by decide) (by decide), sup_f (by decide)]
          · rw [fnS_2]
            exact so0 _ X f j a b (fun y => by subst y; cases h) e g (fun y => by subst y; cases h)
        · rw [fnS_2, sup_f (by decide), X 16 j (by decide) (by decide) (by decide) (by decide) (by decide) (by decide), sup_f (by decide)]
        · rw [fnS_2, sup_f (by decide), X 22 j (by decide) (by decide) (by decide) (by decide) (by decide) (by decide), sup_f (by decide)]
        · rw [eP, uY_f (by decide), uM_3] at h
          rw [fnS_2, sup_f (by decide), sup_f (by decide), sup_f (by decide), lay_5, sup_f (by decide), eP, uY_f (by decide), uM_5]
          by_cases eu : u = G.ht y
          · rw [if_pos eu, if_pos eu]
          · rw [if_neg eu, buC_f (by decide) (by decide)] at h
            rw [if_neg eu, if_neg eu, buC_f (by decide) (by decide)]
            exact i5 u hu h
        · rw [eP, uY_38 uM_38n, buC_f (by decide) (by decide), fnS_2, sup_f (show ¬ 36 = 0 by decide), sup_f (show ¬ 37 = 0 by decide), sup_f (show ¬ 38 = 0 by decide), X 36 y' (by decide) (by decide) (by decide) (by decide) (by decide) (by decide), X 37 y' (by decide) (by decide) (by decide) (by decide) (by decide) (by decide), sup_f (show ¬ 36 = 17 by decide), sup_f (show ¬ 37 = 17 by decide)]
          obtain ⟨z1, z2, z3⟩ := hrl y' hy'
          refine ⟨z1, z2, ?_⟩
          by_cases ey : y' = y
          · rw [if_pos ey, ey, sup_eq]; rfl
          · rw [if_neg ey, sup_j ey, sup_f (by decide), lay_f (by decide) (by decide) (by decide) (by decide), sup_f (by decide)]
            exact z3
      exact op36_w (rS := fnS (sup (sup (layS (sup S 17 0 (nI i)) r q (G.ht y) (hN r)) 34 0 (S 34 0 - S 37 y)) 38 y (nI 3)) (nI 1)) iv (Or.inl ⟨rfl, mv.2.1⟩) N (fun e => c12_ij (d := e + 1) (C := sup C 17 0 (nI i)) hG mv lv hq ht hy (by rw [sup_f (by decide)]; exact h4)) iv' rfl (fun o F hF => m165_4 (d := d + 10) hF.1 S17 (by omega) (by have := hF.2.2.2.1; omega) wfT q0 q1 (by omega) q2 (rowS r lv) q3 (by omega) q4 (by omega))
    · have s40 := hG.2.2.2.2.1 r lv
      obtain ⟨r36, r37, r38⟩ := hrl y hy
      have iv' : IV G (sup (sup (sup (mvO (sup C 17 0 (nI i)) (G.ht y) r q (nI 2) sl) 34 0 (C 34 0 + g)) 38 y (nI 0)) 0 0 (nI 0)) (fnS (sup (sup (lfS (sup S 17 0 (nI i)) r q (G.ht y) (nI 2)) 34 0 (S 34 0 + g)) 38 y (nI 1)) (nI 1)).2 n i (c + 1) := by
        rw [mvO_eq, ← uY_eq, ← eP, b0 _ _ pe0]
        have X : ∀ f j, f ≠ 3 → f ≠ 4 → f ≠ 5 → f ≠ 7 → f ≠ 34 → f ≠ 38 → sup (sup (lfS (sup S 17 0 (nI i)) r q (G.ht y) (nI 2)) 34 0 (S 34 0 + g)) 38 y (nI 1) f j = sup S 17 0 (nI i) f j := fun f j a b e g x z => by rw [sup_f z, sup_f x, lf_f a b g]
        refine IV_pop iv en jk hs' ?_ (fun j hj => ?_) (fun j => ?_) (fun u hu h => ?_) (fun y' hy' => ?_)
        · rw [eP]
          refine Qv_y (Qv_mv (Qv_bu qv) (fun j => ?_) (fun j => ?_) (fun j => ?_) (fun j => ?_) (fun f j h a b e g => ?_))
          · rw [fnS_2, sup_f (by decide), sup_f (by decide), sup_f (by decide), lf_3, sup_f (by decide), bS 3 (by decide) (by decide)]
          · rw [fnS_2, sup_f (by decide), sup_f (by decide), sup_f (by decide), lf_4, sup_f (by decide), bS 4 (by decide) (by decide)]
          · rw [fnS_2, sup_f (by decide), sup_f (by decide), sup_f (by decide), lf_7, sup_f (by decide), bS 7 (by decide) (by decide)]
          · rw [fnS_2, sup_f (by decide), sup_f (by decide), bS 34 (by decide) (by decide), qv 34 0 rfl]
            by_cases ej : j = 0
            · rw [if_pos ej, ej, sup_eq]
            · rw [if_neg ej, sup_j ej, lf_f (by decide) (by decide) (by decide), sup_f (by decide)]
          · rw [fnS_2]
            exact so0 _ X f j a b (fun y => by subst y; cases h) e g (fun y => by subst y; cases h)
        · rw [fnS_2, sup_f (by decide), X 16 j (by decide) (by decide) (by decide) (by decide) (by decide) (by decide), sup_f (by decide)]
        · rw [fnS_2, sup_f (by decide), X 22 j (by decide) (by decide) (by decide) (by decide) (by decide) (by decide), sup_f (by decide)]
        · rw [eP, uY_f (by decide), uM_3] at h
          rw [fnS_2, sup_f (by decide), sup_f (by decide), sup_f (by decide), lf_f (by decide) (by decide) (by decide), sup_f (by decide), eP, uY_f (by decide), uM_5]
          by_cases eu : u = G.ht y
          · rw [if_pos eu] at h; exact absurd h (by decide)
          · rw [if_neg eu, buC_f (by decide) (by decide)] at h
            rw [if_neg eu, buC_f (by decide) (by decide)]
            exact i5 u hu h
        · rw [eP, uY_38 uM_38n, buC_f (by decide) (by decide), fnS_2, sup_f (show ¬ 36 = 0 by decide), sup_f (show ¬ 37 = 0 by decide), sup_f (show ¬ 38 = 0 by decide), X 36 y' (by decide) (by decide) (by decide) (by decide) (by decide) (by decide), X 37 y' (by decide) (by decide) (by decide) (by decide) (by decide) (by decide), sup_f (show ¬ 36 = 17 by decide), sup_f (show ¬ 37 = 17 by decide)]
          obtain ⟨z1, z2, z3⟩ := hrl y' hy'
          refine ⟨z1, z2, ?_⟩
          by_cases ey : y' = y
          · rw [if_pos ey, ey, sup_eq]; rfl
          · rw [if_neg ey, sup_j ey, sup_f (by decide), lf_f (by decide) (by decide) (by decide), sup_f (by decide)]
            exact z3
      exact op36_w (rS := fnS (sup (sup (lfS (sup S 17 0 (nI i)) r q (G.ht y) (nI 2)) 34 0 (S 34 0 + g)) 38 y (nI 1)) (nI 1)) iv (Or.inl ⟨rfl, mv.2.1⟩) N (fun e => c12_oj (d := e + 1) (C := sup C 17 0 (nI i)) hG mv lv hq ht hy (by rw [sup_f (by decide)]; exact h4) (by rw [sup_f (by decide)]; exact h5)) iv' rfl (fun o F hF => m165_5 (d := d + 10) hF.1 S17 (by omega) (by have := hF.2.2.2.1; omega) wfT q0 q1 (by omega) q2 r36 (by omega) (by rw [qv 4 _ rfl, h4]; exact rowS r lv) (by rw [i5 _ ht h3]; exact h5) (by omega))
end EF
