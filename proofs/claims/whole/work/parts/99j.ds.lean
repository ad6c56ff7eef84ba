/-! ===== calls that make nothing and move nothing ===== -/
section DS
variable {d k : Nat} {m0 : Mm} {s0 : Nat → Nat × Nat} {G : Gh} {C S : St} {n m c : Nat}
theorem IV_G (iv : IV G C S n m c) : OKG G := iv.1
theorem IV_JP (iv : IV G C S n m c) : JP G C := iv.2.2.2.2.2.2.2.2.1.1
theorem IV_K (iv : IV G C S n m c) : OKC G C := (IV_JP iv).1
theorem IV_w4 (iv : IV G C S n m c) : W4 G := iv.2.2.2.1
theorem IV_wn (iv : IV G C S n m c) : Wnum C := iv.2.2.2.2.2.2.2.2.1.2.2.1
theorem IV_wrc (iv : IV G C S n m c) : Wrch C := iv.2.2.2.2.2.2.2.2.1.2.2.2
theorem IV_ws (iv : IV G C S n m c) : Wset C G.T := Wset_of iv.1 (IV_JP iv) (IV_w4 iv)
theorem IV_wsS (iv : IV G C S n m c) : Wset S G.T := Wset_eq (fun j => IV_qv iv 2 j rfl) (fun j => IV_qv iv 7 j rfl) (IV_ws iv)
theorem IV_WfT (iv : IV G C S n m c) : WfT S G.T G.R := ⟨by rw [IV_qv iv 1 0 rfl]; exact (IV_K iv).1.1, okT iv.1, by rw [IV_qv iv 8 0 rfl]; exact (IV_K iv).1.2.1, okR iv.1⟩
theorem IV_A (iv : IV G C S n m c) : S 19 0 = nI G.A := by rw [IV_qv iv 19 0 rfl]; exact (IV_K iv).1.2.2.1
theorem IV_1 (iv : IV G C S n m c) : S 1 0 = nI G.T := (IV_WfT iv).1
theorem IV_vN (iv : IV G C S n m c) (j : Nat) : vN S j = vN C j := by unfold vN; rw [IV_qv iv 13 j rfl]
theorem IV_sN (iv : IV G C S n m c) (r : Nat) : sN S r = sN C r := by unfold sN; rw [IV_qv iv 6 r rfl]
theorem IV_row (iv : IV G C S n m c) (h : Int32) : rowI G.R G.T S h = rowI G.R G.T C h := rowI_eq (fun j => IV_qv iv 2 j rfl)
theorem IV_WfV (iv : IV G C S n m c) : WfV S G.T := fun j hj => by
  rw [IV_vN iv, vN_c iv.1 (IV_K iv) hj, IV_qv iv 13 j rfl]
  exact ⟨(IV_K iv).2.2.2.1 j hj, iv.1.2.2.2.2.2 j hj⟩
theorem IV_Wrow (iv : IV G C S n m c) : Wrow S G.T G.R := fun h r hr => by
  rw [IV_row iv] at hr
  rw [IV_sN iv, IV_qv iv 6 r rfl]
  exact Wrow_of iv.1 (IV_K iv) h r hr
theorem op5 (iv : IV G C S n m c) {a b v : Int32} : OpQ d G C S n k m c m0 s0 49 [some (.ref (G.ad 1)), some (.int a), some (.int b), some (.int v), none] 148 (fun o => [some (.ref o), some (.int a), some (.int b), some (.int v), none]) := by
  have qv := IV_qv iv
  have hT := okT iv.1
  refine OpR (c49 (d := d + 11) iv.1 (IV_K iv)) (rS := wtS G.T S a b v) ?_ (fun o p pl M s n k hp => m148 (d := d + 11) hp (IV_WfT iv) (IV_WfV iv))
  unfold wtS
  cases ht : ixI G.T a with
  | none => exact RR_bd iv
  | some j =>
    obtain ⟨e, hj⟩ := ixI_some (by omega) ht
    simp only [qv 2 j rfl, IV_vN iv]
    by_cases h6 : nI 6 ≤ C 2 j
    · rw [if_pos h6, if_pos h6]
      cases hi : ixI (vN C j) b with
      | none => exact RR_bd iv
      | some q =>
        have vl := iv.1.2.2.2.2.2 j hj
        obtain ⟨e2, hq⟩ := ixI_some (by rw [vN_c iv.1 (IV_K iv) hj]; omega) hi
        rw [vN_c iv.1 (IV_K iv) hj] at hq
        simp only
        by_cases h7 : C 2 j = nI 7 ∧ ¬ (¬ v < -2 ∧ ¬ nI 3000 < v)
        · rw [if_pos h7, if_pos h7]; exact RR_bd iv
        · rw [if_neg h7, if_neg h7]
          have k1 : ∀ f, f ≠ 0 → f ≠ 12 → ∀ i, (fnS (sup C 12 (40 * j + q) (kpt (C 2 j) v)) (nI 1)).2 f i = C f i := fun f a b i => by rw [fnS_2, sup_f a, sup_f b]
          have k2 : ∀ f, f ≠ 0 → f ≠ 12 → ∀ i, (fnS (sup S 12 (40 * j + q) (kpt (C 2 j) v)) (nI 1)).2 f i = S f i := fun f a b i => by rw [fnS_2, sup_f a, sup_f b]
          obtain ⟨nr, wr, w22⟩ := iv.2.2.2.2.2.1
          obtain ⟨q3, q1, q2⟩ := iv.2.2.2.2.2.2.1
          refine ⟨rfl, IV_fr iv (fun f h i => k1 f (fun y => by subst y; cases h) (fun y => by subst y; cases h) i) (k1 17 (by decide) (by decide) 0) (fun i _ => k2 16 (by decide) (by decide) i) (fun f h i => k2 f (by omega) (by omega) i) (Qv_sup (Qv_sup qv _ _ _) _ _ _) (VC_k iv.2.1 (fun f h i => k1 f (by omega) (by omega) i)) ⟨fun i hi => by rw [k1 9 (by decide) (by decide), k1 10 (by decide) (by decide), k1 11 (by decide) (by decide)]; exact iv.2.2.1.1 i hi, fun i hi => ?_⟩ (fun i => by rw [k1 24 (by decide) (by decide)]; exact iv.2.2.2.2.1 i) ⟨nr, Wro_eq wr (fun f h i => k1 f (by omega) (by omega) i), fun i hi => by rw [k2 22 (by decide) (by decide), k1 22 (by decide) (by decide)]; exact w22 i hi⟩ ⟨q3, q1, by rw [k1 32 (by decide) (by decide)]; exact q2⟩ (by rw [k1 42 (by decide) (by decide)]; exact iv.2.2.2.2.2.2.2.1), by rw [k2 17 (by decide) (by decide)]; exact IV_17 iv⟩
          rw [fnS_2, sup_f (by decide), sup_j (by omega)]
          exact iv.2.2.1.2 i hi
    · rw [if_neg h6, if_neg h6]; exact RR_bd iv
theorem op6 (iv : IV G C S n m c) {a b : Int32} : OpQ d G C S n k m c m0 s0 50 [some (.ref (G.ad 1)), some (.int a), some (.int b), none, none] 149 (fun o => [some (.ref o), some (.int a), some (.int b), none, none]) := by
  have qv := IV_qv iv
  refine OpR (c50 (d := d + 11) iv.1 (IV_K iv)) (rS := vlS G.T S a b) ?_ (fun o p pl M s n k hp => m149 (d := d + 11) hp (IV_WfT iv) (IV_WfV iv))
  unfold vlS
  cases ht : ixI G.T a with
  | none => exact RR_bd iv
  | some j =>
    simp only [qv 2 j rfl, IV_vN iv]
    by_cases h6 : nI 6 ≤ C 2 j
    · rw [if_pos h6, if_pos h6]
      cases hi : ixI (vN C j) b with
      | none => exact RR_bd iv
      | some q =>
        simp only [qv 12 _ rfl]
        by_cases h7 : C 2 j = nI 7
        · rw [if_pos h7, if_pos h7]
          by_cases h8 : C 12 (40 * j + q) = -1
          · rw [if_pos h8, if_pos h8]; exact RR_bd iv
          · rw [if_neg h8, if_neg h8]; exact RR_fn iv rfl
        · rw [if_neg h7, if_neg h7]; exact RR_fn iv rfl
    · rw [if_neg h6, if_neg h6]; exact RR_bd iv
theorem op7 (iv : IV G C S n m c) {a : Int32} : OpQ d G C S n k m c m0 s0 51 [some (.ref (G.ad 1)), some (.int a), none] 150 (fun o => [some (.ref o), some (.int a)]) := by
  refine OpR (c51 (d := d + 12) iv.1 (IV_K iv)) (rS := match ixI G.T a with | none => bdS S 10 | some j => fnS S (S 2 j)) ?_ (fun o p pl M s n k hp => m150 (d := d + 12) hp (IV_1 iv) (okT iv.1))
  unfold kdS
  cases ht : ixI G.T a with
  | none => exact RR_bd iv
  | some j => exact RR_fn iv (IV_qv iv 2 j rfl).symm
theorem op8 (iv : IV G C S n m c) {a : Int32} : OpQ d G C S n k m c m0 s0 52 [some (.ref (G.ad 1)), some (.int a), none] 151 (fun o => [some (.ref o), some (.int a)]) := by
  refine OpR (c52 (d := d + 12) iv.1 (IV_K iv)) (rS := match ixI G.T a with | none => bdS S 10 | some j => fnS S (S 3 j)) ?_ (fun o p pl M s n k hp => m151 (d := d + 12) hp (IV_1 iv) (okT iv.1))
  unfold sttS
  cases ht : ixI G.T a with
  | none => exact RR_bd iv
  | some j => exact RR_fn iv (IV_qv iv 3 j rfl).symm
theorem op9 (iv : IV G C S n m c) {a : Int32} : OpQ d G C S n k m c m0 s0 53 [some (.ref (G.ad 1)), some (.int a), none] 152 (fun o => [some (.ref o), some (.int a)]) := by
  have hT := okT iv.1
  refine OpR (c53 (d := d + 12) iv.1 (IV_K iv)) (rS := match ixI G.T a with | none => bdS S 10 | some j => if S 3 j = nI 1 then fnS S (S 4 j) else bdS S 8) ?_ (fun o p pl M s n k hp => m152 (d := d + 12) hp (IV_1 iv) (okT iv.1))
  unfold hdC
  cases ht : ixI G.T a with
  | none => exact RR_bd iv
  | some j =>
    obtain ⟨_, hj⟩ := ixI_some (by omega) ht
    simp only [IV_qv iv 3 j rfl, IV_qv iv 4 j rfl]
    rcases (IV_JP iv).2.1 j hj with h4 | ⟨h3, r, lv, h4⟩
    · have n3 : ¬ C 3 j = nI 1 := fun y => wt_of iv.1 (IV_JP iv) j hj y h4
      rw [if_pos (by rw [h4]; decide), if_neg n3]
      exact RR_bd iv
    · rw [if_neg (by rw [h4]; exact (hN_row (lr_212 iv.1 lv)).2), if_pos h3]
      exact RR_fn iv rfl
theorem IV_lk2 (iv : IV G C S n m c) (x : Int32) : IV G (lvC2 (sup (lkC C) 0 0 x)) (sup (lkd S) 0 0 x) n m (c + 1) := by
  have qv := IV_qv iv
  refine IV_st iv (fun f a b c e j => ?_) (fun f a b c j => ?_) (fun f j h => ?_) ?_
  · unfold lvC2 lkC lkd
    rw [sup_f e, sup_f a, sup_f e, sup_f c, sup_f b]
  · unfold lkd
    rw [sup_f a, sup_f c, sup_f b]
  · by_cases z : f = 0 ∧ j = 0
    · obtain ⟨rfl, rfl⟩ := z
      unfold lvC2
      rw [sup_eq, sup_f (by decide), sup_eq]
    · rw [sup_ne z]
      unfold lvC2 lkC
      rw [sup_f (by omega), sup_ne z, sup_f (by omega)]
      unfold lkd
      rw [qv 14 0 rfl, qv 15 0 rfl]
      exact Qv_sup (Qv_sup qv _ _ _) _ _ _ f j (by rcases h with y | y | y <;> subst y <;> rfl)
  · unfold lvC2 lkC
    rw [sup_eq, sup_f (by decide), sup_eq, i_as, i_as]
theorem lkd_17 (iv : IV G C S n m c) (x : Int32) : sup (lkd S) 0 0 x 17 0 = nI m := by
  rw [sup_f (by decide), lkd_f (by decide) (by decide)]
  exact IV_17 iv
theorem op12 (iv : IV G C S n m c) {a b : Int32} : OpQ d G C S n k m c m0 s0 56 [some (.ref (G.ad 1)), some (.int a), some (.int b), none, none] 163 (fun o => [some (.ref o), some (.int a), some (.int b), none, none]) := by
  have hG := iv.1
  have hK := IV_K iv
  have hT := okT hG
  have qv := IV_qv iv
  cases hr : rowI G.R G.T C a with
  | none =>
    refine OpR (c56_0 (d := d + 11) hG hK hr) (rS := inS G.R G.T S a b) ?_ (fun o p pl M s n k hp => m163 (d := d + 11) hp (IV_WfT iv) (IV_Wrow iv))
    unfold inS
    rw [IV_row iv, hr]
    exact RR_bd iv
  | some r =>
    obtain ⟨lv, e⟩ := rowI_lv hG hK hr
    have l7 : ∀ j, lkC C 7 j = C 7 j := fun j => lkC_f (by decide) (by decide) (by decide)
    have fin : ∀ (x y : Int32), ex (d + 12) 108 0 [some (.ref (G.ad 1)), some (.ref (aH G r)), some (.int b), none] [] (cM G (lkC C) m0, cS G s0, n, k) = some (some (.int x), (cM G (sup (lkC C) 0 0 y) m0, cS G s0, n, k)) → inS G.R G.T S a b = (x, sup (lkd S) 0 0 y) → OpQ d G C S n k m c m0 s0 56 [some (.ref (G.ad 1)), some (.int a), some (.int b), none, none] 163 (fun o => [some (.ref o), some (.int a), some (.int b), none, none]) := fun x y h1 h2 =>
      OpR (rC := (x, lvC2 (sup (lkC C) 0 0 y))) (c56_w (d := d + 11) hG hK hr h1) (rS := inS G.R G.T S a b) (by rw [h2]; exact ⟨rfl, IV_lk2 iv y, lkd_17 iv y⟩) (fun o p pl M s n k hp => m163 (d := d + 11) hp (IV_WfT iv) (IV_Wrow iv))
    have iS : inS G.R G.T S a b = (match ixI (G.sl r) b with | none => bdS (lkd S) 2 | some q => if 0 ≤ C 7 (40 * r + q) then fnS (lkd S) (C 7 (40 * r + q)) else bdS (lkd S) 3) := by
      unfold inS
      rw [IV_row iv, hr]
      simp only [IV_sN iv, sN_c hG hK lv, qv 7 _ rfl]
      cases ixI (G.sl r) b <;> rfl
    cases hb : ixI (G.sl r) b with
    | none => exact fin (-1) (nI 2) (c108_0 (d := d + 11) hG lv hb) (by rw [iS, hb]; rfl)
    | some q =>
      have s40 := hG.2.2.2.2.1 r lv
      obtain ⟨eb, hq⟩ := ixI_some (by omega) hb
      subst eb
      rcases hK.2.2.2.2.2 r lv q hq with h | ⟨t, ht, h⟩
      · exact fin (-1) (nI 3) (c108_1 (d := d + 11) hG lv hq (by rw [l7]; exact h)) (by rw [iS, hb]; simp only; rw [h, if_neg neg1_lt]; rfl)
      · exact fin (nI t) (nI 0) (c108_2 (d := d + 11) hG lv hq ht (by rw [l7]; exact h)) (by rw [iS, hb]; simp only; rw [h, if_pos (nI_pos' (by omega))]; rfl)
theorem op16 (iv : IV G C S n m c) {a b v : Int32} : OpQ d G C S n k m c m0 s0 60 [some (.ref (G.ad 1)), some (.int a), some (.int b), some (.int v), none] 172 (fun o => [some (.ref o), some (.int a), some (.int b), some (.int v), none, none]) := by
  have qv := IV_qv iv
  refine OpR (c60 (d := d + 10) iv.1 (IV_K iv)) (rS := szO G.T S a b v) ?_ (fun o p pl M s n k hp => m172 (d := d + 11) hp (IV_WfT iv))
  unfold szO
  cases ht : ixI G.T a with
  | none => exact RR_bd iv
  | some j =>
    simp only [qv 2 j rfl]
    by_cases h3 : nI 3 < C 2 j
    · rw [if_pos h3, if_pos h3]; exact RR_bd iv
    · rw [if_neg h3, if_neg h3]
      cases hi : ixR 0 5 b with
      | none => exact RR_bd iv
      | some q =>
        simp only [qv 9 _ rfl, qv 10 _ rfl, qv 11 _ rfl]
        by_cases h4 : ixR 0 2 v = none
        · rw [if_pos h4, if_pos h4]; exact RR_bd iv
        · rw [if_neg h4, if_neg h4]; exact RR_fn iv rfl
theorem op19 (iv : IV G C S n m c) {a b : Int32} : OpQ d G C S n k m c m0 s0 63 [some (.ref (G.ad 1)), some (.int a), some (.int b), none, none] 182 (fun o => [some (.ref o), some (.int a), some (.int b)]) := by
  have qv := IV_qv iv
  refine OpR (c63 (d := d + 9) iv.1 (IV_K iv) (IV_ws iv) (IV_w4 iv)) (rS := ftS G.A G.T S a b) ?_ (fun o p pl M s n k hp => m182 (d := d + 10) hp (IV_A iv) (okA iv.1) (IV_1 iv) (okT iv.1) (IV_wsS iv))
  unfold ftS
  cases ixI G.A a with
  | none => exact RR_bd iv
  | some i =>
    cases ixI G.T b with
    | none => exact RR_bd iv
    | some j =>
      simp only [qv 2 j rfl, qfit qv]
      by_cases h : nI 4 < C 2 j
      · rw [if_pos h, if_pos h]; exact RR_bd iv
      · rw [if_neg h, if_neg h]; exact RR_fn iv rfl
theorem op20 (iv : IV G C S n m c) {a b : Int32} : OpQ d G C S n k m c m0 s0 64 [some (.ref (G.ad 1)), some (.int a), some (.int b), none, none] 183 (fun o => [some (.ref o), some (.int a), some (.int b)]) := by
  have qv := IV_qv iv
  refine OpR (c64 (d := d + 9) iv.1 (IV_K iv) (IV_wn iv) (IV_ws iv) (IV_w4 iv)) (rS := coS G.A G.T S a b) ?_ (fun o p pl M s n k hp => m183 (d := d + 10) hp (IV_A iv) (okA iv.1) (IV_1 iv) (okT iv.1) (IV_wsS iv))
  unfold coS
  cases ixI G.A a with
  | none => exact RR_bd iv
  | some i =>
    cases ixI G.T b with
    | none => exact RR_bd iv
    | some j =>
      simp only [qv 2 j rfl, qfit qv, qcost qv]
      by_cases h : nI 4 < C 2 j
      · rw [if_pos h, if_pos h]; exact RR_bd iv
      · rw [if_neg h, if_neg h]
        by_cases h1 : fitV C i j = nI 1
        · rw [if_pos h1, if_pos h1]; exact RR_fn iv rfl
        · rw [if_neg h1, if_neg h1]; exact RR_bd iv
theorem op21 (iv : IV G C S n m c) {b : Int32} : OpQ d G C S n k m c m0 s0 65 [some (.ref (G.ad 1)), some (.int b), none] 184 (fun o => [some (.ref o), some (.int b)]) := by
  have qv := IV_qv iv
  refine OpR (c65 (d := d + 11) iv.1 (IV_K iv) (IV_ws iv) (IV_w4 iv)) (rS := mitS G.T S b) ?_ (fun o p pl M s n k hp => m184 (d := d + 10) hp (IV_1 iv) (okT iv.1) (IV_wsS iv))
  unfold mitS
  cases ixI G.T b with
  | none => exact RR_bd iv
  | some j =>
    simp only [qv 2 j rfl, minV_eq (S := C) (Z := S) (fun j => qv 2 j rfl) (fun j => qv 7 j rfl)]
    by_cases h : nI 4 < C 2 j
    · rw [if_pos h, if_pos h]; exact RR_bd iv
    · rw [if_neg h, if_neg h]; exact RR_fn iv rfl
theorem dayB_eq (h2 : ∀ j, S 2 j = C 2 j) (h7 : ∀ j, S 7 j = C 7 j) (t : Nat) : ∀ u, dayB S t u = dayB C t u := by
  intro u
  induction u with
  | zero => rfl
  | succ u ih =>
    unfold dayB
    rw [thI_eq h7, ih]
    simp only [h2]
theorem op22 (iv : IV G C S n m c) {b : Int32} : OpQ d G C S n k m c m0 s0 66 [some (.ref (G.ad 1)), some (.int b), none] 186 (fun o => [some (.ref o), some (.int b), none, none, none]) := by
  have qv := IV_qv iv
  refine OpR (c66 (d := d + 11) iv.1 (IV_K iv) (IV_ws iv) (IV_w4 iv)) (rS := waS G.T S b) ?_ (fun o p pl M s n k hp => m186 (d := d + 10) hp (IV_1 iv) (okT iv.1) (IV_wsS iv))
  unfold waS
  cases ixI G.T b with
  | none => exact RR_bd iv
  | some j =>
    simp only [qv 2 j rfl, dayB_eq (S := S) (C := C) (fun j => qv 2 j rfl) (fun j => qv 7 j rfl)]
    by_cases h : nI 4 < C 2 j
    · rw [if_pos h, if_pos h]; exact RR_bd iv
    · rw [if_neg h, if_neg h]
      by_cases h3 : C 2 j = nI 3
      · rw [if_pos h3, if_pos h3]; exact RR_bd iv
      · rw [if_neg h3, if_neg h3]
        by_cases h4 : C 2 j = nI 4
        · rw [if_pos h4, if_pos h4]; exact RR_fn iv rfl
        · rw [if_neg h4, if_neg h4]; exact RR_fn iv rfl
end DS
