/-! ===== plan, least: class and reference alike ===== -/
def shf (f : Nat) : Bool := ([0, 1, 2, 3, 4, 6, 7, 8, 9, 10, 11, 12, 13, 14, 15, 17, 18, 19, 20, 21, 23, 24, 32, 33, 34, 35] : List Nat).contains f
/-- the numbers that class and reference share -/
def Qv (C S : St) : Prop := ∀ f j, shf f = true → S f j = C f j
theorem bdS_2 {S : St} {w : Nat} : (bdS S w).2 = sup S 0 0 (nI w) := rfl
theorem fnS_2 {S : St} {x : Int32} : (fnS S x).2 = sup S 0 0 (nI 0) := rfl
theorem bdS_1 {S : St} {w : Nat} : (bdS S w).1 = -1 := rfl
theorem fnS_1 {S : St} {x : Int32} : (fnS S x).1 = x := rfl
theorem shf_lt : ∀ f, shf f = true → f < 43 := by
  intro f h
  unfold shf at h
  simp at h
  omega
theorem Qv_sup {C S : St} (h : Qv C S) (f j : Nat) (x : Int32) : Qv (sup C f j x) (sup S f j x) := fun g i hg => by
  by_cases e : g = f ∧ i = j
  · unfold sup; rw [if_pos e, if_pos e]
  · unfold sup; rw [if_neg e, if_neg e]; exact h g i hg
theorem Qv_gS1 {C S : St} (h : Qv C S) : Qv (gS1 C) (gS1 S) := by
  unfold gS1
  rw [h 14 0 rfl, h 15 0 rfl, h 8 0 rfl]
  exact Qv_sup (Qv_sup h _ _ _) _ _ _
section DN
variable {G : Gh} {C S : St} {nr : Nat}
theorem qfit (qv : Qv C S) (a t : Nat) : fitV S a t = fitV C a t := fitV_eq (fun j => qv 2 j rfl) (fun j => qv 7 j rfl) (fun j => qv 9 j rfl) (fun j => qv 10 j rfl) (fun j => qv 11 j rfl) (fun j => qv 20 j rfl) a t
theorem qcost (qv : Qv C S) (a t : Nat) : costV S a t = costV C a t := costV_eq (fun j => qv 2 j rfl) (fun j => qv 7 j rfl) (fun j => qv 9 j rfl) (fun j => qv 20 j rfl) a t
theorem qgat (qv : Qv C S) (t : Nat) : gat S t = gat C t := gat_eq (fun j => qv 2 j rfl) (fun j => qv 3 j rfl) (fun j => qv 4 j rfl) t
theorem gat_kd (hG : OKG G) (hK : OKC G C) {x : Nat} (hx : x ∈ gat C G.T) : x < G.T ∧ G.kd x ≤ 4 := by
  obtain ⟨a, b⟩ := gat_mem G.T _ hx
  refine ⟨a, ?_⟩
  have : ¬ 4 < G.kd x := fun y => b.1 ((kdL hG hK a (by decide)).mpr y)
  omega
theorem cost_n (hG : OKG G) (w : Wpc G C nr) (a : Nat) {x : Nat} (hx : x ∈ gat C G.T) : ∃ y, y ≤ 1000000 ∧ costV C a x = nI y := by
  obtain ⟨m1, m2⟩ := gat_kd hG w.1 hx
  exact costV_n w.2.1 w.2.2.1 (okT hG) m1 ⟨_, m2, w.1.2.1 _ m1⟩
theorem q_aR (q22 : ∀ j, j < nr → S 22 j = C 22 j) {r : Nat} (hr : r < nr) : aR S r = aR C r := by unfold aR; rw [q22 r hr]
theorem wpl_of (hG : OKG G) (w : Wpc G C nr) (qv : Qv C S) (q22 : ∀ j, j < nr → S 22 j = C 22 j) : Wpl S G.T nr := by
  have hA := okA hG
  obtain ⟨hK, wn, ws, w4, wr, wh, wt⟩ := id w
  refine ⟨by rw [qv 1 0 rfl]; exact hK.1.1, okT hG, Wset_eq (fun j => qv 2 j rfl) (fun j => qv 7 j rfl) ws, by rw [qv 21 0 rfl]; exact wr.1, wr.2.1, fun r hr => ?_, fun r hr => ?_, fun r x hr hx => ?_⟩
  · obtain ⟨a, a1, a2⟩ := wr.2.2.1 r hr
    exact ⟨a, by omega, by rw [q22 r hr]; exact a2⟩
  · obtain ⟨i, i1, i2⟩ := wr.2.2.2 r hr
    exact ⟨i, i1, by rw [qv 23 r rfl]; exact i2⟩
  · rw [qgat qv] at hx
    obtain ⟨y, y1, y2⟩ := cost_n hG w (aR S r) hx
    unfold paV
    by_cases e : fitV S (aR S r) x = nI 1
    · rw [if_pos e, qcost qv, y2]
      exact ⟨y, Or.inr y1, rfl⟩
    · rw [if_neg e]
      exact ⟨100000000, Or.inl rfl, rfl⟩
theorem gat_inj {C : St} : ∀ T, (∀ i j, i < j → j < (gat C T).length → (gat C T).getD i 0 < (gat C T).getD j 0) := by
  intro T
  induction T with
  | zero => intro i j _ hj; exact absurd hj (Nat.not_lt_zero _)
  | succ T ih =>
    intro i j hij hj
    unfold gat at hj ⊢
    by_cases e : (gat C T).length < 8 ∧ onR C T
    · rw [if_pos e] at hj ⊢
      rw [getD_app, getD_app]
      rw [List.length_append] at hj
      simp only [List.length_cons, List.length_nil] at hj
      by_cases h1 : j < (gat C T).length
      · rw [if_pos h1, if_pos (show i < (gat C T).length by omega)]
        exact ih i j hij h1
      · rw [if_pos (show i < (gat C T).length by omega), if_neg h1, if_pos (by omega)]
        exact (gat_mem T _ (getD_mem (by omega))).1
    · rw [if_neg e] at hj ⊢
      exact ih i j hij hj
theorem ixT_cs {L : List Nat} {t : Nat} : ∀ u, (ixT L t u = -1 ∧ ∀ c, c < u → ¬ L.getD c 0 = t) ∨ ∃ c, c < u ∧ ixT L t u = nI c ∧ L.getD c 0 = t := by
  intro u
  induction u with
  | zero => exact Or.inl ⟨rfl, fun c hc => by omega⟩
  | succ u ih =>
    unfold ixT
    by_cases e : L.getD u 0 = t
    · rw [if_pos e]
      exact Or.inr ⟨u, by omega, rfl, e⟩
    · rw [if_neg e]
      rcases ih with ⟨a, b⟩ | ⟨c, a, b, h⟩
      · refine Or.inl ⟨a, fun c hc => ?_⟩
        by_cases ec : c = u
        · rw [ec]; exact e
        · exact b c (by omega)
      · exact Or.inr ⟨c, by omega, b, h⟩
theorem alk_of {C3 C2 Z : St} {gr od inv : Nat → Nat} {to : Nat → Option Nat} {fx : Nat → Int32} {x0 : Int32} (hG : OKG G) (w : Wpc G C nr) (wl : Wlen C) (qv : Qv C S) (q22 : ∀ j, j < nr → S 22 j = C 22 j) (gs : Gst C C3 (gat C G.T)) (sl : Slv C3 C2 nr gr od inv) (gz : Gz S (gat C G.T) nr Z) (hfx : ∀ x c, x < nr → c < (gat C G.T).length → ((fx x < 0 ∨ fx x = nI c) ↔ ∀ y, to x = some y → (gat C G.T).getD c 0 = y)) : Alk C2 nr (gat C G.T).length (alG C3 (gat C G.T) (aR C) to) (pcF C (gat C G.T) (aR C)) (prN S (gat C G.T)) fx (agB (sup Z 32 0 x0) nr) := by
  have e := gs.1
  have hT := okT hG
  have ft : ∀ a t, fitV C3 a t = fitV C a t := fun a t => fitV_eq (fun j => e 2 j (by decide) (by decide) (by decide) (by decide) (by decide) (by decide)) (fun j => e 7 j (by decide) (by decide) (by decide) (by decide) (by decide) (by decide)) (fun j => e 9 j (by decide) (by decide) (by decide) (by decide) (by decide) (by decide)) (fun j => e 10 j (by decide) (by decide) (by decide) (by decide) (by decide) (by decide)) (fun j => e 11 j (by decide) (by decide) (by decide) (by decide) (by decide) (by decide)) (fun j => e 20 j (by decide) (by decide) (by decide) (by decide) (by decide) (by decide)) a t
  have C23 : ∀ f j, f < 43 → f ≠ 14 → f ≠ 15 → f ≠ 42 → C2 f j = C f j := fun f j h a b c => by
    rw [sl.1 f j (by omega)]
    exact e f j a b c (by omega) (by omega) (by omega)
  have Zf : ∀ f j, f < 25 ∨ (28 < f ∧ f ≠ 32) → f ≠ 14 → f ≠ 15 → sup Z 32 0 x0 f j = S f j := fun f j h a b => by
    rw [sup_f (by omega), gz.1 f j (by omega) (by omega) (by omega) (by omega), gS1_f a b]
  refine ⟨fun x c hx hc => ?_, fun x c hx hc ha => ?_, fun r c q b hr hq ne hc hb => ?_, fun x c => Nat.min_le_left _ _, w.2.2.2.2.1.2.1⟩
  · obtain ⟨y, y1, y2⟩ := cost_n hG w (aR S x) (getD_mem hc)
    rw [Bool.eq_iff_iff, alG_iff]
    unfold gdB alB prN paV
    rw [ft, qfit qv, q_aR q22 hx, Bool.and_eq_true, Bool.or_eq_true, decide_eq_true_eq, decide_eq_true_eq, decide_eq_true_eq, hfx x c hx hc]
    refine and_congr Iff.rfl ?_
    by_cases f1 : fitV C (aR C x) ((gat C G.T).getD c 0) = nI 1
    · rw [if_pos f1]
      rw [q_aR q22 hx] at y2
      rw [qcost qv, y2, nI_clamp (by omega)]
      exact ⟨fun _ => by omega, fun _ => f1⟩
    · rw [if_neg f1, nI_clamp (by decide)]
      exact ⟨fun y => absurd y f1, fun y => by omega⟩
  · obtain ⟨y, y1, y2⟩ := cost_n hG w (aR C x) (getD_mem hc)
    have f1 := (alG_iff.mp ha).2
    rw [ft] at f1
    unfold pcF prN paV
    rw [qfit qv, q_aR q22 hx, if_pos f1, qcost qv, y2, nI_clamp (by omega)]
    omega
  · exact cl_ag (C := C2) (Z := sup Z 32 0 x0) (nr := nr) (L := gat C G.T) (fun j => by obtain ⟨x, a, b⟩ := wl j; exact ⟨x, a, by rw [C23 24 j (by decide) (by decide) (by decide) (by decide)]; exact b⟩) (fun j => by rw [Zf 2 j (by omega) (by decide) (by decide), C23 2 j (by decide) (by decide) (by decide) (by decide)]; exact qv 2 j rfl) (fun j => by rw [Zf 7 j (by omega) (by decide) (by decide), C23 7 j (by decide) (by decide) (by decide) (by decide)]; exact qv 7 j rfl) (fun j hj => by rw [Zf 22 j (by omega) (by decide) (by decide), C23 22 j (by decide) (by decide) (by decide) (by decide)]; exact q22 j hj) (fun j => by rw [Zf 23 j (by omega) (by decide) (by decide), C23 23 j (by decide) (by decide) (by decide) (by decide)]; exact qv 23 j rfl) (fun j => by rw [Zf 24 j (by omega) (by decide) (by decide), C23 24 j (by decide) (by decide) (by decide) (by decide)]; exact qv 24 j rfl) (fun i hi => by rw [sup_f (by decide)]; exact gz.2.2.1 i hi) (fun i hi => by have := (gat_kd hG w.1 (getD_mem hi)).1; omega) (sl.2.1 r q hr hq) (fun i hi => by
      rw [sl.1 45 i (by omega), (gs.2.2.2.1 i hi).2]
      exact (minV_eq (fun j => sl.1 2 j (by omega)) (fun j => sl.1 7 j (by omega)) _).symm) hr hq hc hb (fun x hx => by
      obtain ⟨i, i1, i2⟩ := w.2.2.2.2.1.2.2.2 x hx
      exact ⟨i, i1, by rw [C23 23 x (by decide) (by decide) (by decide) (by decide)]; exact i2⟩)
theorem Qv_pl {C S : St} (h : Qv C S) {nr : Nat} {L : List Nat} {f : Nat → Nat} : Qv (plS C nr L f) (plS S nr L f) := fun g i hg => by
  unfold plS
  by_cases e : g = 33 ∧ i < nr
  · rw [if_pos e, if_pos e]
  · rw [if_neg e, if_neg e]
    exact Qv_sup (Qv_gS1 h) _ _ _ g i hg
theorem plS_eq {S : St} {nr : Nat} {L : List Nat} {f h : Nat → Nat} (e : ∀ x, x < nr → h x = f x) : plS S nr L h = plS S nr L f := by
  funext g j
  unfold plS
  by_cases q : g = 33 ∧ j < nr
  · rw [if_pos q, if_pos q, e j q.2]
  · rw [if_neg q, if_neg q]
theorem vpl_h {Cn nr : Nat} {fx : Nat → Int32} {pr : Nat → Nat → Nat} {ag : Nat → Nat → Nat → Nat → Bool} {h : Nat → Nat} (hC : Cn ≤ 8) (hh : ∀ x, x < nr → h x < Cn) (hf : ∀ x, x < nr → fx x < 0) (hlt : lcF Cn nr fx pr ag < 100000000) (he : lcF Cn nr (fxR fx h nr) pr ag = lcF Cn nr fx pr ag) : Vpl Cn (alB fx pr) ag h 0 nr ∧ smF pr h 0 nr = lcF Cn nr fx pr ag := by
  obtain ⟨f, f1, f2⟩ := lcF_hit (C := Cn) (nr := nr) (fx := fxR fx h nr) (pr := pr) (ag := ag) (by omega)
  obtain ⟨v, e⟩ := (Vpl_fx (Nat.le_refl _) hC hh hf).mp f1
  refine ⟨fun i h1 h2 => ?_, ?_⟩
  · obtain ⟨a, b, c⟩ := v i h1 h2
    rw [e i (by omega)] at a b c
    exact ⟨a, b, fun q hq => by rw [← e q (by omega)]; exact c q hq⟩
  · rw [← he, ← f2]
    exact smF_eq nr 0 (fun x _ hx => (e x (by omega)).symm)
theorem plan_both {d n k : Nat} {m0 : Mm} {s0 : Nat → Nat × Nat} (hG : OKG G) (w : Wpc G C nr) (wl : Wlen C) (qv : Qv C S) (q22 : ∀ j, j < nr → S 22 j = C 22 j) : ∃ (C' : St) (r : Int32 × St), ex (d + 11) 70 0 [some (.ref (G.ad 1)), none] [] (cM G C m0, cS G s0, n, k) = rtC G m0 s0 n k (r.1, C') ∧ (∀ f j, f < 43 → f ≠ 0 → f ≠ 14 → f ≠ 15 → f ≠ 32 → f ≠ 33 → C' f j = C f j) ∧ (∀ f j, f ≠ 0 → f ≠ 14 → f ≠ 15 → f ≠ 32 → f ≠ 33 → r.2 f j = S f j) ∧ Qv C' r.2 ∧ (∀ j, C' 44 j < 0 ∨ (∃ t, t < G.T ∧ C' 44 j = nI t) ∨ C' 44 j = C 44 j) ∧ (∃ q, q ≤ 7 ∧ C' 32 0 = nI q) ∧ ∀ e o F m, FrO o F m → S 17 0 = nI m → Md o m F (ex (e + 12) 194 0 [some (.ref o), none, none] [] (hM o F S)) r := by
  obtain ⟨C3, C2, gr, od, inv, gs, sl, hcs⟩ := c70 (d := d) (m0 := m0) (s0 := s0) (n := n) (k := k) hG w
  have wp := wpl_of hG w qv q22
  have n7 := w.2.2.2.2.1.2.1
  have h44 : ∀ j, C3 44 j < 0 ∨ (∃ t, t < G.T ∧ C3 44 j = nI t) ∨ C3 44 j = C 44 j := fun j => by
    by_cases hj : j < (gat C G.T).length
    · exact Or.inr (Or.inl ⟨_, (gat_kd hG w.1 (getD_mem hj)).1, (gs.2.2.2.1 j hj).1⟩)
    · exact Or.inr (Or.inr (gs.2.2.2.2 j (by omega)))
  have alk : ∀ Z fx x0, Gz S (gat C G.T) nr Z → (∀ r, r < nr → fx r < 0) → Alk C2 nr (gat C G.T).length (alG C3 (gat C G.T) (aR C) (fun _ => none)) (pcF C (gat C G.T) (aR C)) (prN S (gat C G.T)) fx (agB (sup Z 32 0 x0) nr) := fun Z fx x0 gz hf => alk_of hG w wl qv q22 gs sl gz (fun x c hx hc => ⟨fun _ y h => (by cases h), fun _ => Or.inl (hf x hx)⟩)
  rcases hcs with ⟨mx, C', a1, a2, a3⟩ | ⟨lt, C', f, a1, a2, a3, a4, a5, a6⟩
  · refine ⟨C', bdS (sup (gS1 S) 32 0 (nI 0)) 12, a3, fun f j h b0 b14 b15 b32 b33 => ?_, fun f j b0 b14 b15 b32 b33 => ?_, fun f j hf => ?_, fun j => by rw [a2]; exact h44 j, ⟨0, by omega, ?_⟩, fun e o F m hF hm => ?_⟩
    · rw [a1 f j h]
      rw [bdS_2]
      unfold gS1
      rw [sup_f b0, sup_f b32, sup_f b15, sup_f b14]
    · rw [bdS_2]
      unfold gS1
      rw [sup_f b0, sup_f b32, sup_f b15, sup_f b14]
    · rw [a1 f j (shf_lt f hf)]
      exact Qv_sup (Qv_sup (Qv_gS1 qv) _ _ _) _ _ _ f j hf
    · rw [a1 32 0 (by decide)]
      rw [bdS_2, sup_f (by decide), sup_eq]
    · obtain ⟨fx, ag, h1, ⟨Z, gz, z1, z2⟩, hr⟩ := m194 (d := e) (S := S) hF hm wp
      rw [qgat qv] at gz hr
      subst z2
      have k := alk Z fx (nI 0) gz h1
      have rl := rs_lc (od := od) (inv := inv) k sl.2.2.1 sl.2.2.2.1
      rcases hr with ⟨h2, h3⟩ | ⟨h, h2, h3, _⟩
      · exact h3
      · have := rl.1.mpr h3
        omega
  · have big := fun Z fx x0 gz hf => rs_lc (od := od) (inv := inv) (alk Z fx x0 gz hf) sl.2.2.1 sl.2.2.2.1
    refine ⟨C', fnS (plS S nr (gat C G.T) (fun x => f (inv x))) (nI (rsT C2 (gat C G.T).length (alG C3 (gat C G.T) (aR C) (fun _ => none)) (pcF C (gat C G.T) (aR C)) od nr 0)), a6, fun f j h b0 b14 b15 b32 b33 => ?_, fun f j b0 b14 b15 b32 b33 => ?_, fun f j hf => ?_, fun j => by rw [a2]; exact h44 j, ⟨nr, n7, ?_⟩, fun e o F m hF hm => ?_⟩
    · rw [a1 f j h]
      rw [fnS_2, sup_f b0]
      unfold plS gS1
      rw [if_neg (fun y => b33 y.1), sup_f b32, sup_f b15, sup_f b14]
    · rw [fnS_2, sup_f b0]
      unfold plS gS1
      rw [if_neg (fun y => b33 y.1), sup_f b32, sup_f b15, sup_f b14]
    · rw [a1 f j (shf_lt f hf)]
      exact Qv_sup (Qv_pl qv) _ _ _ f j hf
    · rw [a1 32 0 (by decide)]
      rw [fnS_2, sup_f (by decide)]
      unfold plS
      rw [if_neg (by omega), sup_eq]
    · obtain ⟨fx, ag, h1, ⟨Z, gz, z1, z2⟩, hr⟩ := m194 (d := e) (S := S) hF hm wp
      rw [qgat qv] at gz hr
      subst z2
      have k := alk Z fx (nI 0) gz h1
      have rl := rs_lc (od := od) (inv := inv) k sl.2.2.1 sl.2.2.2.1
      have ll := rl.1.mp lt
      have le := rl.2 lt
      rcases hr with ⟨h2, h3⟩ | ⟨h, h2, h3, h4, h5, h6⟩
      · exact absurd ll h2
      · obtain ⟨vh, ch⟩ := vpl_h (gat_len C G.T) h2 h1 h3 h4
        have pe := plan_eq k sl.2.2.1 sl.2.2.2.1 sl.2.2.2.2 ll a3 a4 a5 vh ch h5
        rw [plS_eq pe, ← le] at h6
        exact h6
theorem least_both {d n k : Nat} {m0 : Mm} {s0 : Nat → Nat × Nat} {r0 t : Nat} (hG : OKG G) (w : Wpc G C nr) (wl : Wlen C) (qv : Qv C S) (q22 : ∀ j, j < nr → S 22 j = C 22 j) (hr0 : r0 < nr) (ht : t < G.T) : ∃ (C' : St) (r : Int32 × St), ex (d + 11) 72 0 [some (.ref (G.ad 1)), some (.int (nI r0)), some (.int (nI t)), none, none] [] (cM G C m0, cS G s0, n, k) = rtC G m0 s0 n k (r.1, C') ∧ (∀ f j, f < 43 → f ≠ 0 → f ≠ 14 → f ≠ 15 → C' f j = C f j) ∧ (∀ f j, f ≠ 0 → f ≠ 14 → f ≠ 15 → r.2 f j = S f j) ∧ Qv C' r.2 ∧ (∀ j, C' 44 j < 0 ∨ (∃ t, t < G.T ∧ C' 44 j = nI t) ∨ C' 44 j = C 44 j) ∧ ∀ e o F m, FrO o F m → S 17 0 = nI m → Md o m F (ex (e + 12) 196 0 [some (.ref o), some (.int (nI r0)), some (.int (nI t)), none] [] (hM o F S)) r := by
  obtain ⟨C3, C2, gr, od, inv, gs, sl, C', a1, a2, a3⟩ := c72 (d := d) (m0 := m0) (s0 := s0) (n := n) (k := k) hG w hr0 ht
  have wp := wpl_of hG w qv q22
  have h44 : ∀ j, C3 44 j < 0 ∨ (∃ t, t < G.T ∧ C3 44 j = nI t) ∨ C3 44 j = C 44 j := fun j => by
    by_cases hj : j < (gat C G.T).length
    · exact Or.inr (Or.inl ⟨_, (gat_kd hG w.1 (getD_mem hj)).1, (gs.2.2.2.1 j hj).1⟩)
    · exact Or.inr (Or.inr (gs.2.2.2.2 j (by omega)))
  have tp := rsT_top (C := C2) (Cn := (gat C G.T).length) (al := alG C3 (gat C G.T) (aR C) (fun x => if x = r0 then some t else none)) (pc := pcF C (gat C G.T) (aR C)) (od := od) (nr := nr) (x := 0)
  have L8 := gat_len C G.T
  have no : (∀ c, c < (gat C G.T).length → ¬ (gat C G.T).getD c 0 = t) → rsT C2 (gat C G.T).length (alG C3 (gat C G.T) (aR C) (fun x => if x = r0 then some t else none)) (pcF C (gat C G.T) (aR C)) od nr 0 = 2147483647 := fun hno => by
    by_cases z : rsT C2 (gat C G.T).length (alG C3 (gat C G.T) (aR C) (fun x => if x = r0 then some t else none)) (pcF C (gat C G.T) (aR C)) od nr 0 < 2147483647
    · obtain ⟨f, f1, f2, f3⟩ := skV_hit (clsF_tl (C := C2) (od := od) (x := 0)) (nr - 0) 0 (fun _ => 0) 0 z
      have s := (vps_snd sl.2.2.1 sl.2.2.2.1).mp f2
      obtain ⟨b1, b2, b3⟩ := s r0 hr0
      exact absurd ((alG_iff.mp b2).1 t (if_pos rfl)) (hno _ b1)
    · omega
  have alk : ∀ Z fx x0 c0, Gz S (gat C G.T) nr Z → (∀ r, r < nr → fx r < 0) → c0 < (gat C G.T).length → (gat C G.T).getD c0 0 = t → Alk C2 nr (gat C G.T).length (alG C3 (gat C G.T) (aR C) (fun x => if x = r0 then some t else none)) (pcF C (gat C G.T) (aR C)) (prN S (gat C G.T)) (fx1 fx r0 (nI c0)) (agB (sup Z 32 0 x0) nr) := fun Z fx x0 c0 gz hf hc0 ec0 => alk_of hG w wl qv q22 gs sl gz (fun x c hx hc => by
    unfold fx1
    by_cases e : x = r0
    · rw [if_pos e, if_pos e]
      have np : ¬ nI c0 < 0 := nI_pos (by omega)
      constructor
      · rintro (h | h) y hy
        · exact absurd h np
        · have := (nI_eq (by omega) (by omega)).mp h
          rw [← this, ec0]
          exact Option.some.inj hy
      · intro h
        right
        have e1 := h t rfl
        rcases Nat.lt_trichotomy c c0 with q | q | q
        · have := gat_inj G.T c c0 q hc0; omega
        · rw [q]
        · have := gat_inj G.T c0 c q hc; omega
    · rw [if_neg e, if_neg e]
      exact ⟨fun _ y h => (by cases h), fun _ => Or.inl (hf x hx)⟩)
  have fr : ∀ v f j, f ≠ 0 → f ≠ 14 → f ≠ 15 → ∀ X : St, (lsR X v).2 f j = X f j := fun v f j b0 b14 b15 X => by
    unfold lsR
    split
    · rw [bdS_2]
      unfold gS1
      rw [sup_f b0, sup_f b15, sup_f b14]
    · rw [fnS_2]
      unfold gS1
      rw [sup_f b0, sup_f b15, sup_f b14]
  have e1 : ∀ v, (lsR S v).1 = (lsR C v).1 := fun v => by unfold lsR; split <;> rfl
  have e2 : ∀ v, Qv (lsR C v).2 (lsR S v).2 := fun v => by
    unfold lsR
    split
    · exact Qv_sup (Qv_gS1 qv) _ _ _
    · exact Qv_sup (Qv_gS1 qv) _ _ _
  refine ⟨C', lsR S (rsT C2 (gat C G.T).length (alG C3 (gat C G.T) (aR C) (fun x => if x = r0 then some t else none)) (pcF C (gat C G.T) (aR C)) od nr 0), by rw [e1]; exact a3, fun f j h b0 b14 b15 => by rw [a1 f j h]; exact fr _ f j b0 b14 b15 C, fun f j b0 b14 b15 => fr _ f j b0 b14 b15 S, fun f j hf => by rw [a1 f j (shf_lt f hf)]; exact e2 _ f j hf, fun j => by rw [a2]; exact h44 j, fun e o F m hF hm => ?_⟩
  obtain ⟨fx, ag, h1, ⟨Z, gz, z1, z2⟩, hr⟩ := m196 (d := e) (S := S) hF hm wp hr0 ht
  rw [qgat qv] at gz hr
  subst z2
  rcases ixT_cs (L := gat C G.T) (t := t) (gat C G.T).length with ⟨x1, x2⟩ | ⟨c0, x1, x2, x3⟩
  · rw [x1, if_pos (by decide)] at hr
    rw [no x2]
    unfold lsR
    rw [if_pos rfl]
    exact hr
  · rw [x2, if_neg (nI_pos (by omega))] at hr
    have k := alk Z fx (S 32 0) c0 gz h1 x1 x3
    have rl := rs_lc (od := od) (inv := inv) k sl.2.2.1 sl.2.2.2.1
    unfold lsR
    by_cases mx : rsT C2 (gat C G.T).length (alG C3 (gat C G.T) (aR C) (fun x => if x = r0 then some t else none)) (pcF C (gat C G.T) (aR C)) od nr 0 = 2147483647
    · rw [if_pos mx]
      rw [if_neg (fun y => by have := rl.1.mpr y; omega)] at hr
      exact hr
    · rw [if_neg mx]
      have lt : rsT C2 (gat C G.T).length (alG C3 (gat C G.T) (aR C) (fun x => if x = r0 then some t else none)) (pcF C (gat C G.T) (aR C)) od nr 0 < 2147483647 := by omega
      rw [if_pos (rl.1.mp lt), ← rl.2 lt] at hr
      exact hr
end DN
