/-! ===== the class: its cells as a function of its numbers and of its addresses (printed by wip/whole/gen/gencls.py) ===== -/
/-- what never changes of things that are made, and where they lie: codes by address, addresses by code, how many things, racks, actors, hires, changes; kinds, slots, values; hires' things and deposits; changes -/
def Gh : Type := (Nat → Nat) × (Nat → Nat) × Nat × Nat × Nat × Nat × Nat × (Nat → Nat) × (Nat → Nat) × (Nat → Nat) × (Nat → Nat) × (Nat → Int32) × (Nat → Nat) × (Nat → Nat → Value)
def Gh.W (G : Gh) := G.1
def Gh.ad (G : Gh) := G.2.1
def Gh.T (G : Gh) := G.2.2.1
def Gh.R (G : Gh) := G.2.2.2.1
def Gh.A (G : Gh) := G.2.2.2.2.1
def Gh.H (G : Gh) := G.2.2.2.2.2.1
def Gh.N (G : Gh) := G.2.2.2.2.2.2.1
def Gh.kd (G : Gh) := G.2.2.2.2.2.2.2.1
def Gh.sl (G : Gh) := G.2.2.2.2.2.2.2.2.1
def Gh.vl (G : Gh) := G.2.2.2.2.2.2.2.2.2.1
def Gh.ht (G : Gh) := G.2.2.2.2.2.2.2.2.2.2.1
def Gh.hd (G : Gh) := G.2.2.2.2.2.2.2.2.2.2.2.1
def Gh.ck (G : Gh) := G.2.2.2.2.2.2.2.2.2.2.2.2.1
def Gh.cv (G : Gh) := G.2.2.2.2.2.2.2.2.2.2.2.2.2
def mkG (W ad : Nat → Nat) (T R A H N : Nat) (kd sl vl ht : Nat → Nat) (hd : Nat → Int32) (ck : Nat → Nat) (cv : Nat → Nat → Value) : Gh := (W, ad, T, R, A, H, N, kd, sl, vl, ht, hd, ck, cv)
theorem mk_W {W ad : Nat → Nat} {T R A H N : Nat} {kd sl vl ht : Nat → Nat} {hd : Nat → Int32} {ck : Nat → Nat} {cv : Nat → Nat → Value} : (mkG W ad T R A H N kd sl vl ht hd ck cv).W = W := rfl
theorem mk_ad {W ad : Nat → Nat} {T R A H N : Nat} {kd sl vl ht : Nat → Nat} {hd : Nat → Int32} {ck : Nat → Nat} {cv : Nat → Nat → Value} : (mkG W ad T R A H N kd sl vl ht hd ck cv).ad = ad := rfl
theorem mk_T {W ad : Nat → Nat} {T R A H N : Nat} {kd sl vl ht : Nat → Nat} {hd : Nat → Int32} {ck : Nat → Nat} {cv : Nat → Nat → Value} : (mkG W ad T R A H N kd sl vl ht hd ck cv).T = T := rfl
theorem mk_R {W ad : Nat → Nat} {T R A H N : Nat} {kd sl vl ht : Nat → Nat} {hd : Nat → Int32} {ck : Nat → Nat} {cv : Nat → Nat → Value} : (mkG W ad T R A H N kd sl vl ht hd ck cv).R = R := rfl
theorem mk_A {W ad : Nat → Nat} {T R A H N : Nat} {kd sl vl ht : Nat → Nat} {hd : Nat → Int32} {ck : Nat → Nat} {cv : Nat → Nat → Value} : (mkG W ad T R A H N kd sl vl ht hd ck cv).A = A := rfl
theorem mk_H {W ad : Nat → Nat} {T R A H N : Nat} {kd sl vl ht : Nat → Nat} {hd : Nat → Int32} {ck : Nat → Nat} {cv : Nat → Nat → Value} : (mkG W ad T R A H N kd sl vl ht hd ck cv).H = H := rfl
theorem mk_N {W ad : Nat → Nat} {T R A H N : Nat} {kd sl vl ht : Nat → Nat} {hd : Nat → Int32} {ck : Nat → Nat} {cv : Nat → Nat → Value} : (mkG W ad T R A H N kd sl vl ht hd ck cv).N = N := rfl
theorem mk_kd {W ad : Nat → Nat} {T R A H N : Nat} {kd sl vl ht : Nat → Nat} {hd : Nat → Int32} {ck : Nat → Nat} {cv : Nat → Nat → Value} : (mkG W ad T R A H N kd sl vl ht hd ck cv).kd = kd := rfl
theorem mk_sl {W ad : Nat → Nat} {T R A H N : Nat} {kd sl vl ht : Nat → Nat} {hd : Nat → Int32} {ck : Nat → Nat} {cv : Nat → Nat → Value} : (mkG W ad T R A H N kd sl vl ht hd ck cv).sl = sl := rfl
theorem mk_vl {W ad : Nat → Nat} {T R A H N : Nat} {kd sl vl ht : Nat → Nat} {hd : Nat → Int32} {ck : Nat → Nat} {cv : Nat → Nat → Value} : (mkG W ad T R A H N kd sl vl ht hd ck cv).vl = vl := rfl
theorem mk_ht {W ad : Nat → Nat} {T R A H N : Nat} {kd sl vl ht : Nat → Nat} {hd : Nat → Int32} {ck : Nat → Nat} {cv : Nat → Nat → Value} : (mkG W ad T R A H N kd sl vl ht hd ck cv).ht = ht := rfl
theorem mk_hd {W ad : Nat → Nat} {T R A H N : Nat} {kd sl vl ht : Nat → Nat} {hd : Nat → Int32} {ck : Nat → Nat} {cv : Nat → Nat → Value} : (mkG W ad T R A H N kd sl vl ht hd ck cv).hd = hd := rfl
theorem mk_ck {W ad : Nat → Nat} {T R A H N : Nat} {kd sl vl ht : Nat → Nat} {hd : Nat → Int32} {ck : Nat → Nat} {cv : Nat → Nat → Value} : (mkG W ad T R A H N kd sl vl ht hd ck cv).ck = ck := rfl
theorem mk_cv {W ad : Nat → Nat} {T R A H N : Nat} {kd sl vl ht : Nat → Nat} {hd : Nat → Int32} {ck : Nat → Nat} {cv : Nat → Nat → Value} : (mkG W ad T R A H N kd sl vl ht hd ck cv).cv = cv := rfl
def aT (G : Gh) (t : Nat) : Nat := G.ad (if t < 200 then 100 + t else 0)
theorem aT_e {G : Gh} {t : Nat} (h : t < 200) : aT G t = G.ad (100 + t) := by unfold aT; rw [if_pos h]
def aH (G : Gh) (t : Nat) : Nat := G.ad (if t < 212 then 300 + t else 0)
theorem aH_e {G : Gh} {t : Nat} (h : t < 212) : aH G t = G.ad (300 + t) := by unfold aH; rw [if_pos h]
def aS (G : Gh) (t : Nat) : Nat := G.ad (if t < 212 then 600 + t else 0)
theorem aS_e {G : Gh} {t : Nat} (h : t < 212) : aS G t = G.ad (600 + t) := by unfold aS; rw [if_pos h]
def aZ (G : Gh) (t : Nat) : Nat := G.ad (if t < 200 then 1000 + t else 0)
theorem aZ_e {G : Gh} {t : Nat} (h : t < 200) : aZ G t = G.ad (1000 + t) := by unfold aZ; rw [if_pos h]
def aI (G : Gh) (t : Nat) : Nat := G.ad (if t < 200 then 1200 + t else 0)
theorem aI_e {G : Gh} {t : Nat} (h : t < 200) : aI G t = G.ad (1200 + t) := by unfold aI; rw [if_pos h]
def aO (G : Gh) (t : Nat) : Nat := G.ad (if t < 200 then 1400 + t else 0)
theorem aO_e {G : Gh} {t : Nat} (h : t < 200) : aO G t = G.ad (1400 + t) := by unfold aO; rw [if_pos h]
def aV (G : Gh) (t : Nat) : Nat := G.ad (if t < 200 then 1600 + t else 0)
theorem aV_e {G : Gh} {t : Nat} (h : t < 200) : aV G t = G.ad (1600 + t) := by unfold aV; rw [if_pos h]
def aA (G : Gh) (t : Nat) : Nat := G.ad (if t < 40 then 2000 + t else 0)
theorem aA_e {G : Gh} {t : Nat} (h : t < 40) : aA G t = G.ad (2000 + t) := by unfold aA; rw [if_pos h]
def aM (G : Gh) (t : Nat) : Nat := G.ad (if t < 40 then 2100 + t else 0)
theorem aM_e {G : Gh} {t : Nat} (h : t < 40) : aM G t = G.ad (2100 + t) := by unfold aM; rw [if_pos h]
def aJ (G : Gh) (t : Nat) : Nat := G.ad (if t < 300 then 2200 + t else 0)
theorem aJ_e {G : Gh} {t : Nat} (h : t < 300) : aJ G t = G.ad (2200 + t) := by unfold aJ; rw [if_pos h]
def aC (G : Gh) (t : Nat) : Nat := G.ad (if t < 512 then 3000 + t else 0)
theorem aC_e {G : Gh} {t : Nat} (h : t < 512) : aC G t = G.ad (3000 + t) := by unfold aC; rw [if_pos h]
def aP (G : Gh) (t : Nat) : Nat := G.ad (if t < 7 then 30 + t else 0)
theorem aP_e {G : Gh} {t : Nat} (h : t < 7) : aP G t = G.ad (30 + t) := by unfold aP; rw [if_pos h]
def aQ (G : Gh) (t : Nat) : Nat := G.ad (if t < 7 then 40 + t else 0)
theorem aQ_e {G : Gh} {t : Nat} (h : t < 7) : aQ G t = G.ad (40 + t) := by unfold aQ; rw [if_pos h]
def aG (G : Gh) (t : Nat) : Nat := G.ad (if t < 7 then 50 + t else 0)
theorem aG_e {G : Gh} {t : Nat} (h : t < 7) : aG G t = G.ad (50 + t) := by unfold aG; rw [if_pos h]
def tgT (k : Nat) : Nat := if k ≤ 3 then 1 else if k ≤ 5 then 9 else 8
def nfT (k : Nat) : Nat := if k ≤ 3 then 9 else if k ≤ 5 then 6 else 7
def nfC (t : Nat) : Nat := if t = 4 then 7 else if t = 7 then 6 else 3
/-- a thing, a holder, an actor by its number; none below 0 -/
def rfT (G : Gh) (x : Int32) : Value := if x < 0 then .null else .ref (aT G x.toNatClampNeg)
def rwN (x : Int32) : Nat := if x < nI 1000 then 200 + x.toNatClampNeg else x.toNatClampNeg - 1000
def rfH (G : Gh) (x : Int32) : Value := if x < 0 then .null else .ref (aH G (rwN x))
def rfA (G : Gh) (x : Int32) : Value := if x < 0 then .null else .ref (aA G x.toNatClampNeg)
def hN (r : Nat) : Int32 := if r < 200 then nI (1000 + r) else nI (r - 200)
/-- which number a cell holds: field and place; 99 none -/
def lc1 (j : Nat) : Nat := ([99, 1, 99, 8, 99, 19, 99, 35, 99, 17, 99, 34, 18, 14, 15, 42, 0] : List Nat).getD j 99
def lc7 (j : Nat) : Nat := ([99, 99, 21, 99, 99, 43, 99, 99, 99, 99, 99, 99, 99, 99, 99, 54, 99, 32] : List Nat).getD j 99
def lcA (x : Nat) : Nat := ([99, 99, 99, 99, 99, 99, 99, 99, 22, 23, 24, 44, 45, 99, 99, 48, 99, 50, 51, 52, 53, 33] : List Nat).getD x 99
def lcT (j : Nat) : Nat := ([99, 2, 3, 4, 5] : List Nat).getD j 99
def loc (x j : Nat) : Nat × Nat :=
  if x < 22 then (if x = 1 then (lc1 j, 0) else if x = 7 then (lc7 j, 0) else (lcA x, j))
  else if x < 100 then (if x < 30 then (99, 0) else if x < 38 then (if j < 8 then (46, 8 * (x - 30) + j) else (99, 0)) else if x < 40 then (99, 0) else if x < 48 then (if j < 8 then (47, 8 * (x - 40) + j) else (99, 0)) else if x < 50 then (99, 0) else if x < 58 then (if j < 8 then (49, 8 * (x - 50) + j) else (99, 0)) else (99, 0))
  else if x < 300 then (lcT j, x - 100)
  else if x < 600 then (99, 0)
  else if x < 1000 then (if j < 40 then (7, 40 * (x - 600) + j) else (99, 0))
  else if x < 1200 then (if j < 6 then (9, 6 * (x - 1000) + j) else (99, 0))
  else if x < 1400 then (if j < 6 then (10, 6 * (x - 1200) + j) else (99, 0))
  else if x < 1600 then (if j < 6 then (11, 6 * (x - 1400) + j) else (99, 0))
  else if x < 2000 then (if j < 40 then (12, 40 * (x - 1600) + j) else (99, 0))
  else if x < 2100 then (99, 0)
  else if x < 2200 then (if j < 6 then (20, 6 * (x - 2100) + j) else (99, 0))
  else if x < 3000 then (if j = 2 then (38, x - 2200) else (99, 0))
  else (99, 0)
/-- the cell of a number -/
def dcF (f : Nat) : Nat × Nat := ([(1, 16), (1, 1), (0, 0), (0, 0), (0, 0), (0, 0), (0, 0), (0, 0), (1, 3), (0, 0), (0, 0), (0, 0), (0, 0), (0, 0), (1, 13), (1, 14), (0, 0), (1, 9), (1, 12), (1, 5), (0, 0), (7, 2), (8, 0), (9, 0), (10, 0), (0, 0), (0, 0), (0, 0), (0, 0), (0, 0), (0, 0), (0, 0), (7, 17), (21, 0), (1, 11), (1, 7), (0, 0), (0, 0), (0, 0), (0, 0), (0, 0), (0, 0), (1, 15), (7, 5), (11, 0), (12, 0), (0, 0), (0, 0), (15, 0), (0, 0), (17, 0), (18, 0), (19, 0), (20, 0), (7, 15)] : List (Nat × Nat)).getD f (0, 0)
def dec (f k : Nat) : Nat × Nat :=
  if (dcF f).1 ≠ 0 then ((dcF f).1, (dcF f).2 + k)
  else if f = 46 then (30 + k / 8, k % 8) else if f = 47 then (40 + k / 8, k % 8) else if f = 49 then (50 + k / 8, k % 8)
  else if f = 2 then (100 + k, 1) else if f = 3 then (100 + k, 2) else if f = 4 then (100 + k, 3) else if f = 5 then (100 + k, 4)
  else if f = 7 then (600 + k / 40, k % 40) else if f = 9 then (1000 + k / 6, k % 6) else if f = 10 then (1200 + k / 6, k % 6) else if f = 11 then (1400 + k / 6, k % 6)
  else if f = 12 then (1600 + k / 40, k % 40) else if f = 20 then (2100 + k / 6, k % 6) else if f = 38 then (2200 + k, 2) else (0, 0)
theorem dec1 : ∀ j, j < 17 → lc1 j ≠ 99 → dec (lc1 j) 0 = (1, j) := by decide +kernel
theorem dec7 : ∀ j, j < 18 → lc7 j ≠ 99 → dec (lc7 j) 0 = (7, j) := by decide +kernel
theorem decA0 : ∀ x, x < 22 → lcA x ≠ 99 → dcF (lcA x) = (x, 0) ∧ x ≠ 0 := by decide +kernel
theorem lc1_o {j : Nat} (h : ¬ j < 17) : lc1 j = 99 := by
  unfold lc1
  rw [List.getD_eq_getElem?_getD, List.getElem?_eq_none (by simp; omega)]
  rfl
theorem lc7_o {j : Nat} (h : ¬ j < 18) : lc7 j = 99 := by
  unfold lc7
  rw [List.getD_eq_getElem?_getD, List.getElem?_eq_none (by simp; omega)]
  rfl
theorem lcT_o {j : Nat} (h : ¬ j < 5) : lcT j = 99 := by
  unfold lcT
  rw [List.getD_eq_getElem?_getD, List.getElem?_eq_none (by simp; omega)]
  rfl
theorem dec_loc {x j : Nat} (h : (loc x j).1 ≠ 99) : dec (loc x j).1 (loc x j).2 = (x, j) := by
  unfold loc at h ⊢
  by_cases h1 : x < 22
  · simp only [h1, if_true] at h ⊢
    by_cases e1 : x = 1
    · subst e1
      simp only [if_true] at h ⊢
      by_cases q : j < 17
      · exact dec1 j q h
      · exact absurd (lc1_o q) h
    · simp only [e1, if_false] at h ⊢
      by_cases e7 : x = 7
      · subst e7
        simp only [if_true] at h ⊢
        by_cases q : j < 18
        · exact dec7 j q h
        · exact absurd (lc7_o q) h
      · simp only [e7, if_false] at h ⊢
        obtain ⟨q0, q1⟩ := decA0 x h1 h
        unfold dec
        rw [if_pos (by rw [q0]; exact q1), q0]
        simp only [Nat.zero_add]
  · simp only [h1, if_false] at h ⊢
    by_cases h2 : 100 ≤ x ∧ x < 300
    · have a1 : ¬ x < 100 := by omega
      simp only [a1, h2.2, if_true, if_false] at h ⊢
      by_cases q : j < 5
      · have : j = 0 ∨ j = 1 ∨ j = 2 ∨ j = 3 ∨ j = 4 := by omega
        rcases this with rfl | rfl | rfl | rfl | rfl
        · exact absurd rfl h
        all_goals (show (100 + (x - 100), _) = (x, _); exact congrArg (fun q => (q, _)) (by omega))
      · exact absurd (lcT_o q) h
    · by_cases g : 30 ≤ x ∧ x < 38
      · rw [if_pos (show x < 100 by omega), if_neg (show ¬ x < 30 by omega), if_pos (show x < 38 by omega)] at h ⊢
        by_cases hj : j < 8
        · rw [if_pos hj]
          show (30 + (8 * (x - 30) + j) / 8, (8 * (x - 30) + j) % 8) = (x, j)
          exact Prod.ext (show 30 + (8 * (x - 30) + j) / 8 = x by omega) (show (8 * (x - 30) + j) % 8 = j by omega)
        · rw [if_neg hj] at h
          exact absurd rfl h
      · by_cases g : 40 ≤ x ∧ x < 48
        · rw [if_pos (show x < 100 by omega), if_neg (show ¬ x < 30 by omega), if_neg (show ¬ x < 38 by omega), if_neg (show ¬ x < 40 by omega), if_pos (show x < 48 by omega)] at h ⊢
          by_cases hj : j < 8
          · rw [if_pos hj]
            show (40 + (8 * (x - 40) + j) / 8, (8 * (x - 40) + j) % 8) = (x, j)
            exact Prod.ext (show 40 + (8 * (x - 40) + j) / 8 = x by omega) (show (8 * (x - 40) + j) % 8 = j by omega)
          · rw [if_neg hj] at h
            exact absurd rfl h
        · by_cases g : 50 ≤ x ∧ x < 58
          · rw [if_pos (show x < 100 by omega), if_neg (show ¬ x < 30 by omega), if_neg (show ¬ x < 38 by omega), if_neg (show ¬ x < 40 by omega), if_neg (show ¬ x < 48 by omega), if_neg (show ¬ x < 50 by omega), if_pos (show x < 58 by omega)] at h ⊢
            by_cases hj : j < 8
            · rw [if_pos hj]
              show (50 + (8 * (x - 50) + j) / 8, (8 * (x - 50) + j) % 8) = (x, j)
              exact Prod.ext (show 50 + (8 * (x - 50) + j) / 8 = x by omega) (show (8 * (x - 50) + j) % 8 = j by omega)
            · rw [if_neg hj] at h
              exact absurd rfl h
          · by_cases g : 600 ≤ x ∧ x < 1000
            · rw [if_neg (show ¬ x < 100 by omega), if_neg (show ¬ x < 300 by omega), if_neg (show ¬ x < 600 by omega), if_pos (show x < 1000 by omega)] at h ⊢
              by_cases hj : j < 40
              · rw [if_pos hj]
                show (600 + (40 * (x - 600) + j) / 40, (40 * (x - 600) + j) % 40) = (x, j)
                exact Prod.ext (show 600 + (40 * (x - 600) + j) / 40 = x by omega) (show (40 * (x - 600) + j) % 40 = j by omega)
              · rw [if_neg hj] at h
                exact absurd rfl h
            · by_cases g : 1000 ≤ x ∧ x < 1200
              · rw [if_neg (show ¬ x < 100 by omega), if_neg (show ¬ x < 300 by omega), if_neg (show ¬ x < 600 by omega), if_neg (show ¬ x < 1000 by omega), if_pos (show x < 1200 by omega)] at h ⊢
                by_cases hj : j < 6
                · rw [if_pos hj]
                  show (1000 + (6 * (x - 1000) + j) / 6, (6 * (x - 1000) + j) % 6) = (x, j)
                  exact Prod.ext (show 1000 + (6 * (x - 1000) + j) / 6 = x by omega) (show (6 * (x - 1000) + j) % 6 = j by omega)
                · rw [if_neg hj] at h
                  exact absurd rfl h
              · by_cases g : 1200 ≤ x ∧ x < 1400
                · rw [if_neg (show ¬ x < 100 by omega), if_neg (show ¬ x < 300 by omega), if_neg (show ¬ x < 600 by omega), if_neg (show ¬ x < 1000 by omega), if_neg (show ¬ x < 1200 by omega), if_pos (show x < 1400 by omega)] at h ⊢
                  by_cases hj : j < 6
                  · rw [if_pos hj]
                    show (1200 + (6 * (x - 1200) + j) / 6, (6 * (x - 1200) + j) % 6) = (x, j)
                    exact Prod.ext (show 1200 + (6 * (x - 1200) + j) / 6 = x by omega) (show (6 * (x - 1200) + j) % 6 = j by omega)
                  · rw [if_neg hj] at h
                    exact absurd rfl h
                · by_cases g : 1400 ≤ x ∧ x < 1600
                  · rw [if_neg (show ¬ x < 100 by omega), if_neg (show ¬ x < 300 by omega), if_neg (show ¬ x < 600 by omega), if_neg (show ¬ x < 1000 by omega), if_neg (show ¬ x < 1200 by omega), if_neg (show ¬ x < 1400 by omega), if_pos (show x < 1600 by omega)] at h ⊢
                    by_cases hj : j < 6
                    · rw [if_pos hj]
                      show (1400 + (6 * (x - 1400) + j) / 6, (6 * (x - 1400) + j) % 6) = (x, j)
                      exact Prod.ext (show 1400 + (6 * (x - 1400) + j) / 6 = x by omega) (show (6 * (x - 1400) + j) % 6 = j by omega)
                    · rw [if_neg hj] at h
                      exact absurd rfl h
                  · by_cases g : 1600 ≤ x ∧ x < 2000
                    · rw [if_neg (show ¬ x < 100 by omega), if_neg (show ¬ x < 300 by omega), if_neg (show ¬ x < 600 by omega), if_neg (show ¬ x < 1000 by omega), if_neg (show ¬ x < 1200 by omega), if_neg (show ¬ x < 1400 by omega), if_neg (show ¬ x < 1600 by omega), if_pos (show x < 2000 by omega)] at h ⊢
                      by_cases hj : j < 40
                      · rw [if_pos hj]
                        show (1600 + (40 * (x - 1600) + j) / 40, (40 * (x - 1600) + j) % 40) = (x, j)
                        exact Prod.ext (show 1600 + (40 * (x - 1600) + j) / 40 = x by omega) (show (40 * (x - 1600) + j) % 40 = j by omega)
                      · rw [if_neg hj] at h
                        exact absurd rfl h
                    · by_cases g : 2100 ≤ x ∧ x < 2200
                      · rw [if_neg (show ¬ x < 100 by omega), if_neg (show ¬ x < 300 by omega), if_neg (show ¬ x < 600 by omega), if_neg (show ¬ x < 1000 by omega), if_neg (show ¬ x < 1200 by omega), if_neg (show ¬ x < 1400 by omega), if_neg (show ¬ x < 1600 by omega), if_neg (show ¬ x < 2000 by omega), if_neg (show ¬ x < 2100 by omega), if_pos (show x < 2200 by omega)] at h ⊢
                        by_cases hj : j < 6
                        · rw [if_pos hj]
                          show (2100 + (6 * (x - 2100) + j) / 6, (6 * (x - 2100) + j) % 6) = (x, j)
                          exact Prod.ext (show 2100 + (6 * (x - 2100) + j) / 6 = x by omega) (show (6 * (x - 2100) + j) % 6 = j by omega)
                        · rw [if_neg hj] at h
                          exact absurd rfl h
                      · by_cases g : 2200 ≤ x ∧ x < 3000
                        · rw [if_neg (show ¬ x < 100 by omega), if_neg (show ¬ x < 300 by omega), if_neg (show ¬ x < 600 by omega), if_neg (show ¬ x < 1000 by omega), if_neg (show ¬ x < 1200 by omega), if_neg (show ¬ x < 1400 by omega), if_neg (show ¬ x < 1600 by omega), if_neg (show ¬ x < 2000 by omega), if_neg (show ¬ x < 2100 by omega), if_neg (show ¬ x < 2200 by omega), if_pos (show x < 3000 by omega)] at h ⊢
                          by_cases hj : j = 2
                          · rw [if_pos hj]
                            show (2200 + (x - 2200), 2) = (x, j)
                            exact Prod.ext (show 2200 + (x - 2200) = x by omega) (show 2 = j by omega)
                          · rw [if_neg hj] at h
                            exact absurd rfl h
                        · exfalso
                          apply h
                          have z : (22 ≤ x ∧ x < 30) ∨ (38 ≤ x ∧ x < 40) ∨ (48 ≤ x ∧ x < 50) ∨ (58 ≤ x ∧ x < 100) ∨ (300 ≤ x ∧ x < 600) ∨ (2000 ≤ x ∧ x < 2100) ∨ 3000 ≤ x := by omega
                          rcases z with z | z | z | z | z | z | z
                          · rw [if_pos (show x < 100 by omega), if_pos (show x < 30 by omega)]
                          · rw [if_pos (show x < 100 by omega), if_neg (show ¬ x < 30 by omega), if_neg (show ¬ x < 38 by omega), if_pos (show x < 40 by omega)]
                          · rw [if_pos (show x < 100 by omega), if_neg (show ¬ x < 30 by omega), if_neg (show ¬ x < 38 by omega), if_neg (show ¬ x < 40 by omega), if_neg (show ¬ x < 48 by omega), if_pos (show x < 50 by omega)]
                          · rw [if_pos (show x < 100 by omega), if_neg (show ¬ x < 30 by omega), if_neg (show ¬ x < 38 by omega), if_neg (show ¬ x < 40 by omega), if_neg (show ¬ x < 48 by omega), if_neg (show ¬ x < 50 by omega), if_neg (show ¬ x < 58 by omega)]
                          · rw [if_neg (show ¬ x < 100 by omega), if_neg (show ¬ x < 300 by omega), if_pos (show x < 600 by omega)]
                          · rw [if_neg (show ¬ x < 100 by omega), if_neg (show ¬ x < 300 by omega), if_neg (show ¬ x < 600 by omega), if_neg (show ¬ x < 1000 by omega), if_neg (show ¬ x < 1200 by omega), if_neg (show ¬ x < 1400 by omega), if_neg (show ¬ x < 1600 by omega), if_neg (show ¬ x < 2000 by omega), if_pos (show x < 2100 by omega)]
                          · rw [if_neg (show ¬ x < 100 by omega), if_neg (show ¬ x < 300 by omega), if_neg (show ¬ x < 600 by omega), if_neg (show ¬ x < 1000 by omega), if_neg (show ¬ x < 1200 by omega), if_neg (show ¬ x < 1400 by omega), if_neg (show ¬ x < 1600 by omega), if_neg (show ¬ x < 2000 by omega), if_neg (show ¬ x < 2100 by omega), if_neg (show ¬ x < 2200 by omega), if_neg (show ¬ x < 3000 by omega)]
def lvR (G : Gh) (r : Nat) : Prop := (r < G.T ∧ (G.kd r = 4 ∨ G.kd r = 5)) ∨ (200 ≤ r ∧ r < 200 + G.R)

def Lv (G : Gh) (x : Nat) : Prop := (1 ≤ x ∧ x ≤ 21) ∨ (30 ≤ x ∧ x < 37) ∨ (40 ≤ x ∧ x < 47) ∨ (50 ≤ x ∧ x < 57) ∨ (100 ≤ x ∧ x < 100 + G.T) ∨ (300 ≤ x ∧ x < 600 ∧ lvR G (x - 300)) ∨ (600 ≤ x ∧ x < 1000 ∧ lvR G (x - 600)) ∨ (1000 ≤ x ∧ x < 1000 + G.T ∧ G.kd (x - 1000) ≤ 3) ∨ (1200 ≤ x ∧ x < 1200 + G.T ∧ G.kd (x - 1200) ≤ 3) ∨ (1400 ≤ x ∧ x < 1400 + G.T ∧ G.kd (x - 1400) ≤ 3) ∨ (1600 ≤ x ∧ x < 1600 + G.T ∧ 6 ≤ G.kd (x - 1600)) ∨ (2000 ≤ x ∧ x < 2000 + G.A) ∨ (2100 ≤ x ∧ x < 2100 + G.A) ∨ (2200 ≤ x ∧ x < 2200 + G.H) ∨ (3000 ≤ x ∧ x < 3000 + G.N)
def OKG (G : Gh) : Prop := (∀ a, G.W a ≠ 0 → G.ad (G.W a) = a ∧ Lv G (G.W a)) ∧ (∀ x, Lv G x → G.W (G.ad x) = x) ∧ (G.T ≤ 200 ∧ G.R ≤ 12 ∧ G.A ≤ 40 ∧ G.H ≤ 300 ∧ G.N ≤ 512) ∧ (∀ t, t < G.T → G.kd t ≤ 8) ∧ (∀ r, lvR G r → G.sl r ≤ 40) ∧ (∀ t, t < G.T → G.vl t ≤ 40)
def wt1 (j : Nat) : Nat := ([2, 0, 3, 0, 4, 0, 5, 0, 6, 0, 7, 0, 0, 0, 0, 0, 0] : List Nat).getD j 0
def wt7 (j : Nat) : Nat := ([8, 9, 0, 10, 11, 0, 12, 13, 14, 15, 16, 17, 18, 19, 20, 0, 21, 0] : List Nat).getD j 0
def cW0 (G : Gh) (x j : Nat) (v : Int32) : Value :=
  if x = 1 then (if 17 ≤ j then dfv (pty 10 j) else if wt1 j = 0 then .int v else .ref (G.ad (wt1 j)))
  else if x = 7 then (if 18 ≤ j then dfv (pty 5 j) else if wt7 j = 0 then .int v else .ref (G.ad (wt7 j)))
  else if x = 2 then (if j < G.T then .ref (aT G j) else .null)
  else if x = 3 then (if j < G.R then .ref (aH G (200 + j)) else .null)
  else if x = 4 then (if j < G.A then .ref (aA G j) else .null)
  else if x = 5 then (if j < G.H then .ref (aJ G j) else .null)
  else if x = 6 then (if j < G.N then .ref (aC G j) else .null)
  else if x = 8 then rfA G v
  else if x = 11 then rfT G v
  else if x = 13 then (if j < 7 then .ref (aP G j) else .null)
  else if x = 14 then (if j < 7 then .ref (aQ G j) else .null)
  else if x = 16 then (if j < 7 then .ref (aG G j) else .null)
  else .int v
def thW (G : Gh) (t j : Nat) (v : Int32) : Value := match j with
  | 0 => .int (nI t)
  | 1 => .int v
  | 2 => .int v
  | 3 => rfH G v
  | 4 => .int v
  | 5 => if G.kd t = 4 ∨ G.kd t = 5 then .ref (aH G t) else .null
  | 6 => if G.kd t ≤ 3 then .ref (aZ G t) else if 6 ≤ G.kd t then .ref (aV G t) else dfv (pty 9 6)
  | 7 => if G.kd t ≤ 3 then .ref (aI G t) else dfv (pty (tgT (G.kd t)) 7)
  | 8 => if G.kd t ≤ 3 then .ref (aO G t) else dfv (pty (tgT (G.kd t)) 8)
  | j => dfv (pty (tgT (G.kd t)) j)
def hoW (G : Gh) (r j : Nat) : Value := match j with
  | 0 => .int (hN r)
  | 1 => if r < 200 then .ref (aT G r) else .null
  | 2 => .ref (aS G r)
  | j => dfv (pty 3 j)
def hiW (G : Gh) (i j : Nat) (v : Int32) : Value := match j with
  | 0 => .ref (aT G (G.ht i))
  | 1 => .int (G.hd i)
  | 2 => .int v
  | j => dfv (pty 2 j)
def cW (G : Gh) (x j : Nat) (v : Int32) : Value :=
  if x < 22 then cW0 G x j v
  else if x < 100 then (if (loc x j).1 = 99 then .int 0 else .int v)
  else if x < 300 then thW G (x - 100) j v
  else if x < 600 then hoW G (x - 300) j
  else if x < 1000 then (if j < G.sl (x - 600) then rfT G v else .null)
  else if x < 1600 then (if j < 6 then .int v else .int 0)
  else if x < 2000 then (if j < 40 then .int v else .int 0)
  else if x < 2100 then (if j = 0 then .ref (aM G (x - 2000)) else dfv (pty 0 j))
  else if x < 2200 then (if j < 6 then .int v else .int 0)
  else if x < 3000 then hiW G (x - 2200) j v
  else G.cv (x - 3000) j
def tl0 (x : Nat) : Nat × Nat := ([(99, 0), (10, 17), (21, 200), (22, 12), (23, 40), (24, 300), (25, 512), (5, 18), (23, 7), (20, 7), (20, 10), (21, 8), (20, 8), (26, 7), (26, 7), (20, 7), (26, 7), (20, 7), (20, 7), (20, 8), (20, 7), (20, 7)] : List (Nat × Nat)).getD x (99, 0)
def cT (G : Gh) (x : Nat) : Nat × Nat :=
  if x < 22 then tl0 x
  else if x < 100 then (20, if x < 50 then 8 else 7)
  else if x < 300 then (tgT (G.kd (x - 100)), nfT (G.kd (x - 100)))
  else if x < 600 then (3, 3)
  else if x < 1000 then (21, G.sl (x - 600))
  else if x < 1600 then (20, 6)
  else if x < 2000 then (20, G.vl (x - 1600))
  else if x < 2100 then (0, 1)
  else if x < 2200 then (20, 6)
  else if x < 3000 then (2, 3)
  else (G.ck (x - 3000), nfC (G.ck (x - 3000)))
def cM (G : Gh) (C : St) (m0 : Mm) : Mm := fun a j => if G.W a = 0 then m0 a j else cW G (G.W a) j (C (loc (G.W a) j).1 (loc (G.W a) j).2)
def cS (G : Gh) (s0 : Nat → Nat × Nat) : Nat → Nat × Nat := fun a => if G.W a = 0 then s0 a else cT G (G.W a)
theorem rfT_n {G : Gh} {x : Int32} (h : x < 0) : rfT G x = .null := if_pos h
theorem rfT_r {G : Gh} {t : Nat} (h : t < 2147483648) : rfT G (nI t) = .ref (aT G t) := by
  unfold rfT
  rw [if_neg (nI_pos h), nI_clamp h]
theorem rfH_n {G : Gh} {x : Int32} (h : x < 0) : rfH G x = .null := if_pos h
theorem rfA_n {G : Gh} {x : Int32} (h : x < 0) : rfA G x = .null := if_pos h
theorem rfA_r {G : Gh} {t : Nat} (h : t < 2147483648) : rfA G (nI t) = .ref (aA G t) := by
  unfold rfA
  rw [if_neg (nI_pos h), nI_clamp h]
theorem m1_0 : (-1 : Int32) < 0 := by decide
theorem zT : (nI 0 = 0) ↔ True := by decide
theorem oF : (nI 1 = 0) ↔ False := by decide
theorem oT : (nI 1 = 1) ↔ True := by decide
theorem zT0 : (nI 0 = nI 0) ↔ True := by decide
theorem oF0 : (nI 1 = nI 0) ↔ False := by decide
theorem hN_row {r : Nat} (h : r < 212) : rwN (hN r) = r ∧ ¬ hN r < 0 := by
  unfold rwN hN
  by_cases q : r < 200
  · rw [if_pos q, if_neg (fun z => absurd ((nI_ltI (by omega) (by omega)).mp z) (by omega)), nI_clamp (by omega)]
    exact ⟨by omega, nI_pos (by omega)⟩
  · rw [if_neg q, if_pos ((nI_ltI (by omega) (by omega)).mpr (by omega)), nI_clamp (by omega)]
    exact ⟨by omega, nI_pos (by omega)⟩
theorem rfH_r {G : Gh} {r : Nat} (h : r < 212) : rfH G (hN r) = .ref (aH G r) := by
  unfold rfH
  rw [if_neg (hN_row h).2, (hN_row h).1]
section CLS
variable {G : Gh} {C : St} {m0 : Mm} {s0 : Nat → Nat × Nat} {x j t r i : Nat} {v : Int32}
theorem rdg (hG : OKG G) (hx : Lv G x) : cM G C m0 (G.ad x) j = cW G x j (C (loc x j).1 (loc x j).2) := by
  unfold cM
  have e := hG.2.1 x hx
  have : x ≠ 0 := by unfold Lv at hx; omega
  rw [e, if_neg this]
theorem shg (hG : OKG G) (hx : Lv G x) : cS G s0 (G.ad x) = cT G x := by
  unfold cS
  have e := hG.2.1 x hx
  have : x ≠ 0 := by unfold Lv at hx; omega
  rw [e, if_neg this]
theorem wrg (hG : OKG G) (hx : Lv G x) (hf : (loc x j).1 ≠ 99) {y : Value} (hy : y = cW G x j v) : mup (cM G C m0) (G.ad x) j y = cM G (sup C (loc x j).1 (loc x j).2 v) m0 := by
  have e := hG.2.1 x hx
  have hx0 : x ≠ 0 := by unfold Lv at hx; omega
  subst hy
  funext a i
  unfold mup
  by_cases ha : a = G.ad x
  · subst ha
    unfold cM
    rw [e, if_neg hx0, if_neg hx0]
    by_cases hi : i = j
    · subst hi
      rw [if_pos ⟨rfl, rfl⟩, sup_eq]
    · rw [if_neg (fun z => hi z.2)]
      unfold sup
      rw [if_neg]
      intro z
      have h1 := dec_loc (x := x) (j := i) (by rw [z.1]; exact hf)
      rw [z.1, z.2, dec_loc hf] at h1
      exact hi (Prod.ext_iff.mp h1).2.symm
  · rw [if_neg (fun z => ha z.1)]
    unfold cM
    by_cases hw : G.W a = 0
    · rw [if_pos hw, if_pos hw]
    · rw [if_neg hw, if_neg hw]
      unfold sup
      rw [if_neg]
      intro z
      have h1 := dec_loc (x := G.W a) (j := i) (by rw [z.1]; exact hf)
      rw [z.1, z.2, dec_loc hf] at h1
      have h2 := (hG.1 a hw).1
      have e2 := (Prod.ext_iff.mp h1).1
      simp only [] at e2
      rw [← e2] at h2
      exact ha h2.symm
theorem lvT (h : t < G.T) : Lv G (100 + t) := by unfold Lv; omega
theorem lvH (hG : OKG G) (h : lvR G r) : Lv G (300 + r) := by
  unfold Lv
  have : r < 212 := by unfold lvR at h; have := hG.2.2.1; omega
  rw [show 300 + r - 300 = r by omega]
  exact Or.inr (Or.inr (Or.inr (Or.inr (Or.inr (Or.inl ⟨by omega, by omega, h⟩)))))
theorem lvS (hG : OKG G) (h : lvR G r) : Lv G (600 + r) := by
  unfold Lv
  have : r < 212 := by unfold lvR at h; have := hG.2.2.1; omega
  rw [show 600 + r - 600 = r by omega]
  exact Or.inr (Or.inr (Or.inr (Or.inr (Or.inr (Or.inr (Or.inl ⟨by omega, by omega, h⟩))))))
theorem lvZ (h : t < G.T) (k : G.kd t ≤ 3) : Lv G (1000 + t) := by
  unfold Lv
  rw [show 1000 + t - 1000 = t by omega]
  omega
theorem lvI (h : t < G.T) (k : G.kd t ≤ 3) : Lv G (1200 + t) := by
  unfold Lv
  rw [show 1200 + t - 1200 = t by omega]
  omega
theorem lvO (h : t < G.T) (k : G.kd t ≤ 3) : Lv G (1400 + t) := by
  unfold Lv
  rw [show 1400 + t - 1400 = t by omega]
  omega
theorem lvV (h : t < G.T) (k : 6 ≤ G.kd t) : Lv G (1600 + t) := by
  unfold Lv
  rw [show 1600 + t - 1600 = t by omega]
  omega
theorem lvA (h : t < G.A) : Lv G (2000 + t) := by unfold Lv; omega
theorem lvM (h : t < G.A) : Lv G (2100 + t) := by unfold Lv; omega
theorem lvJ (h : t < G.H) : Lv G (2200 + t) := by unfold Lv; omega
theorem lvC (h : t < G.N) : Lv G (3000 + t) := by unfold Lv; omega
theorem lvP (h : t < 7) : Lv G (30 + t) := by unfold Lv; omega
theorem lvQ (h : t < 7) : Lv G (40 + t) := by unfold Lv; omega
theorem lvG (h : t < 7) : Lv G (50 + t) := by unfold Lv; omega
theorem lr_212 (hG : OKG G) (h : lvR G r) : r < 212 := by unfold lvR at h; have := hG.2.2.1; omega
theorem isTh1 : isTh 1 = true := rfl
theorem isTh8 : isTh 8 = true := rfl
theorem isTh9 : isTh 9 = true := rfl
theorem isTh_tg {k : Nat} : isTh (tgT k) = true := by unfold tgT; split; rfl; split <;> rfl
theorem k_1_0 (hG : OKG G) : cM G C m0 (G.ad 1) 0 = .ref (G.ad 2) := rdg hG (Or.inl ⟨by decide, by decide⟩)
theorem k_1_1 (hG : OKG G) : cM G C m0 (G.ad 1) 1 = .int (C 1 0) := rdg hG (Or.inl ⟨by decide, by decide⟩)
theorem k_1_1w (hG : OKG G) : mup (cM G C m0) (G.ad 1) 1 (.int v) = cM G (sup C 1 0 v) m0 := wrg hG (Or.inl ⟨by decide, by decide⟩) (by decide) rfl
theorem k_1_2 (hG : OKG G) : cM G C m0 (G.ad 1) 2 = .ref (G.ad 3) := rdg hG (Or.inl ⟨by decide, by decide⟩)
theorem k_1_3 (hG : OKG G) : cM G C m0 (G.ad 1) 3 = .int (C 8 0) := rdg hG (Or.inl ⟨by decide, by decide⟩)
theorem k_1_3w (hG : OKG G) : mup (cM G C m0) (G.ad 1) 3 (.int v) = cM G (sup C 8 0 v) m0 := wrg hG (Or.inl ⟨by decide, by decide⟩) (by decide) rfl
theorem k_1_4 (hG : OKG G) : cM G C m0 (G.ad 1) 4 = .ref (G.ad 4) := rdg hG (Or.inl ⟨by decide, by decide⟩)
theorem k_1_5 (hG : OKG G) : cM G C m0 (G.ad 1) 5 = .int (C 19 0) := rdg hG (Or.inl ⟨by decide, by decide⟩)
theorem k_1_5w (hG : OKG G) : mup (cM G C m0) (G.ad 1) 5 (.int v) = cM G (sup C 19 0 v) m0 := wrg hG (Or.inl ⟨by decide, by decide⟩) (by decide) rfl
theorem k_1_6 (hG : OKG G) : cM G C m0 (G.ad 1) 6 = .ref (G.ad 5) := rdg hG (Or.inl ⟨by decide, by decide⟩)
theorem k_1_7 (hG : OKG G) : cM G C m0 (G.ad 1) 7 = .int (C 35 0) := rdg hG (Or.inl ⟨by decide, by decide⟩)
theorem k_1_7w (hG : OKG G) : mup (cM G C m0) (G.ad 1) 7 (.int v) = cM G (sup C 35 0 v) m0 := wrg hG (Or.inl ⟨by decide, by decide⟩) (by decide) rfl
theorem k_1_8 (hG : OKG G) : cM G C m0 (G.ad 1) 8 = .ref (G.ad 6) := rdg hG (Or.inl ⟨by decide, by decide⟩)
theorem k_1_9 (hG : OKG G) : cM G C m0 (G.ad 1) 9 = .int (C 17 0) := rdg hG (Or.inl ⟨by decide, by decide⟩)
theorem k_1_9w (hG : OKG G) : mup (cM G C m0) (G.ad 1) 9 (.int v) = cM G (sup C 17 0 v) m0 := wrg hG (Or.inl ⟨by decide, by decide⟩) (by decide) rfl
theorem k_1_10 (hG : OKG G) : cM G C m0 (G.ad 1) 10 = .ref (G.ad 7) := rdg hG (Or.inl ⟨by decide, by decide⟩)
theorem k_1_11 (hG : OKG G) : cM G C m0 (G.ad 1) 11 = .int (C 34 0) := rdg hG (Or.inl ⟨by decide, by decide⟩)
theorem k_1_11w (hG : OKG G) : mup (cM G C m0) (G.ad 1) 11 (.int v) = cM G (sup C 34 0 v) m0 := wrg hG (Or.inl ⟨by decide, by decide⟩) (by decide) rfl
theorem k_1_12 (hG : OKG G) : cM G C m0 (G.ad 1) 12 = .int (C 18 0) := rdg hG (Or.inl ⟨by decide, by decide⟩)
theorem k_1_12w (hG : OKG G) : mup (cM G C m0) (G.ad 1) 12 (.int v) = cM G (sup C 18 0 v) m0 := wrg hG (Or.inl ⟨by decide, by decide⟩) (by decide) rfl
theorem k_1_13 (hG : OKG G) : cM G C m0 (G.ad 1) 13 = .int (C 14 0) := rdg hG (Or.inl ⟨by decide, by decide⟩)
theorem k_1_13w (hG : OKG G) : mup (cM G C m0) (G.ad 1) 13 (.int v) = cM G (sup C 14 0 v) m0 := wrg hG (Or.inl ⟨by decide, by decide⟩) (by decide) rfl
theorem k_1_14 (hG : OKG G) : cM G C m0 (G.ad 1) 14 = .int (C 15 0) := rdg hG (Or.inl ⟨by decide, by decide⟩)
theorem k_1_14w (hG : OKG G) : mup (cM G C m0) (G.ad 1) 14 (.int v) = cM G (sup C 15 0 v) m0 := wrg hG (Or.inl ⟨by decide, by decide⟩) (by decide) rfl
theorem k_1_15 (hG : OKG G) : cM G C m0 (G.ad 1) 15 = .int (C 42 0) := rdg hG (Or.inl ⟨by decide, by decide⟩)
theorem k_1_15w (hG : OKG G) : mup (cM G C m0) (G.ad 1) 15 (.int v) = cM G (sup C 42 0 v) m0 := wrg hG (Or.inl ⟨by decide, by decide⟩) (by decide) rfl
theorem k_1_16 (hG : OKG G) : cM G C m0 (G.ad 1) 16 = .int (C 0 0) := rdg hG (Or.inl ⟨by decide, by decide⟩)
theorem k_1_16w (hG : OKG G) : mup (cM G C m0) (G.ad 1) 16 (.int v) = cM G (sup C 0 0 v) m0 := wrg hG (Or.inl ⟨by decide, by decide⟩) (by decide) rfl
theorem k_7_0 (hG : OKG G) : cM G C m0 (G.ad 7) 0 = .ref (G.ad 8) := rdg hG (Or.inl ⟨by decide, by decide⟩)
theorem k_7_1 (hG : OKG G) : cM G C m0 (G.ad 7) 1 = .ref (G.ad 9) := rdg hG (Or.inl ⟨by decide, by decide⟩)
theorem k_7_2 (hG : OKG G) : cM G C m0 (G.ad 7) 2 = .int (C 21 0) := rdg hG (Or.inl ⟨by decide, by decide⟩)
theorem k_7_2w (hG : OKG G) : mup (cM G C m0) (G.ad 7) 2 (.int v) = cM G (sup C 21 0 v) m0 := wrg hG (Or.inl ⟨by decide, by decide⟩) (by decide) rfl
theorem k_7_3 (hG : OKG G) : cM G C m0 (G.ad 7) 3 = .ref (G.ad 10) := rdg hG (Or.inl ⟨by decide, by decide⟩)
theorem k_7_4 (hG : OKG G) : cM G C m0 (G.ad 7) 4 = .ref (G.ad 11) := rdg hG (Or.inl ⟨by decide, by decide⟩)
theorem k_7_5 (hG : OKG G) : cM G C m0 (G.ad 7) 5 = .int (C 43 0) := rdg hG (Or.inl ⟨by decide, by decide⟩)
theorem k_7_5w (hG : OKG G) : mup (cM G C m0) (G.ad 7) 5 (.int v) = cM G (sup C 43 0 v) m0 := wrg hG (Or.inl ⟨by decide, by decide⟩) (by decide) rfl
theorem k_7_6 (hG : OKG G) : cM G C m0 (G.ad 7) 6 = .ref (G.ad 12) := rdg hG (Or.inl ⟨by decide, by decide⟩)
theorem k_7_7 (hG : OKG G) : cM G C m0 (G.ad 7) 7 = .ref (G.ad 13) := rdg hG (Or.inl ⟨by decide, by decide⟩)
theorem k_7_8 (hG : OKG G) : cM G C m0 (G.ad 7) 8 = .ref (G.ad 14) := rdg hG (Or.inl ⟨by decide, by decide⟩)
theorem k_7_9 (hG : OKG G) : cM G C m0 (G.ad 7) 9 = .ref (G.ad 15) := rdg hG (Or.inl ⟨by decide, by decide⟩)
theorem k_7_10 (hG : OKG G) : cM G C m0 (G.ad 7) 10 = .ref (G.ad 16) := rdg hG (Or.inl ⟨by decide, by decide⟩)
theorem k_7_11 (hG : OKG G) : cM G C m0 (G.ad 7) 11 = .ref (G.ad 17) := rdg hG (Or.inl ⟨by decide, by decide⟩)
theorem k_7_12 (hG : OKG G) : cM G C m0 (G.ad 7) 12 = .ref (G.ad 18) := rdg hG (Or.inl ⟨by decide, by decide⟩)
theorem k_7_13 (hG : OKG G) : cM G C m0 (G.ad 7) 13 = .ref (G.ad 19) := rdg hG (Or.inl ⟨by decide, by decide⟩)
theorem k_7_14 (hG : OKG G) : cM G C m0 (G.ad 7) 14 = .ref (G.ad 20) := rdg hG (Or.inl ⟨by decide, by decide⟩)
theorem k_7_15 (hG : OKG G) : cM G C m0 (G.ad 7) 15 = .int (C 54 0) := rdg hG (Or.inl ⟨by decide, by decide⟩)
theorem k_7_15w (hG : OKG G) : mup (cM G C m0) (G.ad 7) 15 (.int v) = cM G (sup C 54 0 v) m0 := wrg hG (Or.inl ⟨by decide, by decide⟩) (by decide) rfl
theorem k_7_16 (hG : OKG G) : cM G C m0 (G.ad 7) 16 = .ref (G.ad 21) := rdg hG (Or.inl ⟨by decide, by decide⟩)
theorem k_7_17 (hG : OKG G) : cM G C m0 (G.ad 7) 17 = .int (C 32 0) := rdg hG (Or.inl ⟨by decide, by decide⟩)
theorem k_7_17w (hG : OKG G) : mup (cM G C m0) (G.ad 7) 17 (.int v) = cM G (sup C 32 0 v) m0 := wrg hG (Or.inl ⟨by decide, by decide⟩) (by decide) rfl
theorem k_s1 (hG : OKG G) : cS G s0 (G.ad 1) = (10, 17) := shg hG (Or.inl ⟨by decide, by decide⟩)
theorem k_s2 (hG : OKG G) : cS G s0 (G.ad 2) = (21, 200) := shg hG (Or.inl ⟨by decide, by decide⟩)
theorem k_s3 (hG : OKG G) : cS G s0 (G.ad 3) = (22, 12) := shg hG (Or.inl ⟨by decide, by decide⟩)
theorem k_s4 (hG : OKG G) : cS G s0 (G.ad 4) = (23, 40) := shg hG (Or.inl ⟨by decide, by decide⟩)
theorem k_s5 (hG : OKG G) : cS G s0 (G.ad 5) = (24, 300) := shg hG (Or.inl ⟨by decide, by decide⟩)
theorem k_s6 (hG : OKG G) : cS G s0 (G.ad 6) = (25, 512) := shg hG (Or.inl ⟨by decide, by decide⟩)
theorem k_s7 (hG : OKG G) : cS G s0 (G.ad 7) = (5, 18) := shg hG (Or.inl ⟨by decide, by decide⟩)
theorem k_s8 (hG : OKG G) : cS G s0 (G.ad 8) = (23, 7) := shg hG (Or.inl ⟨by decide, by decide⟩)
theorem k_s9 (hG : OKG G) : cS G s0 (G.ad 9) = (20, 7) := shg hG (Or.inl ⟨by decide, by decide⟩)
theorem k_s10 (hG : OKG G) : cS G s0 (G.ad 10) = (20, 10) := shg hG (Or.inl ⟨by decide, by decide⟩)
theorem k_s11 (hG : OKG G) : cS G s0 (G.ad 11) = (21, 8) := shg hG (Or.inl ⟨by decide, by decide⟩)
theorem k_s12 (hG : OKG G) : cS G s0 (G.ad 12) = (20, 8) := shg hG (Or.inl ⟨by decide, by decide⟩)
theorem k_s13 (hG : OKG G) : cS G s0 (G.ad 13) = (26, 7) := shg hG (Or.inl ⟨by decide, by decide⟩)
theorem k_s14 (hG : OKG G) : cS G s0 (G.ad 14) = (26, 7) := shg hG (Or.inl ⟨by decide, by decide⟩)
theorem k_s15 (hG : OKG G) : cS G s0 (G.ad 15) = (20, 7) := shg hG (Or.inl ⟨by decide, by decide⟩)
theorem k_s16 (hG : OKG G) : cS G s0 (G.ad 16) = (26, 7) := shg hG (Or.inl ⟨by decide, by decide⟩)
theorem k_s17 (hG : OKG G) : cS G s0 (G.ad 17) = (20, 7) := shg hG (Or.inl ⟨by decide, by decide⟩)
theorem k_s18 (hG : OKG G) : cS G s0 (G.ad 18) = (20, 7) := shg hG (Or.inl ⟨by decide, by decide⟩)
theorem k_s19 (hG : OKG G) : cS G s0 (G.ad 19) = (20, 8) := shg hG (Or.inl ⟨by decide, by decide⟩)
theorem k_s20 (hG : OKG G) : cS G s0 (G.ad 20) = (20, 7) := shg hG (Or.inl ⟨by decide, by decide⟩)
theorem k_s21 (hG : OKG G) : cS G s0 (G.ad 21) = (20, 7) := shg hG (Or.inl ⟨by decide, by decide⟩)
theorem k_2 (hG : OKG G) (hj : j < G.T) : cM G C m0 (G.ad 2) j = .ref (aT G j) := (rdg hG (Or.inl ⟨by decide, by decide⟩)).trans (if_pos hj)
theorem k_3 (hG : OKG G) (hj : j < G.R) : cM G C m0 (G.ad 3) j = .ref (aH G (200 + j)) := (rdg hG (Or.inl ⟨by decide, by decide⟩)).trans (if_pos hj)
theorem k_4 (hG : OKG G) (hj : j < G.A) : cM G C m0 (G.ad 4) j = .ref (aA G j) := (rdg hG (Or.inl ⟨by decide, by decide⟩)).trans (if_pos hj)
theorem k_5 (hG : OKG G) (hj : j < G.H) : cM G C m0 (G.ad 5) j = .ref (aJ G j) := (rdg hG (Or.inl ⟨by decide, by decide⟩)).trans (if_pos hj)
theorem k_6 (hG : OKG G) (hj : j < G.N) : cM G C m0 (G.ad 6) j = .ref (aC G j) := (rdg hG (Or.inl ⟨by decide, by decide⟩)).trans (if_pos hj)
theorem k_13 (hG : OKG G) (hj : j < 7) : cM G C m0 (G.ad 13) j = .ref (aP G j) := (rdg hG (Or.inl ⟨by decide, by decide⟩)).trans (if_pos hj)
theorem k_14 (hG : OKG G) (hj : j < 7) : cM G C m0 (G.ad 14) j = .ref (aQ G j) := (rdg hG (Or.inl ⟨by decide, by decide⟩)).trans (if_pos hj)
theorem k_16 (hG : OKG G) (hj : j < 7) : cM G C m0 (G.ad 16) j = .ref (aG G j) := (rdg hG (Or.inl ⟨by decide, by decide⟩)).trans (if_pos hj)
theorem k_8 (hG : OKG G) : cM G C m0 (G.ad 8) j = rfA G (C 22 j) := rdg hG (Or.inl ⟨by decide, by decide⟩)
theorem k_8w (hG : OKG G) (ha : i < 2147483648) : mup (cM G C m0) (G.ad 8) j (.ref (aA G i)) = cM G (sup C 22 j (nI i)) m0 := wrg (x := 8) (j := j) hG (Or.inl ⟨by decide, by decide⟩) (show (22 : Nat) ≠ 99 by decide) (rfA_r ha).symm
theorem k_9 (hG : OKG G) : cM G C m0 (G.ad 9) j = .int (C 23 j) := rdg hG (Or.inl ⟨by decide, by decide⟩)
theorem k_9w (hG : OKG G) : mup (cM G C m0) (G.ad 9) j (.int v) = cM G (sup C 23 j v) m0 := wrg (x := 9) (j := j) hG (Or.inl ⟨by decide, by decide⟩) (show (23 : Nat) ≠ 99 by decide) rfl
theorem k_10 (hG : OKG G) : cM G C m0 (G.ad 10) j = .int (C 24 j) := rdg hG (Or.inl ⟨by decide, by decide⟩)
theorem k_10w (hG : OKG G) : mup (cM G C m0) (G.ad 10) j (.int v) = cM G (sup C 24 j v) m0 := wrg (x := 10) (j := j) hG (Or.inl ⟨by decide, by decide⟩) (show (24 : Nat) ≠ 99 by decide) rfl
theorem k_11 (hG : OKG G) : cM G C m0 (G.ad 11) j = rfT G (C 44 j) := rdg hG (Or.inl ⟨by decide, by decide⟩)
theorem k_11w (hG : OKG G) (ha : i < 2147483648) : mup (cM G C m0) (G.ad 11) j (.ref (aT G i)) = cM G (sup C 44 j (nI i)) m0 := wrg (x := 11) (j := j) hG (Or.inl ⟨by decide, by decide⟩) (show (44 : Nat) ≠ 99 by decide) (rfT_r ha).symm
theorem k_12 (hG : OKG G) : cM G C m0 (G.ad 12) j = .int (C 45 j) := rdg hG (Or.inl ⟨by decide, by decide⟩)
theorem k_12w (hG : OKG G) : mup (cM G C m0) (G.ad 12) j (.int v) = cM G (sup C 45 j v) m0 := wrg (x := 12) (j := j) hG (Or.inl ⟨by decide, by decide⟩) (show (45 : Nat) ≠ 99 by decide) rfl
theorem k_15 (hG : OKG G) : cM G C m0 (G.ad 15) j = .int (C 48 j) := rdg hG (Or.inl ⟨by decide, by decide⟩)
theorem k_15w (hG : OKG G) : mup (cM G C m0) (G.ad 15) j (.int v) = cM G (sup C 48 j v) m0 := wrg (x := 15) (j := j) hG (Or.inl ⟨by decide, by decide⟩) (show (48 : Nat) ≠ 99 by decide) rfl
theorem k_17 (hG : OKG G) : cM G C m0 (G.ad 17) j = .int (C 50 j) := rdg hG (Or.inl ⟨by decide, by decide⟩)
theorem k_17w (hG : OKG G) : mup (cM G C m0) (G.ad 17) j (.int v) = cM G (sup C 50 j v) m0 := wrg (x := 17) (j := j) hG (Or.inl ⟨by decide, by decide⟩) (show (50 : Nat) ≠ 99 by decide) rfl
theorem k_18 (hG : OKG G) : cM G C m0 (G.ad 18) j = .int (C 51 j) := rdg hG (Or.inl ⟨by decide, by decide⟩)
theorem k_18w (hG : OKG G) : mup (cM G C m0) (G.ad 18) j (.int v) = cM G (sup C 51 j v) m0 := wrg (x := 18) (j := j) hG (Or.inl ⟨by decide, by decide⟩) (show (51 : Nat) ≠ 99 by decide) rfl
theorem k_19 (hG : OKG G) : cM G C m0 (G.ad 19) j = .int (C 52 j) := rdg hG (Or.inl ⟨by decide, by decide⟩)
theorem k_19w (hG : OKG G) : mup (cM G C m0) (G.ad 19) j (.int v) = cM G (sup C 52 j v) m0 := wrg (x := 19) (j := j) hG (Or.inl ⟨by decide, by decide⟩) (show (52 : Nat) ≠ 99 by decide) rfl
theorem k_20 (hG : OKG G) : cM G C m0 (G.ad 20) j = .int (C 53 j) := rdg hG (Or.inl ⟨by decide, by decide⟩)
theorem k_20w (hG : OKG G) : mup (cM G C m0) (G.ad 20) j (.int v) = cM G (sup C 53 j v) m0 := wrg (x := 20) (j := j) hG (Or.inl ⟨by decide, by decide⟩) (show (53 : Nat) ≠ 99 by decide) rfl
theorem k_21 (hG : OKG G) : cM G C m0 (G.ad 21) j = .int (C 33 j) := rdg hG (Or.inl ⟨by decide, by decide⟩)
theorem k_21w (hG : OKG G) : mup (cM G C m0) (G.ad 21) j (.int v) = cM G (sup C 33 j v) m0 := wrg (x := 21) (j := j) hG (Or.inl ⟨by decide, by decide⟩) (show (33 : Nat) ≠ 99 by decide) rfl
theorem loc_P (h : t < 7) (hj : j < 8) : loc (30 + t) j = (46, 8 * t + j) := by
  unfold loc
  rw [if_neg (show ¬ 30 + t < 22 by omega), if_pos (show 30 + t < 100 by omega), if_neg (show ¬ 30 + t < 30 by omega), if_pos (show 30 + t < 38 by omega), if_pos hj, show 30 + t - 30 = t by omega]
theorem cW_P (h : t < 7) (hj : j < 8) : cW G (30 + t) j v = .int v := by
  unfold cW
  rw [if_neg (show ¬ 30 + t < 22 by omega), if_pos (show 30 + t < 100 by omega), loc_P h hj, if_neg (show ¬ 46 = 99 by decide)]
theorem k_P (hG : OKG G) (h : t < 7) (hj : j < 8) : cM G C m0 (aP G t) j = .int (C 46 (8 * t + j)) := by
  have b := h
  rw [aP_e b, rdg hG (lvP h), cW_P b hj, loc_P b hj]
theorem k_Pw (hG : OKG G) (h : t < 7) (hj : j < 8) : mup (cM G C m0) (aP G t) j (.int v) = cM G (sup C 46 (8 * t + j) v) m0 := by
  have b : t < 7 := by exact h
  rw [aP_e b]
  have q := wrg (C := C) (m0 := m0) (j := j) (v := v) hG (lvP h) (by rw [loc_P b hj]; exact (by decide : (46 : Nat) ≠ 99)) (cW_P b hj).symm
  rw [loc_P b hj] at q
  exact q
theorem k_sP (hG : OKG G) (h : t < 7) : cS G s0 (aP G t) = (20, 8) := by
  have b : t < 7 := by exact h
  rw [aP_e b, shg hG (lvP h)]
  unfold cT
  rw [if_neg (show ¬ 30 + t < 22 by omega), if_pos (show 30 + t < 100 by omega), if_pos (show 30 + t < 50 by omega)]
theorem loc_Q (h : t < 7) (hj : j < 8) : loc (40 + t) j = (47, 8 * t + j) := by
  unfold loc
  rw [if_neg (show ¬ 40 + t < 22 by omega), if_pos (show 40 + t < 100 by omega), if_neg (show ¬ 40 + t < 30 by omega), if_neg (show ¬ 40 + t < 38 by omega), if_neg (show ¬ 40 + t < 40 by omega), if_pos (show 40 + t < 48 by omega), if_pos hj, show 40 + t - 40 = t by omega]
theorem cW_Q (h : t < 7) (hj : j < 8) : cW G (40 + t) j v = .int v := by
  unfold cW
  rw [if_neg (show ¬ 40 + t < 22 by omega), if_pos (show 40 + t < 100 by omega), loc_Q h hj, if_neg (show ¬ 47 = 99 by decide)]
theorem k_Q (hG : OKG G) (h : t < 7) (hj : j < 8) : cM G C m0 (aQ G t) j = .int (C 47 (8 * t + j)) := by
  have b := h
  rw [aQ_e b, rdg hG (lvQ h), cW_Q b hj, loc_Q b hj]
theorem k_Qw (hG : OKG G) (h : t < 7) (hj : j < 8) : mup (cM G C m0) (aQ G t) j (.int v) = cM G (sup C 47 (8 * t + j) v) m0 := by
  have b : t < 7 := by exact h
  rw [aQ_e b]
  have q := wrg (C := C) (m0 := m0) (j := j) (v := v) hG (lvQ h) (by rw [loc_Q b hj]; exact (by decide : (47 : Nat) ≠ 99)) (cW_Q b hj).symm
  rw [loc_Q b hj] at q
  exact q
theorem k_sQ (hG : OKG G) (h : t < 7) : cS G s0 (aQ G t) = (20, 8) := by
  have b : t < 7 := by exact h
  rw [aQ_e b, shg hG (lvQ h)]
  unfold cT
  rw [if_neg (show ¬ 40 + t < 22 by omega), if_pos (show 40 + t < 100 by omega), if_pos (show 40 + t < 50 by omega)]
theorem loc_G (h : t < 7) (hj : j < 8) : loc (50 + t) j = (49, 8 * t + j) := by
  unfold loc
  rw [if_neg (show ¬ 50 + t < 22 by omega), if_pos (show 50 + t < 100 by omega), if_neg (show ¬ 50 + t < 30 by omega), if_neg (show ¬ 50 + t < 38 by omega), if_neg (show ¬ 50 + t < 40 by omega), if_neg (show ¬ 50 + t < 48 by omega), if_neg (show ¬ 50 + t < 50 by omega), if_pos (show 50 + t < 58 by omega), if_pos hj, show 50 + t - 50 = t by omega]
theorem cW_G (h : t < 7) (hj : j < 8) : cW G (50 + t) j v = .int v := by
  unfold cW
  rw [if_neg (show ¬ 50 + t < 22 by omega), if_pos (show 50 + t < 100 by omega), loc_G h hj, if_neg (show ¬ 49 = 99 by decide)]
theorem k_G (hG : OKG G) (h : t < 7) (hj : j < 8) : cM G C m0 (aG G t) j = .int (C 49 (8 * t + j)) := by
  have b := h
  rw [aG_e b, rdg hG (lvG h), cW_G b hj, loc_G b hj]
theorem k_Gw (hG : OKG G) (h : t < 7) (hj : j < 8) : mup (cM G C m0) (aG G t) j (.int v) = cM G (sup C 49 (8 * t + j) v) m0 := by
  have b : t < 7 := by exact h
  rw [aG_e b]
  have q := wrg (C := C) (m0 := m0) (j := j) (v := v) hG (lvG h) (by rw [loc_G b hj]; exact (by decide : (49 : Nat) ≠ 99)) (cW_G b hj).symm
  rw [loc_G b hj] at q
  exact q
theorem k_sG (hG : OKG G) (h : t < 7) : cS G s0 (aG G t) = (20, 7) := by
  have b : t < 7 := by exact h
  rw [aG_e b, shg hG (lvG h)]
  unfold cT
  rw [if_neg (show ¬ 50 + t < 22 by omega), if_pos (show 50 + t < 100 by omega), if_neg (show ¬ 50 + t < 50 by omega)]
theorem loc_Z (h : t < 200) (hj : j < 6) : loc (1000 + t) j = (9, 6 * t + j) := by
  unfold loc
  rw [if_neg (show ¬ 1000 + t < 22 by omega), if_neg (show ¬ 1000 + t < 100 by omega), if_neg (show ¬ 1000 + t < 300 by omega), if_neg (show ¬ 1000 + t < 600 by omega), if_neg (show ¬ 1000 + t < 1000 by omega), if_pos (show 1000 + t < 1200 by omega), if_pos hj, show 1000 + t - 1000 = t by omega]
theorem cW_Z (h : t < 200) (hj : j < 6) : cW G (1000 + t) j v = .int v := by
  unfold cW
  rw [if_neg (show ¬ 1000 + t < 22 by omega), if_neg (show ¬ 1000 + t < 100 by omega), if_neg (show ¬ 1000 + t < 300 by omega), if_neg (show ¬ 1000 + t < 600 by omega), if_neg (show ¬ 1000 + t < 1000 by omega), if_pos (show 1000 + t < 1600 by omega), if_pos hj]
theorem k_Z (hG : OKG G) (h : t < G.T) (k : G.kd t ≤ 3) (hj : j < 6) : cM G C m0 (aZ G t) j = .int (C 9 (6 * t + j)) := by
  have b : t < 200 := by have := hG.2.2.1; omega
  rw [aZ_e b, rdg hG (lvZ h k), cW_Z b hj, loc_Z b hj]
theorem k_Zw (hG : OKG G) (h : t < G.T) (k : G.kd t ≤ 3) (hj : j < 6) : mup (cM G C m0) (aZ G t) j (.int v) = cM G (sup C 9 (6 * t + j) v) m0 := by
  have b : t < 200 := by have := hG.2.2.1; omega
  rw [aZ_e b]
  have q := wrg (C := C) (m0 := m0) (j := j) (v := v) hG (lvZ h k) (by rw [loc_Z b hj]; exact (by decide : (9 : Nat) ≠ 99)) (cW_Z b hj).symm
  rw [loc_Z b hj] at q
  exact q
theorem k_sZ (hG : OKG G) (h : t < G.T) (k : G.kd t ≤ 3) : cS G s0 (aZ G t) = (20, 6) := by
  have b : t < 200 := by have := hG.2.2.1; omega
  rw [aZ_e b, shg hG (lvZ h k)]
  unfold cT
  rw [if_neg (show ¬ 1000 + t < 22 by omega), if_neg (show ¬ 1000 + t < 100 by omega), if_neg (show ¬ 1000 + t < 300 by omega), if_neg (show ¬ 1000 + t < 600 by omega), if_neg (show ¬ 1000 + t < 1000 by omega), if_pos (show 1000 + t < 1600 by omega)]
theorem loc_I (h : t < 200) (hj : j < 6) : loc (1200 + t) j = (10, 6 * t + j) := by
  unfold loc
  rw [if_neg (show ¬ 1200 + t < 22 by omega), if_neg (show ¬ 1200 + t < 100 by omega), if_neg (show ¬ 1200 + t < 300 by omega), if_neg (show ¬ 1200 + t < 600 by omega), if_neg (show ¬ 1200 + t < 1000 by omega), if_neg (show ¬ 1200 + t < 1200 by omega), if_pos (show 1200 + t < 1400 by omega), if_pos hj, show 1200 + t - 1200 = t by omega]
theorem cW_I (h : t < 200) (hj : j < 6) : cW G (1200 + t) j v = .int v := by
  unfold cW
  rw [if_neg (show ¬ 1200 + t < 22 by omega), if_neg (show ¬ 1200 + t < 100 by omega), if_neg (show ¬ 1200 + t < 300 by omega), if_neg (show ¬ 1200 + t < 600 by omega), if_neg (show ¬ 1200 + t < 1000 by omega), if_pos (show 1200 + t < 1600 by omega), if_pos hj]
theorem k_I (hG : OKG G) (h : t < G.T) (k : G.kd t ≤ 3) (hj : j < 6) : cM G C m0 (aI G t) j = .int (C 10 (6 * t + j)) := by
  have b : t < 200 := by have := hG.2.2.1; omega
  rw [aI_e b, rdg hG (lvI h k), cW_I b hj, loc_I b hj]
theorem k_Iw (hG : OKG G) (h : t < G.T) (k : G.kd t ≤ 3) (hj : j < 6) : mup (cM G C m0) (aI G t) j (.int v) = cM G (sup C 10 (6 * t + j) v) m0 := by
  have b : t < 200 := by have := hG.2.2.1; omega
  rw [aI_e b]
  have q := wrg (C := C) (m0 := m0) (j := j) (v := v) hG (lvI h k) (by rw [loc_I b hj]; exact (by decide : (10 : Nat) ≠ 99)) (cW_I b hj).symm
  rw [loc_I b hj] at q
  exact q
theorem k_sI (hG : OKG G) (h : t < G.T) (k : G.kd t ≤ 3) : cS G s0 (aI G t) = (20, 6) := by
  have b : t < 200 := by have := hG.2.2.1; omega
  rw [aI_e b, shg hG (lvI h k)]
  unfold cT
  rw [if_neg (show ¬ 1200 + t < 22 by omega), if_neg (show ¬ 1200 + t < 100 by omega), if_neg (show ¬ 1200 + t < 300 by omega), if_neg (show ¬ 1200 + t < 600 by omega), if_neg (show ¬ 1200 + t < 1000 by omega), if_pos (show 1200 + t < 1600 by omega)]
theorem loc_O (h : t < 200) (hj : j < 6) : loc (1400 + t) j = (11, 6 * t + j) := by
  unfold loc
  rw [if_neg (show ¬ 1400 + t < 22 by omega), if_neg (show ¬ 1400 + t < 100 by omega), if_neg (show ¬ 1400 + t < 300 by omega), if_neg (show ¬ 1400 + t < 600 by omega), if_neg (show ¬ 1400 + t < 1000 by omega), if_neg (show ¬ 1400 + t < 1200 by omega), if_neg (show ¬ 1400 + t < 1400 by omega), if_pos (show 1400 + t < 1600 by omega), if_pos hj, show 1400 + t - 1400 = t by omega]
theorem cW_O (h : t < 200) (hj : j < 6) : cW G (1400 + t) j v = .int v := by
  unfold cW
  rw [if_neg (show ¬ 1400 + t < 22 by omega), if_neg (show ¬ 1400 + t < 100 by omega), if_neg (show ¬ 1400 + t < 300 by omega), if_neg (show ¬ 1400 + t < 600 by omega), if_neg (show ¬ 1400 + t < 1000 by omega), if_pos (show 1400 + t < 1600 by omega), if_pos hj]
theorem k_O (hG : OKG G) (h : t < G.T) (k : G.kd t ≤ 3) (hj : j < 6) : cM G C m0 (aO G t) j = .int (C 11 (6 * t + j)) := by
  have b : t < 200 := by have := hG.2.2.1; omega
  rw [aO_e b, rdg hG (lvO h k), cW_O b hj, loc_O b hj]
theorem k_Ow (hG : OKG G) (h : t < G.T) (k : G.kd t ≤ 3) (hj : j < 6) : mup (cM G C m0) (aO G t) j (.int v) = cM G (sup C 11 (6 * t + j) v) m0 := by
  have b : t < 200 := by have := hG.2.2.1; omega
  rw [aO_e b]
  have q := wrg (C := C) (m0 := m0) (j := j) (v := v) hG (lvO h k) (by rw [loc_O b hj]; exact (by decide : (11 : Nat) ≠ 99)) (cW_O b hj).symm
  rw [loc_O b hj] at q
  exact q
theorem k_sO (hG : OKG G) (h : t < G.T) (k : G.kd t ≤ 3) : cS G s0 (aO G t) = (20, 6) := by
  have b : t < 200 := by have := hG.2.2.1; omega
  rw [aO_e b, shg hG (lvO h k)]
  unfold cT
  rw [if_neg (show ¬ 1400 + t < 22 by omega), if_neg (show ¬ 1400 + t < 100 by omega), if_neg (show ¬ 1400 + t < 300 by omega), if_neg (show ¬ 1400 + t < 600 by omega), if_neg (show ¬ 1400 + t < 1000 by omega), if_pos (show 1400 + t < 1600 by omega)]
theorem loc_V (h : t < 200) (hj : j < 40) : loc (1600 + t) j = (12, 40 * t + j) := by
  unfold loc
  rw [if_neg (show ¬ 1600 + t < 22 by omega), if_neg (show ¬ 1600 + t < 100 by omega), if_neg (show ¬ 1600 + t < 300 by omega), if_neg (show ¬ 1600 + t < 600 by omega), if_neg (show ¬ 1600 + t < 1000 by omega), if_neg (show ¬ 1600 + t < 1200 by omega), if_neg (show ¬ 1600 + t < 1400 by omega), if_neg (show ¬ 1600 + t < 1600 by omega), if_pos (show 1600 + t < 2000 by omega), if_pos hj, show 1600 + t - 1600 = t by omega]
theorem cW_V (h : t < 200) (hj : j < 40) : cW G (1600 + t) j v = .int v := by
  unfold cW
  rw [if_neg (show ¬ 1600 + t < 22 by omega), if_neg (show ¬ 1600 + t < 100 by omega), if_neg (show ¬ 1600 + t < 300 by omega), if_neg (show ¬ 1600 + t < 600 by omega), if_neg (show ¬ 1600 + t < 1000 by omega), if_neg (show ¬ 1600 + t < 1600 by omega), if_pos (show 1600 + t < 2000 by omega), if_pos hj]
theorem k_V (hG : OKG G) (h : t < G.T) (k : 6 ≤ G.kd t) (hj : j < 40) : cM G C m0 (aV G t) j = .int (C 12 (40 * t + j)) := by
  have b : t < 200 := by have := hG.2.2.1; omega
  rw [aV_e b, rdg hG (lvV h k), cW_V b hj, loc_V b hj]
theorem k_Vw (hG : OKG G) (h : t < G.T) (k : 6 ≤ G.kd t) (hj : j < 40) : mup (cM G C m0) (aV G t) j (.int v) = cM G (sup C 12 (40 * t + j) v) m0 := by
  have b : t < 200 := by have := hG.2.2.1; omega
  rw [aV_e b]
  have q := wrg (C := C) (m0 := m0) (j := j) (v := v) hG (lvV h k) (by rw [loc_V b hj]; exact (by decide : (12 : Nat) ≠ 99)) (cW_V b hj).symm
  rw [loc_V b hj] at q
  exact q
theorem k_sV (hG : OKG G) (h : t < G.T) (k : 6 ≤ G.kd t) : cS G s0 (aV G t) = (20, G.vl t) := by
  have b : t < 200 := by have := hG.2.2.1; omega
  rw [aV_e b, shg hG (lvV h k)]
  unfold cT
  rw [if_neg (show ¬ 1600 + t < 22 by omega), if_neg (show ¬ 1600 + t < 100 by omega), if_neg (show ¬ 1600 + t < 300 by omega), if_neg (show ¬ 1600 + t < 600 by omega), if_neg (show ¬ 1600 + t < 1000 by omega), if_neg (show ¬ 1600 + t < 1600 by omega), if_pos (show 1600 + t < 2000 by omega), show 1600 + t - 1600 = t by omega]
theorem loc_M (h : t < 40) (hj : j < 6) : loc (2100 + t) j = (20, 6 * t + j) := by
  unfold loc
  rw [if_neg (show ¬ 2100 + t < 22 by omega), if_neg (show ¬ 2100 + t < 100 by omega), if_neg (show ¬ 2100 + t < 300 by omega), if_neg (show ¬ 2100 + t < 600 by omega), if_neg (show ¬ 2100 + t < 1000 by omega), if_neg (show ¬ 2100 + t < 1200 by omega), if_neg (show ¬ 2100 + t < 1400 by omega), if_neg (show ¬ 2100 + t < 1600 by omega), if_neg (show ¬ 2100 + t < 2000 by omega), if_neg (show ¬ 2100 + t < 2100 by omega), if_pos (show 2100 + t < 2200 by omega), if_pos hj, show 2100 + t - 2100 = t by omega]
theorem cW_M (h : t < 40) (hj : j < 6) : cW G (2100 + t) j v = .int v := by
  unfold cW
  rw [if_neg (show ¬ 2100 + t < 22 by omega), if_neg (show ¬ 2100 + t < 100 by omega), if_neg (show ¬ 2100 + t < 300 by omega), if_neg (show ¬ 2100 + t < 600 by omega), if_neg (show ¬ 2100 + t < 1000 by omega), if_neg (show ¬ 2100 + t < 1600 by omega), if_neg (show ¬ 2100 + t < 2000 by omega), if_neg (show ¬ 2100 + t < 2100 by omega), if_pos (show 2100 + t < 2200 by omega), if_pos hj]
theorem k_M (hG : OKG G) (h : t < G.A) (hj : j < 6) : cM G C m0 (aM G t) j = .int (C 20 (6 * t + j)) := by
  have b : t < 40 := by have := hG.2.2.1; omega
  rw [aM_e b, rdg hG (lvM h), cW_M b hj, loc_M b hj]
theorem k_Mw (hG : OKG G) (h : t < G.A) (hj : j < 6) : mup (cM G C m0) (aM G t) j (.int v) = cM G (sup C 20 (6 * t + j) v) m0 := by
  have b : t < 40 := by have := hG.2.2.1; omega
  rw [aM_e b]
  have q := wrg (C := C) (m0 := m0) (j := j) (v := v) hG (lvM h) (by rw [loc_M b hj]; exact (by decide : (20 : Nat) ≠ 99)) (cW_M b hj).symm
  rw [loc_M b hj] at q
  exact q
theorem k_sM (hG : OKG G) (h : t < G.A) : cS G s0 (aM G t) = (20, 6) := by
  have b : t < 40 := by have := hG.2.2.1; omega
  rw [aM_e b, shg hG (lvM h)]
  unfold cT
  rw [if_neg (show ¬ 2100 + t < 22 by omega), if_neg (show ¬ 2100 + t < 100 by omega), if_neg (show ¬ 2100 + t < 300 by omega), if_neg (show ¬ 2100 + t < 600 by omega), if_neg (show ¬ 2100 + t < 1000 by omega), if_neg (show ¬ 2100 + t < 1600 by omega), if_neg (show ¬ 2100 + t < 2000 by omega), if_neg (show ¬ 2100 + t < 2100 by omega), if_pos (show 2100 + t < 2200 by omega)]
theorem loc_S (h : t < 212) (hj : j < 40) : loc (600 + t) j = (7, 40 * t + j) := by
  unfold loc
  rw [if_neg (show ¬ 600 + t < 22 by omega), if_neg (show ¬ 600 + t < 100 by omega), if_neg (show ¬ 600 + t < 300 by omega), if_neg (show ¬ 600 + t < 600 by omega), if_pos (show 600 + t < 1000 by omega), if_pos hj, show 600 + t - 600 = t by omega]
theorem cW_S (h : t < 212) (hj : j < G.sl t) : cW G (600 + t) j v = rfT G v := by
  unfold cW
  rw [if_neg (show ¬ 600 + t < 22 by omega), if_neg (show ¬ 600 + t < 100 by omega), if_neg (show ¬ 600 + t < 300 by omega), if_neg (show ¬ 600 + t < 600 by omega), if_pos (show 600 + t < 1000 by omega), show 600 + t - 600 = t by omega, if_pos hj]
theorem k_S (hG : OKG G) (h : lvR G r) (hs : j < G.sl r) : cM G C m0 (aS G r) j = rfT G (C 7 (40 * r + j)) := by
  have b := lr_212 hG h
  have hj : j < 40 := by have := hG.2.2.2.2.1 r h; omega
  rw [aS_e b, rdg hG (lvS hG h), cW_S b hs, loc_S b hj]
theorem k_Sw (hG : OKG G) (h : lvR G r) (hs : j < G.sl r) (ha : i < 2147483648) : mup (cM G C m0) (aS G r) j (.ref (aT G i)) = cM G (sup C 7 (40 * r + j) (nI i)) m0 := by
  have b := lr_212 hG h
  have hj : j < 40 := by have := hG.2.2.2.2.1 r h; omega
  rw [aS_e b]
  have q := wrg (C := C) (m0 := m0) (j := j) (v := nI i) hG (lvS hG h) (by rw [loc_S b hj]; exact (by decide : (7 : Nat) ≠ 99)) (cW_S b hs).symm
  rw [loc_S b hj, rfT_r ha] at q
  exact q
theorem k_Swn (hG : OKG G) (h : lvR G r) (hs : j < G.sl r) : mup (cM G C m0) (aS G r) j .null = cM G (sup C 7 (40 * r + j) (-1)) m0 := by
  have b := lr_212 hG h
  have hj : j < 40 := by have := hG.2.2.2.2.1 r h; omega
  rw [aS_e b]
  have q := wrg (C := C) (m0 := m0) (j := j) (v := -1) hG (lvS hG h) (by rw [loc_S b hj]; exact (by decide : (7 : Nat) ≠ 99)) (cW_S b hs).symm
  rw [loc_S b hj, rfT_n m1_0] at q
  exact q
theorem k_sS (hG : OKG G) (h : lvR G r) : cS G s0 (aS G r) = (21, G.sl r) := by
  have b := lr_212 hG h
  rw [aS_e b, shg hG (lvS hG h)]
  unfold cT
  rw [if_neg (show ¬ 600 + r < 22 by omega), if_neg (show ¬ 600 + r < 100 by omega), if_neg (show ¬ 600 + r < 300 by omega), if_neg (show ¬ 600 + r < 600 by omega), if_pos (show 600 + r < 1000 by omega), show 600 + r - 600 = r by omega]
theorem loc_T (h : t < 200) : loc (100 + t) j = (lcT j, t) := by
  unfold loc
  rw [if_neg (show ¬ 100 + t < 22 by omega), if_neg (show ¬ 100 + t < 100 by omega), if_pos (show 100 + t < 300 by omega), show 100 + t - 100 = t by omega]
theorem cW_T (h : t < 200) : cW G (100 + t) j v = thW G t j v := by
  unfold cW
  rw [if_neg (show ¬ 100 + t < 22 by omega), if_neg (show ¬ 100 + t < 100 by omega), if_pos (show 100 + t < 300 by omega), show 100 + t - 100 = t by omega]
theorem rdT (hG : OKG G) (h : t < G.T) : cM G C m0 (aT G t) j = thW G t j (C (lcT j) t) := by
  have b : t < 200 := by have := hG.2.2.1; omega
  rw [aT_e b, rdg hG (lvT h), cW_T b, loc_T b]
theorem wrT (hG : OKG G) (h : t < G.T) (hf : lcT j ≠ 99) {y : Value} (hy : y = thW G t j v) : mup (cM G C m0) (aT G t) j y = cM G (sup C (lcT j) t v) m0 := by
  have b : t < 200 := by have := hG.2.2.1; omega
  rw [aT_e b]
  have q := wrg (C := C) (m0 := m0) (j := j) (v := v) (y := y) hG (lvT h) (by rw [loc_T b]; exact hf) (by rw [cW_T b]; exact hy)
  rw [loc_T b] at q
  exact q
theorem k_T_0 (hG : OKG G) (h : t < G.T) : cM G C m0 (aT G t) 0 = .int (nI t) := rdT hG h
theorem k_T_1 (hG : OKG G) (h : t < G.T) : cM G C m0 (aT G t) 1 = .int (C 2 t) := rdT hG h
theorem k_T_2 (hG : OKG G) (h : t < G.T) : cM G C m0 (aT G t) 2 = .int (C 3 t) := rdT hG h
theorem k_T_3 (hG : OKG G) (h : t < G.T) : cM G C m0 (aT G t) 3 = rfH G (C 4 t) := rdT hG h
theorem k_T_4 (hG : OKG G) (h : t < G.T) : cM G C m0 (aT G t) 4 = .int (C 5 t) := rdT hG h
theorem k_T_5 (hG : OKG G) (h : t < G.T) : cM G C m0 (aT G t) 5 = if G.kd t = 4 ∨ G.kd t = 5 then .ref (aH G t) else .null := rdT hG h
theorem k_T_6 (hG : OKG G) (h : t < G.T) (k : G.kd t ≤ 3) : cM G C m0 (aT G t) 6 = .ref (aZ G t) := (rdT hG h).trans (if_pos k)
theorem k_T_7 (hG : OKG G) (h : t < G.T) (k : G.kd t ≤ 3) : cM G C m0 (aT G t) 7 = .ref (aI G t) := (rdT hG h).trans (if_pos k)
theorem k_T_8 (hG : OKG G) (h : t < G.T) (k : G.kd t ≤ 3) : cM G C m0 (aT G t) 8 = .ref (aO G t) := (rdT hG h).trans (if_pos k)
theorem k_T_6v (hG : OKG G) (h : t < G.T) (k : 6 ≤ G.kd t) : cM G C m0 (aT G t) 6 = .ref (aV G t) := (rdT hG h).trans ((if_neg (by omega)).trans (if_pos k))
theorem k_T_2w (hG : OKG G) (h : t < G.T) : mup (cM G C m0) (aT G t) 2 (.int v) = cM G (sup C 3 t v) m0 := wrT hG h (by decide) rfl
theorem k_T_4w (hG : OKG G) (h : t < G.T) : mup (cM G C m0) (aT G t) 4 (.int v) = cM G (sup C 5 t v) m0 := wrT hG h (by decide) rfl
theorem k_T_3w (hG : OKG G) (h : t < G.T) (hr : r < 212) : mup (cM G C m0) (aT G t) 3 (.ref (aH G r)) = cM G (sup C 4 t (hN r)) m0 := wrT hG h (by decide) (rfH_r hr).symm
theorem k_T_3wn (hG : OKG G) (h : t < G.T) : mup (cM G C m0) (aT G t) 3 .null = cM G (sup C 4 t (-1)) m0 := wrT hG h (by decide) (rfH_n m1_0).symm
theorem k_sT (hG : OKG G) (h : t < G.T) : cS G s0 (aT G t) = (tgT (G.kd t), nfT (G.kd t)) := by
  have b : t < 200 := by have := hG.2.2.1; omega
  rw [aT_e b, shg hG (lvT h)]
  unfold cT
  rw [if_neg (show ¬ 100 + t < 22 by omega), if_neg (show ¬ 100 + t < 100 by omega), if_pos (show 100 + t < 300 by omega), show 100 + t - 100 = t by omega]
theorem cW_H (h : t < 212) : cW G (300 + t) j v = hoW G t j := by
  unfold cW
  rw [if_neg (show ¬ 300 + t < 22 by omega), if_neg (show ¬ 300 + t < 100 by omega), if_neg (show ¬ 300 + t < 300 by omega), if_pos (show 300 + t < 600 by omega), show 300 + t - 300 = t by omega]
theorem rdH (hG : OKG G) (h : lvR G r) : cM G C m0 (aH G r) j = hoW G r j := by
  rw [aH_e (lr_212 hG h), rdg hG (lvH hG h), cW_H (lr_212 hG h)]
theorem k_H_0 (hG : OKG G) (h : lvR G r) : cM G C m0 (aH G r) 0 = .int (hN r) := rdH hG h
theorem k_H_1 (hG : OKG G) (h : lvR G r) : cM G C m0 (aH G r) 1 = if r < 200 then .ref (aT G r) else .null := rdH hG h
theorem k_H_2 (hG : OKG G) (h : lvR G r) : cM G C m0 (aH G r) 2 = .ref (aS G r) := rdH hG h
theorem k_sH (hG : OKG G) (h : lvR G r) : cS G s0 (aH G r) = (3, 3) := by
  have b := lr_212 hG h
  rw [aH_e b, shg hG (lvH hG h)]
  unfold cT
  rw [if_neg (show ¬ 300 + r < 22 by omega), if_neg (show ¬ 300 + r < 100 by omega), if_neg (show ¬ 300 + r < 300 by omega), if_pos (show 300 + r < 600 by omega)]
theorem k_A_0 (hG : OKG G) (h : t < G.A) : cM G C m0 (aA G t) 0 = .ref (aM G t) := by
  have b : t < 40 := by have := hG.2.2.1; omega
  rw [aA_e b, rdg hG (lvA h)]
  unfold cW
  rw [if_neg (show ¬ 2000 + t < 22 by omega), if_neg (show ¬ 2000 + t < 100 by omega), if_neg (show ¬ 2000 + t < 300 by omega), if_neg (show ¬ 2000 + t < 600 by omega), if_neg (show ¬ 2000 + t < 1000 by omega), if_neg (show ¬ 2000 + t < 1600 by omega), if_neg (show ¬ 2000 + t < 2000 by omega), if_pos (show 2000 + t < 2100 by omega), if_pos rfl, show 2000 + t - 2000 = t by omega]
theorem k_sA (hG : OKG G) (h : t < G.A) : cS G s0 (aA G t) = (0, 1) := by
  have b : t < 40 := by have := hG.2.2.1; omega
  rw [aA_e b, shg hG (lvA h)]
  unfold cT
  rw [if_neg (show ¬ 2000 + t < 22 by omega), if_neg (show ¬ 2000 + t < 100 by omega), if_neg (show ¬ 2000 + t < 300 by omega), if_neg (show ¬ 2000 + t < 600 by omega), if_neg (show ¬ 2000 + t < 1000 by omega), if_neg (show ¬ 2000 + t < 1600 by omega), if_neg (show ¬ 2000 + t < 2000 by omega), if_pos (show 2000 + t < 2100 by omega)]
theorem cW_J (h : t < 300) : cW G (2200 + t) j v = hiW G t j v := by
  unfold cW
  rw [if_neg (show ¬ 2200 + t < 22 by omega), if_neg (show ¬ 2200 + t < 100 by omega), if_neg (show ¬ 2200 + t < 300 by omega), if_neg (show ¬ 2200 + t < 600 by omega), if_neg (show ¬ 2200 + t < 1000 by omega), if_neg (show ¬ 2200 + t < 1600 by omega), if_neg (show ¬ 2200 + t < 2000 by omega), if_neg (show ¬ 2200 + t < 2100 by omega), if_neg (show ¬ 2200 + t < 2200 by omega), if_pos (show 2200 + t < 3000 by omega), show 2200 + t - 2200 = t by omega]
theorem k_J_0 (hG : OKG G) (h : t < G.H) : cM G C m0 (aJ G t) 0 = .ref (aT G (G.ht t)) := by
  have b : t < 300 := by have := hG.2.2.1; omega
  rw [aJ_e b, rdg hG (lvJ h), cW_J b]
  rfl
theorem k_J_1 (hG : OKG G) (h : t < G.H) : cM G C m0 (aJ G t) 1 = .int (G.hd t) := by
  have b : t < 300 := by have := hG.2.2.1; omega
  rw [aJ_e b, rdg hG (lvJ h), cW_J b]
  rfl
theorem loc_J (h : t < 300) : loc (2200 + t) 2 = (38, t) := by
  unfold loc
  rw [if_neg (show ¬ 2200 + t < 22 by omega), if_neg (show ¬ 2200 + t < 100 by omega), if_neg (show ¬ 2200 + t < 300 by omega), if_neg (show ¬ 2200 + t < 600 by omega), if_neg (show ¬ 2200 + t < 1000 by omega), if_neg (show ¬ 2200 + t < 1200 by omega), if_neg (show ¬ 2200 + t < 1400 by omega), if_neg (show ¬ 2200 + t < 1600 by omega), if_neg (show ¬ 2200 + t < 2000 by omega), if_neg (show ¬ 2200 + t < 2100 by omega), if_neg (show ¬ 2200 + t < 2200 by omega), if_pos (show 2200 + t < 3000 by omega), if_pos rfl, show 2200 + t - 2200 = t by omega]
theorem k_J_2 (hG : OKG G) (h : t < G.H) : cM G C m0 (aJ G t) 2 = .int (C 38 t) := by
  have b : t < 300 := by have := hG.2.2.1; omega
  rw [aJ_e b, rdg hG (lvJ h), cW_J b, loc_J b]
  rfl
theorem k_J_2w (hG : OKG G) (h : t < G.H) : mup (cM G C m0) (aJ G t) 2 (.int v) = cM G (sup C 38 t v) m0 := by
  have b : t < 300 := by have := hG.2.2.1; omega
  rw [aJ_e b]
  have q := wrg (C := C) (m0 := m0) (j := 2) (v := v) (y := .int v) hG (lvJ h) (by rw [loc_J b]; exact (by decide : (38 : Nat) ≠ 99)) (by rw [cW_J b]; rfl)
  rw [loc_J b] at q
  exact q
theorem k_sJ (hG : OKG G) (h : t < G.H) : cS G s0 (aJ G t) = (2, 3) := by
  have b : t < 300 := by have := hG.2.2.1; omega
  rw [aJ_e b, shg hG (lvJ h)]
  unfold cT
  rw [if_neg (show ¬ 2200 + t < 22 by omega), if_neg (show ¬ 2200 + t < 100 by omega), if_neg (show ¬ 2200 + t < 300 by omega), if_neg (show ¬ 2200 + t < 600 by omega), if_neg (show ¬ 2200 + t < 1000 by omega), if_neg (show ¬ 2200 + t < 1600 by omega), if_neg (show ¬ 2200 + t < 2000 by omega), if_neg (show ¬ 2200 + t < 2100 by omega), if_neg (show ¬ 2200 + t < 2200 by omega), if_pos (show 2200 + t < 3000 by omega)]
theorem k_C (hG : OKG G) (h : t < G.N) : cM G C m0 (aC G t) j = G.cv t j := by
  rw [aC_e (by have := hG.2.2.1; omega), rdg hG (lvC h)]
  unfold cW
  rw [if_neg (show ¬ 3000 + t < 22 by omega), if_neg (show ¬ 3000 + t < 100 by omega), if_neg (show ¬ 3000 + t < 300 by omega), if_neg (show ¬ 3000 + t < 600 by omega), if_neg (show ¬ 3000 + t < 1000 by omega), if_neg (show ¬ 3000 + t < 1600 by omega), if_neg (show ¬ 3000 + t < 2000 by omega), if_neg (show ¬ 3000 + t < 2100 by omega), if_neg (show ¬ 3000 + t < 2200 by omega), if_neg (show ¬ 3000 + t < 3000 by omega), show 3000 + t - 3000 = t by omega]
theorem k_sC (hG : OKG G) (h : t < G.N) : cS G s0 (aC G t) = (G.ck t, nfC (G.ck t)) := by
  rw [aC_e (by have := hG.2.2.1; omega), shg hG (lvC h)]
  unfold cT
  rw [if_neg (show ¬ 3000 + t < 22 by omega), if_neg (show ¬ 3000 + t < 100 by omega), if_neg (show ¬ 3000 + t < 300 by omega), if_neg (show ¬ 3000 + t < 600 by omega), if_neg (show ¬ 3000 + t < 1000 by omega), if_neg (show ¬ 3000 + t < 1600 by omega), if_neg (show ¬ 3000 + t < 2000 by omega), if_neg (show ¬ 3000 + t < 2100 by omega), if_neg (show ¬ 3000 + t < 2200 by omega), if_neg (show ¬ 3000 + t < 3000 by omega), show 3000 + t - 3000 = t by omega]
end CLS
