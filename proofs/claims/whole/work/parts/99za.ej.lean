/-! ===== the law from its entry ===== -/
section EN
variable {d b L : Nat} {xs : Nat → Int32} {o p : Nat} {m : Mm} {s : Nat → Nat × Nat}
theorem dfv11 : ∀ j, aF j = 0 → dfv (pty 11 j) = .int 0 := by
  intro j h
  by_cases hj : j < 42
  · have all : ∀ j, j < 42 → aF j = 0 → (match pty 11 j with | .int => true | _ => false) = true := by decide +kernel
    have := all j hj h
    cases hp : pty 11 j <;> rw [hp] at this <;> first | rfl | cases this
  · have e : pty 11 j = .int := by
      match j, hj with
      | j + 42, _ => rfl
    rw [e]
    rfl
theorem aF_27 : ∀ j, aF j ≤ 27 := by
  intro j
  by_cases hj : j < 42
  · have all : ∀ j, j < 42 → aF j ≤ 27 := by decide +kernel
    exact all j hj
  · rw [aF_big hj]; omega
theorem aF_16 : ∀ j, aF j ≠ 0 → (j = 16 ↔ aF j = 12) := by
  intro j h
  by_cases hj : j < 42
  · have all : ∀ j, j < 42 → aF j ≠ 0 → (j = 16 ↔ aF j = 12) := by decide +kernel
    exact all j hj h
  · exact absurd (aF_big hj) h
theorem pm_mM : pmM o m 27 = mM o (o + 12) S0 (pmM o m 27) := by
  funext a j
  unfold mM
  by_cases h1 : a = o
  · subst h1
    rw [if_pos rfl]
    unfold pmM mF
    rw [if_pos rfl]
    by_cases h2 : aF j = 0
    · rw [if_pos h2, if_neg (fun y => y.1 h2), dfv11 j h2]; rfl
    · rw [if_neg h2, if_pos ⟨h2, aF_27 j⟩]
      by_cases h3 : j = 16
      · rw [if_pos h3, (aF_16 j h2).mp h3]
      · rw [if_neg h3]
  · rw [if_neg h1]
    by_cases h2 : a = o + 12
    · rw [if_pos h2]
      unfold pmM
      rw [if_neg h1, if_pos (by omega)]; rfl
    · rw [if_neg h2]
      by_cases h3 : o < a ∧ a ≤ o + 27 ∧ a ≠ o + 12
      · rw [if_pos h3]
        unfold pmM
        rw [if_neg h1, if_pos (by omega)]; rfl
      · rw [if_neg h3]
theorem ps_sM : psS o s 27 = sM o (o + 12) 60 (psS o s 27) := by
  funext a
  unfold sM
  by_cases h1 : a = o
  · subst h1
    rw [if_pos rfl]
    exact psS_o
  · rw [if_neg h1]
    by_cases h2 : a = o + 12
    · rw [if_pos h2]
      unfold psS
      rw [if_neg h1, if_pos (by omega), h2, Nat.add_sub_cancel_left]; rfl
    · rw [if_neg h2]
      by_cases h3 : o < a ∧ a ≤ o + 27 ∧ a ≠ o + 12
      · rw [if_pos h3]
        unfold psS
        rw [if_neg h1, if_pos (by omega)]
      · rw [if_neg h3]
theorem pm_off {a : Nat} (h : a < o ∨ o + 27 < a) : pmM o m 27 a = m a := by
  funext j
  unfold pmM
  rw [if_neg (by omega), if_neg (by omega)]
theorem ps_off {a : Nat} (h : a < o ∨ o + 27 < a) : psS o s 27 a = s a := by
  unfold psS
  rw [if_neg (by omega), if_neg (by omega)]
theorem HH_start {bs k : Nat} (hb : b < bs) : HH b (bs + 42) L xs (G0 bs) C0 S0 (bs + 42 + 12) 60 0 (pmM (bs + 42) (cM1 bs (hp0 b L xs bs).1) 27, psS (bs + 42) (cS1 bs (hp0 b L xs bs).2.1) 27, bs + 42 + 28, k) := by
  have gw : ∀ a, (G0 bs).W a ≠ 0 → bs ≤ a ∧ a < bs + 42 := fun a ha => by
    rw [G0_W] at ha
    by_cases e : bs ≤ a ∧ a < bs + 42
    · exact e
    · rw [if_neg e] at ha; exact absurd rfl ha
  have ok := G0_ok (o := bs)
  refine ⟨?_, ?_, pm_mM, ps_sM, fun j => ?_, ?_, ?_, ?_, by omega, by omega, ⟨Or.inl rfl, ?_, ?_, show 6 * 0 ≤ 60 by decide, show 60 ≤ 60 by decide, show 60 ≤ 8000 by decide, by decide⟩, fun a ha => ?_⟩
  · refine cM_sf (M0 := cM1 bs (hp0 b L xs bs).1) (fun a ha => ?_) (fun a ha j => ?_)
    · have := gw a ha
      exact pm_off (by omega)
    · obtain ⟨e1, e2⟩ := ok.1 a ha
      have := cell0 (o := bs) (m := (hp0 b L xs bs).1) e2 j
      rw [e1] at this
      exact this
  · refine cS_sf (s' := cS1 bs (hp0 b L xs bs).2.1) (fun a ha => ?_) (fun a ha => ?_)
    · have := gw a ha
      exact ps_off (by omega)
    · obtain ⟨e1, e2⟩ := ok.1 a ha
      have := shp0 (o := bs) (s := (hp0 b L xs bs).2.1) e2
      rw [e1] at this
      exact this
  · show pmM (bs + 42) (cM1 bs (hp0 b L xs bs).1) 27 b j = _
    rw [pm_off (by omega), cM1_b (Or.inl hb)]
    show (if b = b then Value.int (xs j) else .null) = _
    rw [if_pos rfl]
  · show psS (bs + 42) (cS1 bs (hp0 b L xs bs).2.1) 27 b = _
    rw [ps_off (by omega), cS1_b (Or.inl hb)]
    show (if b = b then (30, L) else (99, 0)) = _
    rw [if_pos rfl]
  · show b < bs + 42 + 28
    omega
  · rw [G0_W, if_neg (by omega)]
  · show bs + 42 + 12 < bs + 42 + 28
    omega
  · show bs + 42 + 27 < bs + 42 + 28
    omega
  · have := gw a ha
    omega
theorem law_runs {bs : Nat} (hb : b < bs) (gL : L ≤ 2560) : ∃ hE : Hp, ex (d + 14) 209 0 [some (.ref b), none, none, none] [] (hp0 b L xs bs) = some (some (.int 1), hE) ∧ hE.2.2.1 ≤ bs + 600000 ∧ hE.2.2.2 ≤ 7302250 := by
  have X := c43 (d := d + 12) (o := bs) (m := (hp0 b L xs bs).1) (s := (hp0 b L xs bs).2.1) (k := (hp0 b L xs bs).2.2.2 + 17)
  rw [show d + 12 + 1 = d + 13 from rfl] at X
  obtain ⟨k1, e1⟩ : ∃ k1, k1 = (hp0 b L xs bs).2.2.2 + 17 + 200 + 12 + 40 + 300 + 512 + 18 + 7 + 7 + 10 + 8 + 8 + 7 + 7 * 8 + 7 + 7 * 8 + 7 + 7 + 7 * 7 + 7 + 7 + 8 + 7 + 7 := ⟨_, rfl⟩
  rw [← e1] at X
  have Y := c133 (d := d + 13) (o := bs + 42) (m := cM1 bs (hp0 b L xs bs).1) (s := cS1 bs (hp0 b L xs bs).2.1) (k := k1 + 42)
  obtain ⟨k2, e2⟩ : ∃ k2, k2 = k1 + 42 + 200 + 200 + 200 + 200 + 212 + 8480 + 1200 + 1200 + 1200 + 8000 + 200 + 60 + 240 + 7 + 7 + 10 + 8 + 56 + 7 + 7 + 8 + 7 + 300 + 300 + 300 + 201 + 201 := ⟨_, rfl⟩
  rw [← e2, show bs + 42 + (26 + 1 + 1) = bs + 42 + 28 from rfl] at Y
  obtain ⟨hE, z1, z2, z3⟩ := loop (d := d) (b := b) (o := bs + 42) (L := L) (xs := xs) (L / 5) 0 0 (G0 bs) C0 S0 (bs + 42 + 12) 60 0 (pmM (bs + 42) (cM1 bs (hp0 b L xs bs).1) 27, psS (bs + 42) (cS1 bs (hp0 b L xs bs).2.1) 27, bs + 42 + 28, k2) gL rfl (by omega) (HH_start hb) (IV_n IV_start (show bs + 42 ≤ bs + 42 + 28 by omega))
  have a0 : (G0 bs).ad 1 = bs := rfl
  rw [a0] at z1
  have hk0 : (hp0 b L xs bs).2.2.2 = 0 := rfl
  have hn0 : (hp0 b L xs bs).2.2.1 = bs := rfl
  refine ⟨hE, ?_, ?_, ?_⟩
  · rw [← z1]
    conv => lhs; simp only [x209_0, x209_3, x209_3i, x209_4, bnd_some, Option.toList_some, Option.toList_none, List.cons_append, List.nil_append, List.singleton_append, clr_i, clr_r, clr_n, clr_0, clr_q, clr_l, isR_r, isR_n, isR_q, cat1_i, cat1_r, b0, b1, if_true, if_false, not_true, not_false_eq_true, reduceCtorEq, ite_self, and_true, true_and, and_false, false_and, or_true, true_or, or_false, false_or, hn0, st_0, ss0, X]
    conv => lhs; simp only [x209_7, x209_7n, x209_7q, x209_8, x209_11, x209_11i, x209_12, bnd_some, Option.toList_some, Option.toList_none, List.cons_append, List.nil_append, List.singleton_append, clr_i, clr_r, clr_n, clr_0, clr_q, clr_l, isR_r, isR_n, isR_q, cat1_i, cat1_r, b0, b1, if_true, if_false, not_true, not_false_eq_true, reduceCtorEq, ite_self, and_true, true_and, and_false, false_and, or_true, true_or, or_false, false_or, Y]
    conv => lhs; simp only [x209_15, x209_15n, x209_15q, x209_16, x209_17, bnd_some, Option.toList_some, Option.toList_none, List.cons_append, List.nil_append, List.singleton_append, clr_i, clr_r, clr_n, clr_0, clr_q, clr_l, isR_r, isR_n, isR_q, cat1_i, cat1_r, b0, b1, if_true, if_false, not_true, not_false_eq_true, reduceCtorEq, ite_self, and_true, true_and, and_false, false_and, or_true, true_or, or_false, false_or]
  · have z2' : hE.2.2.1 ≤ bs + 42 + 28 + 5 * (L / 5) := z2
    omega
  · have z3' : hE.2.2.2 + 2 * 60 ≤ k2 + 60 * (L / 5) + 16000 := z3
    rw [hk0] at e1
    omega
end EN
theorem whole_start {p : Program} {e : Env} {s : State} {m : MethodId} {below : List Frame} {meth : Method} {c : Code} (l : Launch) {b L : Nat} {xs : Nat → Int32} (hL : L ≤ 2560) (C0 : lw_At p s m meth c b L xs) : W p l e room_1 s m #[Value.ref b] below meth c s.heap [] 0 0 (lw_Z below #[Value.ref b] s) (entryFrame m ([Value.ref b] : List Value).toArray 4) := by
  obtain ⟨hE, h1, h2, h3⟩ := law_runs (d := 0) (b := b) (L := L) (xs := xs) (bs := s.heap.size) C0.2.2.2.2.2.2.2.1 hL
  exact start_of l C0 (d := 0 + 14) (by omega) h1 h2 h3
set_option maxHeartbeats 4000000 in
theorem lw_walk (l : Launch) (b : Addr) (xs : List Int32) : MetFree l x (headSpec (Jvm.Cond.code x code maxLocals ret :: tables_1) room_1) (lw_P b xs) (fun _ _ _ _ _ => True) lw_Q := by
  refine MetFree.of_bodyS (code := code) (maxLocals := maxLocals) (ret := ret) (by decide) ?_ ?_
  · intro args s m h hn
    obtain ⟨meth, c, h1, h2, h3, h4, h5, h6, -, -⟩ := Cond.code_spec hn (atoms_spec (ws := Jvm.Cond.code x code maxLocals ret :: tables_1) h _ List.mem_cons_self)
    exact ⟨meth, c, h1, h2, h3, h4, h5, h6⟩
  · intro p e s m args below meth c s₁ B hml0 hP _
    obtain ⟨rfl, hx, hbd, hgv⟩ := hP
    obtain ⟨scr, harrAt, hlist, hof, hsmall⟩ := hx
    obtain ⟨hcb, hkn, -, -⟩ := State.arrayAt?_spec harrAt
    have hown : s.vm.findClass R_law = some m.cls := findClass_of_methodNamed B.named
    have hts0 : ∀ c ∈ (Jvm.Cond.code x code maxLocals ret :: tables_1), c.before #[Value.ref b] s = true := atoms_spec (ws := Jvm.Cond.code x code maxLocals ret :: tables_1) B.pre
    have hts : ∀ w ∈ lw_tbl, w.before #[Value.ref b] s = true := k2_hts_sels lw_privs (fun w hw => hts0 w (List.mem_cons_of_mem _ hw)) lw_privs_ok
    have hml : c.maxLocals = 4 := B.maxLocals_eq (hts0 _ List.mem_cons_self)
    have X₀ : Stand p l e room_1 s m #[Value.ref b] below meth c s₁ [] 0 0 := Stand.of_body B
    have hh0 : s₁.heap = s.heap := by rw [B.state]; rfl
    have hsz : scr.slots.size = xs.length := by rw [← Array.length_toList, hlist, List.length_map]
    have hval : ∀ j : Nat, j < xs.length → scr.slots[j]? = some (.int (xs.getD j 0)) := fun j hj => by
      rw [← Array.getElem?_toList, hlist]
      simp [hj]
    have hbl : b < s.heap.size := (Array.getElem?_eq_some_iff.mp hcb).1
    have hX : va_X b xs.length (fun j => xs.getD j 0) s s.heap := ⟨scr, hcb, hof, hkn, hsz, hval⟩
    have K : W p l e room_1 s m #[Value.ref b] below meth c s₁.heap [] 0 0 (lw_Z below #[Value.ref b] s) (entryFrame m ([Value.ref b] : List Value).toArray 4) := by
      rw [hh0]
      exact whole_start l hbd ⟨B.exec, B.bytes, B.returns, hml, hown, hts, hX, hbl, B.notSynchronized, hgv⟩
    obtain ⟨t, a1, o, b1, b2, b3⟩ := K s₁ rfl X₀
    exact ⟨t, o, a1, b1, b2, b3⟩
theorem lw_pre_spec {args : Array Value} {s : State} (h : (Jvm.Cond.and given_1 narrow_1).before args s = true) (hr : rest_1_c.before args s = true) : ∃ (b : Addr) (xs : List Int32), lw_P b xs args s := by
  have hs := flat_of_before _ h
  have hq := flat_of_before _ hr
  have hc : (Cond.count 1).before args s = true := hs _ (by decide +kernel)
  have harr : (Cond.arrayOf (.arg 0) .int).before args s = true := hs _ (by decide +kernel)
  have hle : (Cond.le (.length (.arg 0)) (.int 2560)).before args s = true := hs _ (by decide +kernel)
  have hlen : (Cond.isInt (.length (.arg 0))).before args s = true := hq _ (by decide +kernel)
  have hall : (Cond.all (.arg 0) (.isInt (.elem (.arg 0) (.index 0)))).before args s = true := hq _ (by decide +kernel)
  obtain ⟨b, xs, hb, hx⟩ := State.ints_of_pre rfl harr hlen hall
  have hsm : xs.length < 2 ^ 31 := hx.choose_spec.2.2.2
  have hev : (Term.length (.arg 0)).eval args s none [] s = some (.int xs.length.toInt32) := hx.length_eval hb
  have hv := Cond.le_ints hev (show (Term.int 2560).eval args s none [] s = some (.int 2560) from rfl)
  have hd : xs.length.toInt32 ≤ 2560 := by
    simpa [Cond.before, Cond.holds, hv] using hle
  have hN : xs.length ≤ 2560 := (Int32.ofNat_le_ofNat hsm (by decide)).mp (show Int32.ofNat xs.length ≤ Int32.ofNat 2560 from hd)
  exact ⟨b, xs, Cond.one_arg hc (show args[0]? = some (.ref b) from hb), hx, hN, h⟩
theorem lw_comes (l : Launch) : Comes l x (Jvm.Cond.code x code maxLocals ret :: tables_1) room_1 (fun tb e args s => Calls_1 tb e args s ∧ rest_1 tb e args s ∧ Pre_1 tb e args s)
    (fun _ _ args s o t => lw_Q args s o t) := by
  intro p e ha hc hk s m args below hf hfit hheap happ hpre
  obtain ⟨b, xs, hP⟩ := lw_pre_spec hpre.2.2 hpre.2.1
  obtain ⟨k, o, h1, h2, h3, hQ⟩ := lw_walk l b xs p e ha hc hk s m args below hf ((Spec.applies_iff_loose hf).mp happ).1 hP trivial
  exact ⟨k, o, h1, h2, h3, hQ⟩
theorem lw_frame {s t : State} {o : Outcome} {args : Array Value} (h : Framed s o t [] 600000 7302250) :
    Framed s o t (fieldLocs frame_1_writes args s ++ arrayLocs frame_1_arrays args s ++ staticLocs frame_1_statics s) 600000 7302250 := h
theorem lw_limb (L : Cond) (hL : ∀ (args : Array Value) (s t : State), L.after args s (.returned (some (.int 1))) t = true) :
    ArmFor flags0 classFile x code maxLocals ret World_1 tables_1 room_1 Calls_1 rest_1 Pre_1
      (fun tb e a s o t => postC L tb e a s o t ∧ Framed s o t (fieldLocs frame_1_writes a s ++ arrayLocs frame_1_arrays a s ++ staticLocs frame_1_statics s) 600000 7302250) := by
  intro l _ _ _ p e ha hc hk s m args below hf hfit hheap happ hpre
  obtain ⟨k, o, h1, h2, h3, rfl, hF⟩ := lw_comes l p e ha hc hk s m args below hf hfit hheap happ hpre
  exact ⟨k, _, h1, h2, h3, hL args s _, lw_frame hF⟩
theorem i_vc : Claimed_1_1 ∧ Claimed_1_2 := ⟨lw_limb limb_1_1 (fun args s t => by simp [limb_1_1, Cond.after, Cond.holds, Cond.value]), lw_limb limb_1_2 (fun args s t => Cond.after_iff.mpr (by
  first | (rw [show limb_1_2 = Cond.eq .result (.int 1) from rfl, Cond.eq_ints (x := 1) (y := 1) rfl rfl]; simp; done) | (simp [limb_1_2, Cond.value, Term.eval]; done)))⟩
