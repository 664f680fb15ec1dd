/-- a line: the object, jobs, alone; how many stand in it, how many hold -/
def rLine (σ : gS) (q j o s h : Nat) (lj : Nat → Nat) (la : Nat → Bool) : Prop := σ q = some (g_ob 4 [.ref j, .ref o, .int (nI s), .int (nI h)]) ∧ σ j = some (g_ia 0 20 (fun i => nI (lj i))) ∧ σ o = some (g_ia 1 20 (fun i => b2i (la i)))
def bLine (s h : Nat) (lj : Nat → Nat) : Prop := s ≤ 20 ∧ h ≤ s ∧ ∀ i, i < s → lj i ≤ 20
def sp_L_init : gSpec := fun av σ P => ∃ (e : Nat), av = [.ref e] ∧ σ e = some (g_ob 4 [.null, .null, .int 0, .int 0]) ∧ ∀ q1 q2, σ q1 = none → σ q2 = none → q1 ≠ q2 → P none (g_up (g_up (g_up σ q1 (g_ia 0 20 (fun _ => nI 0))) q2 (g_ia 1 20 (fun _ => b2i false))) e (g_ob 4 [.ref q1, .ref q2, .int (nI 0), .int (nI 0)]))
def T_L_init : gT := gTT [(9, 4, 0, 1, 2), (15, 4, 1, 1, 2), (19, 4, 2, 0, 1), (23, 4, 3, 0, 1)] [] [] [] [] [(3, 0)]
theorem tf_L_init_9 : (T_L_init).1 9 = some (4, 0, 1, 2) := rfl
theorem tf_L_init_15 : (T_L_init).1 15 = some (4, 1, 1, 2) := rfl
theorem tf_L_init_19 : (T_L_init).1 19 = some (4, 2, 0, 1) := rfl
theorem tf_L_init_23 : (T_L_init).1 23 = some (4, 3, 0, 1) := rfl
theorem tm_L_init_3 : (T_L_init).2.2.2.2.2 3 = some 0 := rfl
theorem t_L_init (l : Launch) (sc : gX) : g_TOK l sc (gRm 1 2 40) (T_L_init) gEl "DataSets$Line" gCl gTb gNs gAT gAO := gTT_ok
  (List.forall_mem_cons.mpr ⟨⟨R_L, F_L, 4, t_L 0, rfl, by decide, rfl, by decide +kernel, rfl, by decide, Or.inl ⟨wd299, by decide⟩⟩, List.forall_mem_cons.mpr ⟨⟨R_L, F_L, 4, t_L 1, rfl, by decide, rfl, by decide +kernel, rfl, by decide, Or.inl ⟨wd300, by decide⟩⟩, List.forall_mem_cons.mpr ⟨⟨R_L, F_L, 4, t_L 2, rfl, by decide, rfl, by decide +kernel, rfl, by decide, Or.inl ⟨wd301, by decide⟩⟩, List.forall_mem_cons.mpr ⟨⟨R_L, F_L, 4, t_L 3, rfl, by decide, rfl, by decide +kernel, rfl, by decide, Or.inl ⟨wd303, by decide⟩⟩, fun _ h => absurd h List.not_mem_nil⟩⟩⟩⟩)
  (fun _ h => absurd h List.not_mem_nil)
  (fun _ h => absurd h List.not_mem_nil)
  (fun _ h => absurd h List.not_mem_nil)
  (fun _ h => absurd h List.not_mem_nil)
  (List.forall_mem_cons.mpr ⟨⟨fun _ => ⟨wd298, wd39, gTb_in 40 (by decide +kernel) rfl⟩, (fun h => by cases h), (fun h => by cases h)⟩, fun _ h => absurd h List.not_mem_nil⟩)
set_option maxHeartbeats 4000000 in
set_option maxRecDepth 100000 in
theorem k_L_init (l : Launch) (sc : gX) : g_Met l sc gCl gTb gNs gAT gAO y_L_init b_L_init 1 none (gRm 1 2 40) (sp_L_init) 2 40 := by
  refine g_meth (T := (T_L_init)) (el := gEl) (ini := true) (rk := 0) (code := c_L_init) gG_ok (t_L_init l sc) (by decide) (by decide) rfl ⟨rfl, rfl, by decide, by decide⟩ ok_L_init ?_
  intro av σ P hsp
  obtain ⟨e, rfl, he, hP⟩ := hsp
  refine ⟨by simp [lg_sl, Value.category], fun _ _ _ _ _ _ _ => False, ⟨200, ?_⟩, fun _ _ _ _ _ _ _ h => h.elim⟩
  simp only [w_aload_0, w_invokespecial, w_bipush, w_newa_int, w_put, w_newa_boolean, w_iconst, w_ret, go_L_init_0, go_L_init_1, go_L_init_4, go_L_init_5, go_L_init_7, go_L_init_9, go_L_init_12, go_L_init_13, go_L_init_15, go_L_init_17, go_L_init_20, go_L_init_21, go_L_init_22, go_L_init_25, go_L_init_26, go_L_init_27, go_L_init_30, at_L_init_0, tf_L_init_9, tf_L_init_15, tf_L_init_19, tf_L_init_23, tm_L_init_3, s_opt, s_oI, s_oL, s_oA, s_oAN, s_set0, s_set1, s_setn0, s_setn1, s_ok0, s_okn, s_oki, s_okr, s_okN, s_oko, s_oks, s_c1i, s_c1r, s_c1n, s_fi, s_fr, s_fn, s_fl, s_fz, s_rd, s_pt, s_ai, s_lds, s_ldsN, s_al, s_ar, s_cls, s_leni, s_lenz, s_lenr, s_lenN, s_lenl, s_rc0, s_rc1, s_rcv, s_clo, s_clx, s_cln, s_cl1, s_cl2, s_cl3, s_cl4, s_cl5, s_sw1, s_sw2, s_min0, s_min1, s_min2, List.getElem?_cons_zero, List.getElem?_cons_succ, List.take_succ_cons, List.take_zero, List.length_cons, List.length_nil, List.set_cons_zero, List.set_cons_succ, List.cons_append, List.nil_append, Option.toList_some, Option.toList_none, Nat.reduceAdd, Nat.reduceSub, Nat.reduceLeDiff, Nat.reduceLT, Nat.reduceEqDiff, Nat.zero_add, Nat.add_zero, Nat.le_refl, Nat.zero_le, true_and, and_true, true_or, or_true, or_false, false_or, and_self, not_false_eq_true, Nat.one_ne_zero, Nat.zero_ne_one, reduceCtorEq, false_and, and_false, g_ent, lg_sl, List.flatMap_cons, List.flatMap_nil, List.map_cons, List.map_nil, Value.category, ite_true, ite_false, if_true, if_false, if_pos, gEl, Option.isSome_some, s_c12, s_p12, s_c16, s_p16, s_c20, s_p20, s_c30, s_p30, s_c60, s_p60, s_c100, s_p100, s_c500, s_p500, s_c61, s_p61, s_c1952, s_p1952, s_c732, s_p732, s_c1830, s_p1830, s_c2000, s_p2000, not_true_eq_false, true_implies, false_implies, implies_true, he]
  refine fun q1 h1 => ?_
  have n1 := g_ne_new he h1
  simp only [w_aload_0, w_invokespecial, w_bipush, w_newa_int, w_put, w_newa_boolean, w_iconst, w_ret, go_L_init_0, go_L_init_1, go_L_init_4, go_L_init_5, go_L_init_7, go_L_init_9, go_L_init_12, go_L_init_13, go_L_init_15, go_L_init_17, go_L_init_20, go_L_init_21, go_L_init_22, go_L_init_25, go_L_init_26, go_L_init_27, go_L_init_30, at_L_init_0, tf_L_init_9, tf_L_init_15, tf_L_init_19, tf_L_init_23, tm_L_init_3, s_opt, s_oI, s_oL, s_oA, s_oAN, s_set0, s_set1, s_setn0, s_setn1, s_ok0, s_okn, s_oki, s_okr, s_okN, s_oko, s_oks, s_c1i, s_c1r, s_c1n, s_fi, s_fr, s_fn, s_fl, s_fz, s_rd, s_pt, s_ai, s_lds, s_ldsN, s_al, s_ar, s_cls, s_leni, s_lenz, s_lenr, s_lenN, s_lenl, s_rc0, s_rc1, s_rcv, s_clo, s_clx, s_cln, s_cl1, s_cl2, s_cl3, s_cl4, s_cl5, s_sw1, s_sw2, s_min0, s_min1, s_min2, List.getElem?_cons_zero, List.getElem?_cons_succ, List.take_succ_cons, List.take_zero, List.length_cons, List.length_nil, List.set_cons_zero, List.set_cons_succ, List.cons_append, List.nil_append, Option.toList_some, Option.toList_none, Nat.reduceAdd, Nat.reduceSub, Nat.reduceLeDiff, Nat.reduceLT, Nat.reduceEqDiff, Nat.zero_add, Nat.add_zero, Nat.le_refl, Nat.zero_le, true_and, and_true, true_or, or_true, or_false, false_or, and_self, not_false_eq_true, Nat.one_ne_zero, Nat.zero_ne_one, reduceCtorEq, false_and, and_false, g_ent, lg_sl, List.flatMap_cons, List.flatMap_nil, List.map_cons, List.map_nil, Value.category, ite_true, ite_false, if_true, if_false, if_pos, gEl, Option.isSome_some, s_c12, s_p12, s_c16, s_p16, s_c20, s_p20, s_c30, s_p30, s_c60, s_p60, s_c100, s_p100, s_c500, s_p500, s_c61, s_p61, s_c1952, s_p1952, s_c732, s_p732, s_c1830, s_p1830, s_c2000, s_p2000, not_true_eq_false, true_implies, false_implies, implies_true, he, g_up_n n1]
  refine fun q2 h2 => ?_
  have n2 : e ≠ q2 := fun z => by rw [← z, g_up_s] at h2; cases h2
  rw [g_up_n (Ne.symm n2)] at h2
  have n12 : q2 ≠ q1 := fun z => by rw [z, g_up_s] at h2; cases h2
  rw [g_up_n n12] at h2
  simp only [w_aload_0, w_invokespecial, w_bipush, w_newa_int, w_put, w_newa_boolean, w_iconst, w_ret, go_L_init_0, go_L_init_1, go_L_init_4, go_L_init_5, go_L_init_7, go_L_init_9, go_L_init_12, go_L_init_13, go_L_init_15, go_L_init_17, go_L_init_20, go_L_init_21, go_L_init_22, go_L_init_25, go_L_init_26, go_L_init_27, go_L_init_30, at_L_init_0, tf_L_init_9, tf_L_init_15, tf_L_init_19, tf_L_init_23, tm_L_init_3, s_opt, s_oI, s_oL, s_oA, s_oAN, s_set0, s_set1, s_setn0, s_setn1, s_ok0, s_okn, s_oki, s_okr, s_okN, s_oko, s_oks, s_c1i, s_c1r, s_c1n, s_fi, s_fr, s_fn, s_fl, s_fz, s_rd, s_pt, s_ai, s_lds, s_ldsN, s_al, s_ar, s_cls, s_leni, s_lenz, s_lenr, s_lenN, s_lenl, s_rc0, s_rc1, s_rcv, s_clo, s_clx, s_cln, s_cl1, s_cl2, s_cl3, s_cl4, s_cl5, s_sw1, s_sw2, s_min0, s_min1, s_min2, List.getElem?_cons_zero, List.getElem?_cons_succ, List.take_succ_cons, List.take_zero, List.length_cons, List.length_nil, List.set_cons_zero, List.set_cons_succ, List.cons_append, List.nil_append, Option.toList_some, Option.toList_none, Nat.reduceAdd, Nat.reduceSub, Nat.reduceLeDiff, Nat.reduceLT, Nat.reduceEqDiff, Nat.zero_add, Nat.add_zero, Nat.le_refl, Nat.zero_le, true_and, and_true, true_or, or_true, or_false, false_or, and_self, not_false_eq_true, Nat.one_ne_zero, Nat.zero_ne_one, reduceCtorEq, false_and, and_false, g_ent, lg_sl, List.flatMap_cons, List.flatMap_nil, List.map_cons, List.map_nil, Value.category, ite_true, ite_false, if_true, if_false, if_pos, gEl, Option.isSome_some, s_c12, s_p12, s_c16, s_p16, s_c20, s_p20, s_c30, s_p30, s_c60, s_p60, s_c100, s_p100, s_c500, s_p500, s_c61, s_p61, s_c1952, s_p1952, s_c732, s_p732, s_c1830, s_p1830, s_c2000, s_p2000, not_true_eq_false, true_implies, false_implies, implies_true, he, g_up_n n1, g_up_n n2, g_up_s]
  have hf := hP q1 q2 h1 h2 (Ne.symm n12)
  refine cast ?_ hf
  congr 1
  funext w
  by_cases e0 : w = e
  · subst e0; simp [g_up, nI_0]
  · by_cases e1 : w = q1
    · subst e1; simp [g_up, Ne.symm n12, e0, nI_0]
    · by_cases e2 : w = q2
      · subst e2; simp [g_up, e0, b2i]
      · simp [g_up, e0, e1, e2]
def sp_L_placeOf : gSpec := fun av σ P => ∃ (q j o s h x : Nat) (lj : Nat → Nat) (la : Nat → Bool), av = [.ref q, .int (nI x)] ∧ rLine σ q j o s h lj la ∧ bLine s h lj ∧ x ≤ 20 ∧ P (some (.int (oI (m_ix (fun i => decide (lj i = x)) s 0)))) σ
def iv_L_placeOf (σ : gS) (q c0 x : Nat) (p : Nat → Bool) : Nat → gK := fun k pc lv st σ' c z => ∃ i, i ≤ c0 ∧ k = c0 - i ∧ pc = 2 ∧ lv = [some (.ref q), some (.int (nI x)), some (.int (nI i))] ∧ st = [] ∧ σ' = σ ∧ c = 0 ∧ z = 0 ∧ m_ix p (c0 - i) i = m_ix p c0 0
def T_L_placeOf : gT := gTT [(9, 4, 0, 1, 2), (19, 4, 2, 0, 1)] [] [] [] [] []
theorem tf_L_placeOf_9 : (T_L_placeOf).1 9 = some (4, 0, 1, 2) := rfl
theorem tf_L_placeOf_19 : (T_L_placeOf).1 19 = some (4, 2, 0, 1) := rfl
theorem t_L_placeOf (l : Launch) (sc : gX) : g_TOK l sc (gRm 1 0 0) (T_L_placeOf) gEl "DataSets$Line" gCl gTb gNs gAT gAO := gTT_ok
  (List.forall_mem_cons.mpr ⟨⟨R_L, F_L, 4, t_L 0, rfl, by decide, rfl, by decide +kernel, rfl, by decide, Or.inl ⟨wd299, by decide⟩⟩, List.forall_mem_cons.mpr ⟨⟨R_L, F_L, 4, t_L 2, rfl, by decide, rfl, by decide +kernel, rfl, by decide, Or.inl ⟨wd301, by decide⟩⟩, fun _ h => absurd h List.not_mem_nil⟩⟩)
  (fun _ h => absurd h List.not_mem_nil)
  (fun _ h => absurd h List.not_mem_nil)
  (fun _ h => absurd h List.not_mem_nil)
  (fun _ h => absurd h List.not_mem_nil)
  (fun _ h => absurd h List.not_mem_nil)
set_option maxHeartbeats 4000000 in
set_option maxRecDepth 100000 in
theorem k_L_placeOf (l : Launch) (sc : gX) : g_Met l sc gCl gTb gNs gAT gAO y_L_placeOf b_L_placeOf 3 (some .int) (gRm 1 0 0) (sp_L_placeOf) 0 0 := by
  refine g_meth (T := (T_L_placeOf)) (el := gEl) (ini := false) (rk := 1) (code := c_L_placeOf) gG_ok (t_L_placeOf l sc) (by decide) (by decide) rfl ⟨rfl, rfl, by decide, by decide⟩ ok_L_placeOf ?_
  intro av σ P hsp
  obtain ⟨q, j, o, s, h, x, lj, la, rfl, ⟨hq, hj, ho⟩, ⟨hs, hh, hb⟩, hx, hP⟩ := hsp
  refine ⟨by simp [lg_sl, Value.category], iv_L_placeOf σ q s x (fun i => decide (lj i = x)), ⟨200, ?_⟩, ?_⟩
  · simp only [w_iconst, w_istore_2, w_iload_2, w_aload_0, w_get, w_icmp_ge, w_iald, w_iload_1, w_icmp_ne, w_iret, w_iinc, w_goto, go_L_placeOf_0, go_L_placeOf_1, go_L_placeOf_2, go_L_placeOf_3, go_L_placeOf_4, go_L_placeOf_7, go_L_placeOf_10, go_L_placeOf_11, go_L_placeOf_14, go_L_placeOf_15, go_L_placeOf_16, go_L_placeOf_17, go_L_placeOf_20, go_L_placeOf_21, go_L_placeOf_22, go_L_placeOf_25, go_L_placeOf_28, go_L_placeOf_29, at_L_placeOf_0, at_L_placeOf_2, tf_L_placeOf_9, tf_L_placeOf_19, s_opt, s_oI, s_oL, s_oA, s_oAN, s_set0, s_set1, s_setn0, s_setn1, s_ok0, s_okn, s_oki, s_okr, s_okN, s_oko, s_oks, s_c1i, s_c1r, s_c1n, s_fi, s_fr, s_fn, s_fl, s_fz, s_rd, s_pt, s_ai, s_lds, s_ldsN, s_al, s_ar, s_cls, s_leni, s_lenz, s_lenr, s_lenN, s_lenl, s_rc0, s_rc1, s_rcv, s_clo, s_clx, s_cln, s_cl1, s_cl2, s_cl3, s_cl4, s_cl5, s_sw1, s_sw2, s_min0, s_min1, s_min2, List.getElem?_cons_zero, List.getElem?_cons_succ, List.take_succ_cons, List.take_zero, List.length_cons, List.length_nil, List.set_cons_zero, List.set_cons_succ, List.cons_append, List.nil_append, Option.toList_some, Option.toList_none, Nat.reduceAdd, Nat.reduceSub, Nat.reduceLeDiff, Nat.reduceLT, Nat.reduceEqDiff, Nat.zero_add, Nat.add_zero, Nat.le_refl, Nat.zero_le, true_and, and_true, true_or, or_true, or_false, false_or, and_self, not_false_eq_true, Nat.one_ne_zero, Nat.zero_ne_one, reduceCtorEq, false_and, and_false, g_ent, lg_sl, List.flatMap_cons, List.flatMap_nil, List.map_cons, List.map_nil, Value.category, ite_true, ite_false, if_true, if_false, if_pos, gEl, Option.isSome_some, s_c12, s_p12, s_c16, s_p16, s_c20, s_p20, s_c30, s_p30, s_c60, s_p60, s_c100, s_p100, s_c500, s_p500, s_c61, s_p61, s_c1952, s_p1952, s_c732, s_p732, s_c1830, s_p1830, s_c2000, s_p2000, not_true_eq_false, true_implies, false_implies, implies_true]
    exact ⟨s, 0, Nat.zero_le _, rfl, rfl, rfl, rfl, rfl, rfl, rfl, rfl⟩
  · rintro k pc lv st σ' c z ⟨i, hi, rfl, rfl, rfl, rfl, rfl, rfl, rfl, hans⟩
    refine ⟨200, ?_⟩
    have hcl : (nI i).toNatClampNeg = i := pk_cl i
    simp only [w_iconst, w_istore_2, w_iload_2, w_aload_0, w_get, w_icmp_ge, w_iald, w_iload_1, w_icmp_ne, w_iret, w_iinc, w_goto, go_L_placeOf_0, go_L_placeOf_1, go_L_placeOf_2, go_L_placeOf_3, go_L_placeOf_4, go_L_placeOf_7, go_L_placeOf_10, go_L_placeOf_11, go_L_placeOf_14, go_L_placeOf_15, go_L_placeOf_16, go_L_placeOf_17, go_L_placeOf_20, go_L_placeOf_21, go_L_placeOf_22, go_L_placeOf_25, go_L_placeOf_28, go_L_placeOf_29, at_L_placeOf_0, at_L_placeOf_2, tf_L_placeOf_9, tf_L_placeOf_19, s_opt, s_oI, s_oL, s_oA, s_oAN, s_set0, s_set1, s_setn0, s_setn1, s_ok0, s_okn, s_oki, s_okr, s_okN, s_oko, s_oks, s_c1i, s_c1r, s_c1n, s_fi, s_fr, s_fn, s_fl, s_fz, s_rd, s_pt, s_ai, s_lds, s_ldsN, s_al, s_ar, s_cls, s_leni, s_lenz, s_lenr, s_lenN, s_lenl, s_rc0, s_rc1, s_rcv, s_clo, s_clx, s_cln, s_cl1, s_cl2, s_cl3, s_cl4, s_cl5, s_sw1, s_sw2, s_min0, s_min1, s_min2, List.getElem?_cons_zero, List.getElem?_cons_succ, List.take_succ_cons, List.take_zero, List.length_cons, List.length_nil, List.set_cons_zero, List.set_cons_succ, List.cons_append, List.nil_append, Option.toList_some, Option.toList_none, Nat.reduceAdd, Nat.reduceSub, Nat.reduceLeDiff, Nat.reduceLT, Nat.reduceEqDiff, Nat.zero_add, Nat.add_zero, Nat.le_refl, Nat.zero_le, true_and, and_true, true_or, or_true, or_false, false_or, and_self, not_false_eq_true, Nat.one_ne_zero, Nat.zero_ne_one, reduceCtorEq, false_and, and_false, g_ent, lg_sl, List.flatMap_cons, List.flatMap_nil, List.map_cons, List.map_nil, Value.category, ite_true, ite_false, if_true, if_false, if_pos, gEl, Option.isSome_some, s_c12, s_p12, s_c16, s_p16, s_c20, s_p20, s_c30, s_p30, s_c60, s_p60, s_c100, s_p100, s_c500, s_p500, s_c61, s_p61, s_c1952, s_p1952, s_c732, s_p732, s_c1830, s_p1830, s_c2000, s_p2000, not_true_eq_false, true_implies, false_implies, implies_true, hq, hj, hcl]
    refine pk_le s i (fun h => ?_) (fun h => ?_)
    · have : i = s := by omega
      subst this
      rw [Nat.sub_self] at hans
      have h0 : m_ix (fun i => decide (lj i = x)) i 0 = none := hans.symm
      rw [h0] at hP
      exact hP
    · have hbi := hb i (by omega)
      have hfr : m_ix (fun i => decide (lj i = x)) (s - i) i = if decide (lj i = x) = true then some i else m_ix (fun i => decide (lj i = x)) (s - (i + 1)) (i + 1) := by
        rw [show s - i = (s - (i + 1)) + 1 by omega]
        rfl
      refine ⟨pk_in i 20 (by omega), pk_ne (lj i) x (fun hne => ?_) (fun he => ?_)⟩
      · rw [decide_eq_false hne] at hfr
        refine ⟨s - (i + 1), by omega, i + 1, by omega, rfl, rfl, by rw [nI_1], rfl, rfl, rfl, rfl, ?_⟩
        rw [← hans, hfr]; rfl
      · rw [decide_eq_true he] at hfr
        rw [← hans, hfr] at hP
        exact hP
def m_can (la : Nat → Bool) (h : Nat) (x : Bool) : Bool := decide (h = 0) || (!x && !la 0)
def sp_L_canHold : gSpec := fun av σ P => ∃ (q j o s h : Nat) (lj : Nat → Nat) (la : Nat → Bool) (x : Bool), av = [.ref q, .int (b2i x)] ∧ rLine σ q j o s h lj la ∧ h ≤ 20 ∧ P (some (.int (b2i (m_can la h x)))) σ
def T_L_canHold : gT := gTT [(15, 4, 1, 1, 2), (23, 4, 3, 0, 1)] [] [] [] [] []
theorem tf_L_canHold_15 : (T_L_canHold).1 15 = some (4, 1, 1, 2) := rfl
theorem tf_L_canHold_23 : (T_L_canHold).1 23 = some (4, 3, 0, 1) := rfl
theorem t_L_canHold (l : Launch) (sc : gX) : g_TOK l sc (gRm 1 0 0) (T_L_canHold) gEl "DataSets$Line" gCl gTb gNs gAT gAO := gTT_ok
  (List.forall_mem_cons.mpr ⟨⟨R_L, F_L, 4, t_L 1, rfl, by decide, rfl, by decide +kernel, rfl, by decide, Or.inl ⟨wd300, by decide⟩⟩, List.forall_mem_cons.mpr ⟨⟨R_L, F_L, 4, t_L 3, rfl, by decide, rfl, by decide +kernel, rfl, by decide, Or.inl ⟨wd303, by decide⟩⟩, fun _ h => absurd h List.not_mem_nil⟩⟩)
  (fun _ h => absurd h List.not_mem_nil)
  (fun _ h => absurd h List.not_mem_nil)
  (fun _ h => absurd h List.not_mem_nil)
  (fun _ h => absurd h List.not_mem_nil)
  (fun _ h => absurd h List.not_mem_nil)
set_option maxHeartbeats 4000000 in
set_option maxRecDepth 100000 in
theorem k_L_canHold (l : Launch) (sc : gX) : g_Met l sc gCl gTb gNs gAT gAO y_L_canHold b_L_canHold 2 (some .boolean) (gRm 1 0 0) (sp_L_canHold) 0 0 := by
  refine g_meth (T := (T_L_canHold)) (el := gEl) (ini := false) (rk := 2) (code := c_L_canHold) gG_ok (t_L_canHold l sc) (by decide) (by decide) rfl ⟨rfl, rfl, by decide, by decide⟩ ok_L_canHold ?_
  intro av σ P hsp
  obtain ⟨q, j, o, s, h, lj, la, x, rfl, ⟨hq, hj, ho⟩, hh, hP⟩ := hsp
  refine ⟨by simp [lg_sl, Value.category], fun _ _ _ _ _ _ _ => False, ⟨200, ?_⟩, fun _ _ _ _ _ _ _ h => h.elim⟩
  have hc0 : (0 : Int32).toNatClampNeg = 0 := by decide
  simp only [w_aload_0, w_get, w_if_eq, w_iload_1, w_if_ne, w_iconst, w_bald, w_goto, w_iret, go_L_canHold_0, go_L_canHold_1, go_L_canHold_4, go_L_canHold_7, go_L_canHold_8, go_L_canHold_11, go_L_canHold_12, go_L_canHold_15, go_L_canHold_16, go_L_canHold_17, go_L_canHold_20, go_L_canHold_21, go_L_canHold_24, go_L_canHold_25, at_L_canHold_0, tf_L_canHold_15, tf_L_canHold_23, s_opt, s_oI, s_oL, s_oA, s_oAN, s_set0, s_set1, s_setn0, s_setn1, s_ok0, s_okn, s_oki, s_okr, s_okN, s_oko, s_oks, s_c1i, s_c1r, s_c1n, s_fi, s_fr, s_fn, s_fl, s_fz, s_rd, s_pt, s_ai, s_lds, s_ldsN, s_al, s_ar, s_cls, s_leni, s_lenz, s_lenr, s_lenN, s_lenl, s_rc0, s_rc1, s_rcv, s_clo, s_clx, s_cln, s_cl1, s_cl2, s_cl3, s_cl4, s_cl5, s_sw1, s_sw2, s_min0, s_min1, s_min2, List.getElem?_cons_zero, List.getElem?_cons_succ, List.take_succ_cons, List.take_zero, List.length_cons, List.length_nil, List.set_cons_zero, List.set_cons_succ, List.cons_append, List.nil_append, Option.toList_some, Option.toList_none, Nat.reduceAdd, Nat.reduceSub, Nat.reduceLeDiff, Nat.reduceLT, Nat.reduceEqDiff, Nat.zero_add, Nat.add_zero, Nat.le_refl, Nat.zero_le, true_and, and_true, true_or, or_true, or_false, false_or, and_self, not_false_eq_true, Nat.one_ne_zero, Nat.zero_ne_one, reduceCtorEq, false_and, and_false, g_ent, lg_sl, List.flatMap_cons, List.flatMap_nil, List.map_cons, List.map_nil, Value.category, ite_true, ite_false, if_true, if_false, if_pos, gEl, Option.isSome_some, s_c12, s_p12, s_c16, s_p16, s_c20, s_p20, s_c30, s_p30, s_c60, s_p60, s_c100, s_p100, s_c500, s_p500, s_c61, s_p61, s_c1952, s_p1952, s_c732, s_p732, s_c1830, s_p1830, s_c2000, s_p2000, not_true_eq_false, true_implies, false_implies, implies_true, hq, hj, ho, hc0]
  refine pk_eq h 0 (fun h0 => ?_) (fun h0 => ?_)
  · have e1 : m_can la h x = true := by simp [m_can, h0]
    rw [e1] at hP
    exact hP
  · refine pk_bn x (fun hx => ?_) (fun hx => ⟨pk_in 0 20 (by omega), pk_bn (la 0) (fun hl => ?_) (fun hl => ?_)⟩)
    · have e1 : m_can la h x = false := by simp [m_can, h0, hx]
      rw [e1] at hP
      exact hP
    · have e1 : m_can la h x = false := by simp [m_can, h0, hl]
      rw [e1] at hP
      exact hP
    · have e1 : m_can la h x = true := by simp [m_can, hx, hl]
      rw [e1] at hP
      exact hP
/-- who can have the name gets it, in their order -/
def m_adm (la : Nat → Bool) (s : Nat) : Nat → Nat → Nat
  | 0, h => h
  | k + 1, h => if h < s ∧ m_can la h (la h) = true then m_adm la s k (h + 1) else h
theorem m_adm_le (la : Nat → Bool) (s : Nat) : ∀ k h, h ≤ s → h ≤ m_adm la s k h ∧ m_adm la s k h ≤ s
  | 0, h, hh => ⟨Nat.le_refl _, hh⟩
  | k + 1, h, hh => by
    unfold m_adm
    split
    next hc =>
      have := m_adm_le la s k (h + 1) (by omega)
      omega
    next => exact ⟨Nat.le_refl _, hh⟩
def sp_L_admit : gSpec := fun av σ P => ∃ (q j o s h : Nat) (lj : Nat → Nat) (la : Nat → Bool), av = [.ref q] ∧ rLine σ q j o s h lj la ∧ s ≤ 20 ∧ h ≤ s ∧ P none (g_up σ q (g_ob 4 [.ref j, .ref o, .int (nI s), .int (nI (m_adm la s (s - h) h))]))
def iv_L_admit (σ : gS) (q j o s h0 : Nat) (la : Nat → Bool) : Nat → gK := fun k pc lv st σ' c z => ∃ h, h ≤ s ∧ k = s - h ∧ pc = 0 ∧ lv = [some (.ref q)] ∧ st = [] ∧ σ' = g_up σ q (g_ob 4 [.ref j, .ref o, .int (nI s), .int (nI h)]) ∧ c = 0 ∧ z = 0 ∧ m_adm la s (s - h) h = m_adm la s (s - h0) h0
def T_L_admit : gT := gTT [(15, 4, 1, 1, 2), (19, 4, 2, 0, 1), (23, 4, 3, 0, 1)] [(33, 2, 6, sp_L_canHold, 0, 0)] [] [] [] []
theorem tf_L_admit_15 : (T_L_admit).1 15 = some (4, 1, 1, 2) := rfl
theorem tf_L_admit_19 : (T_L_admit).1 19 = some (4, 2, 0, 1) := rfl
theorem tf_L_admit_23 : (T_L_admit).1 23 = some (4, 3, 0, 1) := rfl
theorem tc_L_admit_33 : (T_L_admit).2.1 33 = some (2, 6, sp_L_canHold, 0, 0) := rfl
theorem tm_L_admit_33 : (T_L_admit).2.2.2.2.2 33 = none := rfl
theorem t_L_admit (l : Launch) (sc : gX) : g_TOK l sc (gRm 2 0 0) (T_L_admit) gEl "DataSets$Line" gCl gTb gNs gAT gAO := gTT_ok
  (List.forall_mem_cons.mpr ⟨⟨R_L, F_L, 4, t_L 1, rfl, by decide, rfl, by decide +kernel, rfl, by decide, Or.inl ⟨wd300, by decide⟩⟩, List.forall_mem_cons.mpr ⟨⟨R_L, F_L, 4, t_L 2, rfl, by decide, rfl, by decide +kernel, rfl, by decide, Or.inl ⟨wd301, by decide⟩⟩, List.forall_mem_cons.mpr ⟨⟨R_L, F_L, 4, t_L 3, rfl, by decide, rfl, by decide +kernel, rfl, by decide, Or.inl ⟨wd303, by decide⟩⟩, fun _ h => absurd h List.not_mem_nil⟩⟩⟩)
  (List.forall_mem_cons.mpr ⟨⟨y_L_canHold, b_L_canHold, 2, _, gRm 1 0 0, k_L_canHold l sc, rfl, rfl, by decide, by decide, wd329, wd32, ⟨by decide, by decide⟩, Or.inl wd326, ⟨by decide +kernel, wd328, R_L, F_L, 4, rfl, wd8⟩⟩, fun _ h => absurd h List.not_mem_nil⟩)
  (fun _ h => absurd h List.not_mem_nil)
  (fun _ h => absurd h List.not_mem_nil)
  (fun _ h => absurd h List.not_mem_nil)
  (fun _ h => absurd h List.not_mem_nil)
set_option maxHeartbeats 4000000 in
set_option maxRecDepth 100000 in
theorem k_L_admit (l : Launch) (sc : gX) : g_Met l sc gCl gTb gNs gAT gAO y_L_admit b_L_admit 1 none (gRm 2 0 0) (sp_L_admit) 0 0 := by
  refine g_meth (T := (T_L_admit)) (el := gEl) (ini := false) (rk := 0) (code := c_L_admit) gG_ok (t_L_admit l sc) (by decide) (by decide) rfl ⟨rfl, rfl, by decide, by decide⟩ ok_L_admit ?_
  intro av σ P hsp
  obtain ⟨q, j, o, s, h0, lj, la, rfl, ⟨hq, hj, ho⟩, hs, hh0, hP⟩ := hsp
  have n1 := g_ne_oi hq hj
  have n2 := g_ne_oi hq ho
  have key : ∀ (K : gK) (h : Nat), h ≤ s → m_adm la s (s - h) h = m_adm la s (s - h0) h0 → (h < s → m_adm la s (s - (h + 1)) (h + 1) = m_adm la s (s - h0) h0 → K 0 [some (.ref q)] [] (g_up σ q (g_ob 4 [.ref j, .ref o, .int (nI s), .int (nI (h + 1))])) 0 0) → g_at c_L_admit (g_wp sc T_L_admit gEl false 0 c_L_admit K P 0 0 200) 0 [some (.ref q)] [] (g_up σ q (g_ob 4 [.ref j, .ref o, .int (nI s), .int (nI h)])) 0 0 := by
    intro K h hh hans hK
    have hcl : (nI h).toNatClampNeg = h := pk_cl h
    simp only [w_aload_0, w_get, w_icmp_ge, w_bald, w_invokevirtual, w_if_eq, w_dup, w_iconst, w_iadd, w_put, w_goto, w_ret, go_L_admit_0, go_L_admit_1, go_L_admit_4, go_L_admit_5, go_L_admit_8, go_L_admit_11, go_L_admit_12, go_L_admit_13, go_L_admit_16, go_L_admit_17, go_L_admit_20, go_L_admit_21, go_L_admit_24, go_L_admit_27, go_L_admit_28, go_L_admit_29, go_L_admit_32, go_L_admit_33, go_L_admit_34, go_L_admit_37, go_L_admit_40, at_L_admit_0, tf_L_admit_15, tf_L_admit_19, tf_L_admit_23, tc_L_admit_33, tm_L_admit_33, s_opt, s_oI, s_oL, s_oA, s_oAN, s_set0, s_set1, s_setn0, s_setn1, s_ok0, s_okn, s_oki, s_okr, s_okN, s_oko, s_oks, s_c1i, s_c1r, s_c1n, s_fi, s_fr, s_fn, s_fl, s_fz, s_rd, s_pt, s_ai, s_lds, s_ldsN, s_al, s_ar, s_cls, s_leni, s_lenz, s_lenr, s_lenN, s_lenl, s_rc0, s_rc1, s_rcv, s_clo, s_clx, s_cln, s_cl1, s_cl2, s_cl3, s_cl4, s_cl5, s_sw1, s_sw2, s_min0, s_min1, s_min2, List.getElem?_cons_zero, List.getElem?_cons_succ, List.take_succ_cons, List.take_zero, List.length_cons, List.length_nil, List.set_cons_zero, List.set_cons_succ, List.cons_append, List.nil_append, Option.toList_some, Option.toList_none, Nat.reduceAdd, Nat.reduceSub, Nat.reduceLeDiff, Nat.reduceLT, Nat.reduceEqDiff, Nat.zero_add, Nat.add_zero, Nat.le_refl, Nat.zero_le, true_and, and_true, true_or, or_true, or_false, false_or, and_self, not_false_eq_true, Nat.one_ne_zero, Nat.zero_ne_one, reduceCtorEq, false_and, and_false, g_ent, lg_sl, List.flatMap_cons, List.flatMap_nil, List.map_cons, List.map_nil, Value.category, ite_true, ite_false, if_true, if_false, if_pos, gEl, Option.isSome_some, s_c12, s_p12, s_c16, s_p16, s_c20, s_p20, s_c30, s_p30, s_c60, s_p60, s_c100, s_p100, s_c500, s_p500, s_c61, s_p61, s_c1952, s_p1952, s_c732, s_p732, s_c1830, s_p1830, s_c2000, s_p2000, not_true_eq_false, true_implies, false_implies, implies_true, hq, hj, ho, hcl, g_up_s, g_up_n (Ne.symm n1), g_up_n (Ne.symm n2)]
    refine pk_le s h (fun hle => ?_) (fun hlt => ?_)
    · have e1 : h = s := by omega
      subst e1
      rw [Nat.sub_self] at hans
      have e2 : m_adm la h (h - h0) h0 = h := hans.symm
      rw [e2] at hP
      exact hP
    · have hfr : m_adm la s (s - h) h = if h < s ∧ m_can la h (la h) = true then m_adm la s (s - (h + 1)) (h + 1) else h := by
        rw [show s - h = (s - (h + 1)) + 1 by omega]
        rfl
      refine ⟨pk_in h 20 (by omega), q, j, o, s, h, lj, la, la h, rfl, ⟨g_up_s, by rw [g_up_n (Ne.symm n1)]; exact hj, by rw [g_up_n (Ne.symm n2)]; exact ho⟩, by omega, ?_⟩
      simp only [w_aload_0, w_get, w_icmp_ge, w_bald, w_invokevirtual, w_if_eq, w_dup, w_iconst, w_iadd, w_put, w_goto, w_ret, go_L_admit_0, go_L_admit_1, go_L_admit_4, go_L_admit_5, go_L_admit_8, go_L_admit_11, go_L_admit_12, go_L_admit_13, go_L_admit_16, go_L_admit_17, go_L_admit_20, go_L_admit_21, go_L_admit_24, go_L_admit_27, go_L_admit_28, go_L_admit_29, go_L_admit_32, go_L_admit_33, go_L_admit_34, go_L_admit_37, go_L_admit_40, at_L_admit_0, tf_L_admit_15, tf_L_admit_19, tf_L_admit_23, tc_L_admit_33, tm_L_admit_33, s_opt, s_oI, s_oL, s_oA, s_oAN, s_set0, s_set1, s_setn0, s_setn1, s_ok0, s_okn, s_oki, s_okr, s_okN, s_oko, s_oks, s_c1i, s_c1r, s_c1n, s_fi, s_fr, s_fn, s_fl, s_fz, s_rd, s_pt, s_ai, s_lds, s_ldsN, s_al, s_ar, s_cls, s_leni, s_lenz, s_lenr, s_lenN, s_lenl, s_rc0, s_rc1, s_rcv, s_clo, s_clx, s_cln, s_cl1, s_cl2, s_cl3, s_cl4, s_cl5, s_sw1, s_sw2, s_min0, s_min1, s_min2, List.getElem?_cons_zero, List.getElem?_cons_succ, List.take_succ_cons, List.take_zero, List.length_cons, List.length_nil, List.set_cons_zero, List.set_cons_succ, List.cons_append, List.nil_append, Option.toList_some, Option.toList_none, Nat.reduceAdd, Nat.reduceSub, Nat.reduceLeDiff, Nat.reduceLT, Nat.reduceEqDiff, Nat.zero_add, Nat.add_zero, Nat.le_refl, Nat.zero_le, true_and, and_true, true_or, or_true, or_false, false_or, and_self, not_false_eq_true, Nat.one_ne_zero, Nat.zero_ne_one, reduceCtorEq, false_and, and_false, g_ent, lg_sl, List.flatMap_cons, List.flatMap_nil, List.map_cons, List.map_nil, Value.category, ite_true, ite_false, if_true, if_false, if_pos, gEl, Option.isSome_some, s_c12, s_p12, s_c16, s_p16, s_c20, s_p20, s_c30, s_p30, s_c60, s_p60, s_c100, s_p100, s_c500, s_p500, s_c61, s_p61, s_c1952, s_p1952, s_c732, s_p732, s_c1830, s_p1830, s_c2000, s_p2000, not_true_eq_false, true_implies, false_implies, implies_true, hq, hj, ho, hcl, g_up_s, g_up_n (Ne.symm n1), g_up_n (Ne.symm n2)]
      refine pk_b (m_can la h (la h)) (fun hb => ?_) (fun hb => ?_)
      · rw [if_neg (fun z => by rw [hb] at z; cases z.2)] at hfr
        rw [← hans, hfr] at hP
        exact hP
      · rw [if_pos ⟨hlt, hb⟩] at hfr
        rw [g_up_up, nI_1]
        exact hK hlt (by rw [← hans, hfr])
  refine ⟨by simp [lg_sl, Value.category], iv_L_admit σ q j o s h0 la, ⟨200, ?_⟩, ?_⟩
  · have k1 := key (fun pc lv st σ' c z => ∃ k, iv_L_admit σ q j o s h0 la k pc lv st σ' c z) h0 hh0 rfl (fun h1 h2 => ⟨s - (h0 + 1), h0 + 1, by omega, rfl, rfl, rfl, rfl, rfl, rfl, rfl, h2⟩)
    rw [g_up_same hq] at k1
    exact k1
  · rintro k pc lv st σ' c z ⟨h, hh, rfl, rfl, rfl, rfl, rfl, rfl, rfl, hans⟩
    exact ⟨200, key _ h hh hans (fun h1 h2 => ⟨s - (h + 1), by omega, h + 1, by omega, rfl, rfl, rfl, rfl, rfl, rfl, rfl, h2⟩)⟩
def sp_L_ask : gSpec := fun av σ P => ∃ (q j o s h x : Nat) (lj : Nat → Nat) (la : Nat → Bool) (b : Bool), av = [.ref q, .int (nI x), .int (b2i b)] ∧ rLine σ q j o s h lj la ∧ bLine s h lj ∧ x ≤ 20 ∧
  ((m_ix (fun i => decide (lj i = x)) s 0 ≠ none ∨ 20 ≤ s) → P (some (.int (-5))) σ) ∧
  (m_ix (fun i => decide (lj i = x)) s 0 = none → s < 20 → ∀ la', la' = va_up la s b → ∀ h', h' = m_adm la' (s + 1) (s + 1 - h) h → P (some (.int (b2i (decide (h' = s + 1))))) (g_up (g_up (g_up σ j (g_ia 0 20 (fun i => nI (va_up lj s x i)))) o (g_ia 1 20 (fun i => b2i (la' i)))) q (g_ob 4 [.ref j, .ref o, .int (nI (s + 1)), .int (nI h')])))
def T_L_ask : gT := gTT [(9, 4, 0, 1, 2), (15, 4, 1, 1, 2), (19, 4, 2, 0, 1), (23, 4, 3, 0, 1)] [(26, 2, 6, sp_L_placeOf, 0, 0), (30, 1, 6, sp_L_admit, 0, 0)] [] [] [] []
theorem tf_L_ask_9 : (T_L_ask).1 9 = some (4, 0, 1, 2) := rfl
theorem tf_L_ask_15 : (T_L_ask).1 15 = some (4, 1, 1, 2) := rfl
theorem tf_L_ask_19 : (T_L_ask).1 19 = some (4, 2, 0, 1) := rfl
theorem tf_L_ask_23 : (T_L_ask).1 23 = some (4, 3, 0, 1) := rfl
theorem tc_L_ask_26 : (T_L_ask).2.1 26 = some (2, 6, sp_L_placeOf, 0, 0) := rfl
theorem tm_L_ask_26 : (T_L_ask).2.2.2.2.2 26 = none := rfl
theorem tc_L_ask_30 : (T_L_ask).2.1 30 = some (1, 6, sp_L_admit, 0, 0) := rfl
theorem tm_L_ask_30 : (T_L_ask).2.2.2.2.2 30 = none := rfl
theorem t_L_ask (l : Launch) (sc : gX) : g_TOK l sc (gRm 3 0 0) (T_L_ask) gEl "DataSets$Line" gCl gTb gNs gAT gAO := gTT_ok
  (List.forall_mem_cons.mpr ⟨⟨R_L, F_L, 4, t_L 0, rfl, by decide, rfl, by decide +kernel, rfl, by decide, Or.inl ⟨wd299, by decide⟩⟩, List.forall_mem_cons.mpr ⟨⟨R_L, F_L, 4, t_L 1, rfl, by decide, rfl, by decide +kernel, rfl, by decide, Or.inl ⟨wd300, by decide⟩⟩, List.forall_mem_cons.mpr ⟨⟨R_L, F_L, 4, t_L 2, rfl, by decide, rfl, by decide +kernel, rfl, by decide, Or.inl ⟨wd301, by decide⟩⟩, List.forall_mem_cons.mpr ⟨⟨R_L, F_L, 4, t_L 3, rfl, by decide, rfl, by decide +kernel, rfl, by decide, Or.inl ⟨wd303, by decide⟩⟩, fun _ h => absurd h List.not_mem_nil⟩⟩⟩⟩)
  (List.forall_mem_cons.mpr ⟨⟨y_L_placeOf, b_L_placeOf, 3, _, gRm 1 0 0, k_L_placeOf l sc, rfl, rfl, by decide, by decide, wd321, wd32, ⟨by decide, by decide⟩, Or.inl wd318, ⟨by decide +kernel, wd320, R_L, F_L, 4, rfl, wd6⟩⟩, List.forall_mem_cons.mpr ⟨⟨y_L_admit, b_L_admit, 1, _, gRm 2 0 0, k_L_admit l sc, rfl, rfl, by decide, by decide, wd325, wd32, ⟨by decide, by decide⟩, Or.inl wd322, ⟨by decide +kernel, wd324, R_L, F_L, 4, rfl, wd7⟩⟩, fun _ h => absurd h List.not_mem_nil⟩⟩)
  (fun _ h => absurd h List.not_mem_nil)
  (fun _ h => absurd h List.not_mem_nil)
  (fun _ h => absurd h List.not_mem_nil)
  (fun _ h => absurd h List.not_mem_nil)
set_option maxHeartbeats 4000000 in
set_option maxRecDepth 100000 in
theorem k_L_ask (l : Launch) (sc : gX) : g_Met l sc gCl gTb gNs gAT gAO y_L_ask b_L_ask 3 (some .int) (gRm 3 0 0) (sp_L_ask) 0 0 := by
  refine g_meth (T := (T_L_ask)) (el := gEl) (ini := false) (rk := 1) (code := c_L_ask) gG_ok (t_L_ask l sc) (by decide) (by decide) rfl ⟨rfl, rfl, by decide, by decide⟩ ok_L_ask ?_
  intro av σ P hsp
  obtain ⟨q, j, o, s, h, x, lj, la, b, rfl, hR, hB, hx, hP1, hP2⟩ := hsp
  obtain ⟨hq, hj, ho⟩ := id hR
  obtain ⟨hs, hh, hb⟩ := id hB
  have n1 := g_ne_oi hq hj
  have n2 := g_ne_oi hq ho
  have n3 : j ≠ o := g_ne_ii hj ho (by decide)
  refine ⟨by simp [lg_sl, Value.category], fun _ _ _ _ _ _ _ => False, ⟨200, ?_⟩, fun _ _ _ _ _ _ _ h => h.elim⟩
  simp only [w_aload_0, w_iload_1, w_invokevirtual, w_iconst, w_icmp_ne, w_get, w_bipush, w_icmp_lt, w_iret, w_iast, w_iload_2, w_bast, w_dup, w_iadd, w_put, w_goto, go_L_ask_0, go_L_ask_1, go_L_ask_2, go_L_ask_5, go_L_ask_6, go_L_ask_9, go_L_ask_10, go_L_ask_13, go_L_ask_15, go_L_ask_18, go_L_ask_20, go_L_ask_21, go_L_ask_22, go_L_ask_25, go_L_ask_26, go_L_ask_29, go_L_ask_30, go_L_ask_31, go_L_ask_32, go_L_ask_35, go_L_ask_36, go_L_ask_39, go_L_ask_40, go_L_ask_41, go_L_ask_42, go_L_ask_43, go_L_ask_46, go_L_ask_47, go_L_ask_48, go_L_ask_51, go_L_ask_52, go_L_ask_55, go_L_ask_56, go_L_ask_59, go_L_ask_60, go_L_ask_63, go_L_ask_66, go_L_ask_67, go_L_ask_70, go_L_ask_71, at_L_ask_0, tf_L_ask_9, tf_L_ask_15, tf_L_ask_19, tf_L_ask_23, tc_L_ask_26, tm_L_ask_26, tc_L_ask_30, tm_L_ask_30, s_opt, s_oI, s_oL, s_oA, s_oAN, s_set0, s_set1, s_setn0, s_setn1, s_ok0, s_okn, s_oki, s_okr, s_okN, s_oko, s_oks, s_c1i, s_c1r, s_c1n, s_fi, s_fr, s_fn, s_fl, s_fz, s_rd, s_pt, s_ai, s_lds, s_ldsN, s_al, s_ar, s_cls, s_leni, s_lenz, s_lenr, s_lenN, s_lenl, s_rc0, s_rc1, s_rcv, s_clo, s_clx, s_cln, s_cl1, s_cl2, s_cl3, s_cl4, s_cl5, s_sw1, s_sw2, s_min0, s_min1, s_min2, List.getElem?_cons_zero, List.getElem?_cons_succ, List.take_succ_cons, List.take_zero, List.length_cons, List.length_nil, List.set_cons_zero, List.set_cons_succ, List.cons_append, List.nil_append, Option.toList_some, Option.toList_none, Nat.reduceAdd, Nat.reduceSub, Nat.reduceLeDiff, Nat.reduceLT, Nat.reduceEqDiff, Nat.zero_add, Nat.add_zero, Nat.le_refl, Nat.zero_le, true_and, and_true, true_or, or_true, or_false, false_or, and_self, not_false_eq_true, Nat.one_ne_zero, Nat.zero_ne_one, reduceCtorEq, false_and, and_false, g_ent, lg_sl, List.flatMap_cons, List.flatMap_nil, List.map_cons, List.map_nil, Value.category, ite_true, ite_false, if_true, if_false, if_pos, gEl, Option.isSome_some, s_c12, s_p12, s_c16, s_p16, s_c20, s_p20, s_c30, s_p30, s_c60, s_p60, s_c100, s_p100, s_c500, s_p500, s_c61, s_p61, s_c1952, s_p1952, s_c732, s_p732, s_c1830, s_p1830, s_c2000, s_p2000, not_true_eq_false, true_implies, false_implies, implies_true, hq]
  refine ⟨q, j, o, s, h, x, lj, la, rfl, hR, hB, hx, ?_⟩
  have hcl : (nI s).toNatClampNeg = s := pk_cl s
  simp only [w_aload_0, w_iload_1, w_invokevirtual, w_iconst, w_icmp_ne, w_get, w_bipush, w_icmp_lt, w_iret, w_iast, w_iload_2, w_bast, w_dup, w_iadd, w_put, w_goto, go_L_ask_0, go_L_ask_1, go_L_ask_2, go_L_ask_5, go_L_ask_6, go_L_ask_9, go_L_ask_10, go_L_ask_13, go_L_ask_15, go_L_ask_18, go_L_ask_20, go_L_ask_21, go_L_ask_22, go_L_ask_25, go_L_ask_26, go_L_ask_29, go_L_ask_30, go_L_ask_31, go_L_ask_32, go_L_ask_35, go_L_ask_36, go_L_ask_39, go_L_ask_40, go_L_ask_41, go_L_ask_42, go_L_ask_43, go_L_ask_46, go_L_ask_47, go_L_ask_48, go_L_ask_51, go_L_ask_52, go_L_ask_55, go_L_ask_56, go_L_ask_59, go_L_ask_60, go_L_ask_63, go_L_ask_66, go_L_ask_67, go_L_ask_70, go_L_ask_71, at_L_ask_0, tf_L_ask_9, tf_L_ask_15, tf_L_ask_19, tf_L_ask_23, tc_L_ask_26, tm_L_ask_26, tc_L_ask_30, tm_L_ask_30, s_opt, s_oI, s_oL, s_oA, s_oAN, s_set0, s_set1, s_setn0, s_setn1, s_ok0, s_okn, s_oki, s_okr, s_okN, s_oko, s_oks, s_c1i, s_c1r, s_c1n, s_fi, s_fr, s_fn, s_fl, s_fz, s_rd, s_pt, s_ai, s_lds, s_ldsN, s_al, s_ar, s_cls, s_leni, s_lenz, s_lenr, s_lenN, s_lenl, s_rc0, s_rc1, s_rcv, s_clo, s_clx, s_cln, s_cl1, s_cl2, s_cl3, s_cl4, s_cl5, s_sw1, s_sw2, s_min0, s_min1, s_min2, List.getElem?_cons_zero, List.getElem?_cons_succ, List.take_succ_cons, List.take_zero, List.length_cons, List.length_nil, List.set_cons_zero, List.set_cons_succ, List.cons_append, List.nil_append, Option.toList_some, Option.toList_none, Nat.reduceAdd, Nat.reduceSub, Nat.reduceLeDiff, Nat.reduceLT, Nat.reduceEqDiff, Nat.zero_add, Nat.add_zero, Nat.le_refl, Nat.zero_le, true_and, and_true, true_or, or_true, or_false, false_or, and_self, not_false_eq_true, Nat.one_ne_zero, Nat.zero_ne_one, reduceCtorEq, false_and, and_false, g_ent, lg_sl, List.flatMap_cons, List.flatMap_nil, List.map_cons, List.map_nil, Value.category, ite_true, ite_false, if_true, if_false, if_pos, gEl, Option.isSome_some, s_c12, s_p12, s_c16, s_p16, s_c20, s_p20, s_c30, s_p30, s_c60, s_p60, s_c100, s_p100, s_c500, s_p500, s_c61, s_p61, s_c1952, s_p1952, s_c732, s_p732, s_c1830, s_p1830, s_c2000, s_p2000, not_true_eq_false, true_implies, false_implies, implies_true, hq, hj, ho, hcl, g_up_s, g_up_n n1, g_up_n n2, g_up_n (Ne.symm n3)]
  refine pk_on (m_ix (fun i => decide (lj i = x)) s 0) (fun a ha => ?_) (fun hn => pk_lt s 20 (fun hlt => ?_) (fun hge => ?_)) (fun a ha => by have := (m_ix_some _ _ _ ha).2.1; omega)
  · exact hP1 (Or.inl (by rw [ha]; simp))
  · refine ⟨pk_in s 20 hlt, b2i_01 b, pk_in s 20 hlt, ?_⟩
    rw [m_updN, m_updB, nI_1]
    have n1' : q ≠ j := n1
    refine ⟨q, j, o, s + 1, h, va_up lj s x, va_up la s b, rfl, ⟨by rw [g_up_s], by rw [g_up_n (Ne.symm n1), g_up_n n3, g_up_s], by rw [g_up_n (Ne.symm n2), g_up_s]⟩, by omega, by omega, ?_⟩
    have hf := hP2 hn hlt (va_up la s b) rfl _ rfl
    have hle := m_adm_le (va_up la s b) (s + 1) (s + 1 - h) h (by omega)
    generalize m_adm (va_up la s b) (s + 1) (s + 1 - h) h = h' at hf hle ⊢
    simp only [w_aload_0, w_iload_1, w_invokevirtual, w_iconst, w_icmp_ne, w_get, w_bipush, w_icmp_lt, w_iret, w_iast, w_iload_2, w_bast, w_dup, w_iadd, w_put, w_goto, go_L_ask_0, go_L_ask_1, go_L_ask_2, go_L_ask_5, go_L_ask_6, go_L_ask_9, go_L_ask_10, go_L_ask_13, go_L_ask_15, go_L_ask_18, go_L_ask_20, go_L_ask_21, go_L_ask_22, go_L_ask_25, go_L_ask_26, go_L_ask_29, go_L_ask_30, go_L_ask_31, go_L_ask_32, go_L_ask_35, go_L_ask_36, go_L_ask_39, go_L_ask_40, go_L_ask_41, go_L_ask_42, go_L_ask_43, go_L_ask_46, go_L_ask_47, go_L_ask_48, go_L_ask_51, go_L_ask_52, go_L_ask_55, go_L_ask_56, go_L_ask_59, go_L_ask_60, go_L_ask_63, go_L_ask_66, go_L_ask_67, go_L_ask_70, go_L_ask_71, at_L_ask_0, tf_L_ask_9, tf_L_ask_15, tf_L_ask_19, tf_L_ask_23, tc_L_ask_26, tm_L_ask_26, tc_L_ask_30, tm_L_ask_30, s_opt, s_oI, s_oL, s_oA, s_oAN, s_set0, s_set1, s_setn0, s_setn1, s_ok0, s_okn, s_oki, s_okr, s_okN, s_oko, s_oks, s_c1i, s_c1r, s_c1n, s_fi, s_fr, s_fn, s_fl, s_fz, s_rd, s_pt, s_ai, s_lds, s_ldsN, s_al, s_ar, s_cls, s_leni, s_lenz, s_lenr, s_lenN, s_lenl, s_rc0, s_rc1, s_rcv, s_clo, s_clx, s_cln, s_cl1, s_cl2, s_cl3, s_cl4, s_cl5, s_sw1, s_sw2, s_min0, s_min1, s_min2, List.getElem?_cons_zero, List.getElem?_cons_succ, List.take_succ_cons, List.take_zero, List.length_cons, List.length_nil, List.set_cons_zero, List.set_cons_succ, List.cons_append, List.nil_append, Option.toList_some, Option.toList_none, Nat.reduceAdd, Nat.reduceSub, Nat.reduceLeDiff, Nat.reduceLT, Nat.reduceEqDiff, Nat.zero_add, Nat.add_zero, Nat.le_refl, Nat.zero_le, true_and, and_true, true_or, or_true, or_false, false_or, and_self, not_false_eq_true, Nat.one_ne_zero, Nat.zero_ne_one, reduceCtorEq, false_and, and_false, g_ent, lg_sl, List.flatMap_cons, List.flatMap_nil, List.map_cons, List.map_nil, Value.category, ite_true, ite_false, if_true, if_false, if_pos, gEl, Option.isSome_some, s_c12, s_p12, s_c16, s_p16, s_c20, s_p20, s_c30, s_p30, s_c60, s_p60, s_c100, s_p100, s_c500, s_p500, s_c61, s_p61, s_c1952, s_p1952, s_c732, s_p732, s_c1830, s_p1830, s_c2000, s_p2000, not_true_eq_false, true_implies, false_implies, implies_true, g_up_up, g_up_s]
    refine pk_ne h' (s + 1) (fun e => ?_) (fun e => ?_)
    · rw [decide_eq_false e] at hf
      exact hf
    · rw [decide_eq_true e] at hf
      exact hf
  · exact hP1 (Or.inr hge)
def sp_L_drop : gSpec := fun av σ P => ∃ (q j o s h x : Nat) (lj : Nat → Nat) (la : Nat → Bool), av = [.ref q, .int (nI x)] ∧ rLine σ q j o s h lj la ∧ bLine s h lj ∧ x ≤ 20 ∧
  (m_ix (fun i => decide (lj i = x)) s 0 = none → P (some (.int 0)) σ) ∧
  (∀ a, m_ix (fun i => decide (lj i = x)) s 0 = some a → ∀ h1, h1 = (if a < h then h - 1 else h) → ∀ h2, h2 = m_adm (m_sh la a (s - 1)) (s - 1) (s - 1 - h1) h1 → P (some (.int (b2i (decide (a < h))))) (g_up (g_up (g_up σ j (g_ia 0 20 (fun i => nI (m_sh lj a (s - 1) i)))) o (g_ia 1 20 (fun i => b2i (m_sh la a (s - 1) i)))) q (g_ob 4 [.ref j, .ref o, .int (nI (s - 1)), .int (nI h2)])))
def iv_L_drop (σ : gS) (q j o s a x : Nat) (v : Bool) (lj : Nat → Nat) (la : Nat → Bool) : Nat → gK := fun k pc lv st σ' c z => ∃ i, a ≤ i ∧ i + 1 ≤ s ∧ k = s - i ∧ pc = 30 ∧ lv = [some (.ref q), some (.int (nI x)), some (.int (nI a)), some (.int (b2i v)), some (.int (nI i))] ∧ st = [] ∧ σ' = g_up (g_up σ j (g_ia 0 20 (fun t => nI (m_sh lj a i t)))) o (g_ia 1 20 (fun t => b2i (m_sh la a i t))) ∧ c = 0 ∧ z = 0
def T_L_drop : gT := gTT [(9, 4, 0, 1, 2), (15, 4, 1, 1, 2), (19, 4, 2, 0, 1), (23, 4, 3, 0, 1)] [(26, 2, 6, sp_L_placeOf, 0, 0), (30, 1, 6, sp_L_admit, 0, 0)] [] [] [] []
theorem tf_L_drop_9 : (T_L_drop).1 9 = some (4, 0, 1, 2) := rfl
theorem tf_L_drop_15 : (T_L_drop).1 15 = some (4, 1, 1, 2) := rfl
theorem tf_L_drop_19 : (T_L_drop).1 19 = some (4, 2, 0, 1) := rfl
theorem tf_L_drop_23 : (T_L_drop).1 23 = some (4, 3, 0, 1) := rfl
theorem tc_L_drop_26 : (T_L_drop).2.1 26 = some (2, 6, sp_L_placeOf, 0, 0) := rfl
theorem tm_L_drop_26 : (T_L_drop).2.2.2.2.2 26 = none := rfl
theorem tc_L_drop_30 : (T_L_drop).2.1 30 = some (1, 6, sp_L_admit, 0, 0) := rfl
theorem tm_L_drop_30 : (T_L_drop).2.2.2.2.2 30 = none := rfl
theorem t_L_drop (l : Launch) (sc : gX) : g_TOK l sc (gRm 3 0 0) (T_L_drop) gEl "DataSets$Line" gCl gTb gNs gAT gAO := gTT_ok
  (List.forall_mem_cons.mpr ⟨⟨R_L, F_L, 4, t_L 0, rfl, by decide, rfl, by decide +kernel, rfl, by decide, Or.inl ⟨wd299, by decide⟩⟩, List.forall_mem_cons.mpr ⟨⟨R_L, F_L, 4, t_L 1, rfl, by decide, rfl, by decide +kernel, rfl, by decide, Or.inl ⟨wd300, by decide⟩⟩, List.forall_mem_cons.mpr ⟨⟨R_L, F_L, 4, t_L 2, rfl, by decide, rfl, by decide +kernel, rfl, by decide, Or.inl ⟨wd301, by decide⟩⟩, List.forall_mem_cons.mpr ⟨⟨R_L, F_L, 4, t_L 3, rfl, by decide, rfl, by decide +kernel, rfl, by decide, Or.inl ⟨wd303, by decide⟩⟩, fun _ h => absurd h List.not_mem_nil⟩⟩⟩⟩)
  (List.forall_mem_cons.mpr ⟨⟨y_L_placeOf, b_L_placeOf, 3, _, gRm 1 0 0, k_L_placeOf l sc, rfl, rfl, by decide, by decide, wd321, wd32, ⟨by decide, by decide⟩, Or.inl wd318, ⟨by decide +kernel, wd320, R_L, F_L, 4, rfl, wd6⟩⟩, List.forall_mem_cons.mpr ⟨⟨y_L_admit, b_L_admit, 1, _, gRm 2 0 0, k_L_admit l sc, rfl, rfl, by decide, by decide, wd325, wd32, ⟨by decide, by decide⟩, Or.inl wd322, ⟨by decide +kernel, wd324, R_L, F_L, 4, rfl, wd7⟩⟩, fun _ h => absurd h List.not_mem_nil⟩⟩)
  (fun _ h => absurd h List.not_mem_nil)
  (fun _ h => absurd h List.not_mem_nil)
  (fun _ h => absurd h List.not_mem_nil)
  (fun _ h => absurd h List.not_mem_nil)
set_option maxHeartbeats 4000000 in
set_option maxRecDepth 100000 in
theorem k_L_drop (l : Launch) (sc : gX) : g_Met l sc gCl gTb gNs gAT gAO y_L_drop b_L_drop 5 (some .int) (gRm 3 0 0) (sp_L_drop) 0 0 := by
  refine g_meth (T := (T_L_drop)) (el := gEl) (ini := false) (rk := 1) (code := c_L_drop) gG_ok (t_L_drop l sc) (by decide) (by decide) rfl ⟨rfl, rfl, by decide, by decide⟩ ok_L_drop ?_
  intro av σ P hsp
  obtain ⟨q, j, o, s, h, x, lj, la, rfl, hR, hB, hx, hP1, hP2⟩ := hsp
  obtain ⟨hq, hj, ho⟩ := id hR
  obtain ⟨hs, hh, hb⟩ := id hB
  have n1 := g_ne_oi hq hj
  have n2 := g_ne_oi hq ho
  have n3 : j ≠ o := g_ne_ii hj ho (by decide)
  cases hm : m_ix (fun i => decide (lj i = x)) s 0 with
  | none =>
    refine ⟨by simp [lg_sl, Value.category], fun _ _ _ _ _ _ _ => False, ⟨200, ?_⟩, fun _ _ _ _ _ _ _ h => h.elim⟩
    simp only [w_aload_0, w_iload_1, w_invokevirtual, w_istore_2, w_iload_2, w_iconst, w_icmp_ne, w_iret, w_get, w_icmp_ge, w_goto, w_istore_3, w_istore, w_iload, w_iadd, w_iald, w_iast, w_bald, w_bast, w_iinc, w_dup, w_isub, w_put, w_iload_3, go_L_drop_0, go_L_drop_1, go_L_drop_2, go_L_drop_5, go_L_drop_6, go_L_drop_7, go_L_drop_8, go_L_drop_11, go_L_drop_12, go_L_drop_13, go_L_drop_14, go_L_drop_15, go_L_drop_18, go_L_drop_21, go_L_drop_22, go_L_drop_25, go_L_drop_26, go_L_drop_27, go_L_drop_28, go_L_drop_30, go_L_drop_32, go_L_drop_33, go_L_drop_34, go_L_drop_35, go_L_drop_38, go_L_drop_41, go_L_drop_42, go_L_drop_45, go_L_drop_47, go_L_drop_48, go_L_drop_51, go_L_drop_53, go_L_drop_54, go_L_drop_55, go_L_drop_56, go_L_drop_57, go_L_drop_58, go_L_drop_61, go_L_drop_63, go_L_drop_64, go_L_drop_67, go_L_drop_69, go_L_drop_70, go_L_drop_71, go_L_drop_72, go_L_drop_73, go_L_drop_76, go_L_drop_79, go_L_drop_80, go_L_drop_81, go_L_drop_84, go_L_drop_85, go_L_drop_86, go_L_drop_89, go_L_drop_90, go_L_drop_91, go_L_drop_94, go_L_drop_95, go_L_drop_96, go_L_drop_99, go_L_drop_100, go_L_drop_103, go_L_drop_104, at_L_drop_0, at_L_drop_30, tf_L_drop_9, tf_L_drop_15, tf_L_drop_19, tf_L_drop_23, tc_L_drop_26, tm_L_drop_26, tc_L_drop_30, tm_L_drop_30, s_opt, s_oI, s_oL, s_oA, s_oAN, s_set0, s_set1, s_setn0, s_setn1, s_ok0, s_okn, s_oki, s_okr, s_okN, s_oko, s_oks, s_c1i, s_c1r, s_c1n, s_fi, s_fr, s_fn, s_fl, s_fz, s_rd, s_pt, s_ai, s_lds, s_ldsN, s_al, s_ar, s_cls, s_leni, s_lenz, s_lenr, s_lenN, s_lenl, s_rc0, s_rc1, s_rcv, s_clo, s_clx, s_cln, s_cl1, s_cl2, s_cl3, s_cl4, s_cl5, s_sw1, s_sw2, s_min0, s_min1, s_min2, List.getElem?_cons_zero, List.getElem?_cons_succ, List.take_succ_cons, List.take_zero, List.length_cons, List.length_nil, List.set_cons_zero, List.set_cons_succ, List.cons_append, List.nil_append, Option.toList_some, Option.toList_none, Nat.reduceAdd, Nat.reduceSub, Nat.reduceLeDiff, Nat.reduceLT, Nat.reduceEqDiff, Nat.zero_add, Nat.add_zero, Nat.le_refl, Nat.zero_le, true_and, and_true, true_or, or_true, or_false, false_or, and_self, not_false_eq_true, Nat.one_ne_zero, Nat.zero_ne_one, reduceCtorEq, false_and, and_false, g_ent, lg_sl, List.flatMap_cons, List.flatMap_nil, List.map_cons, List.map_nil, Value.category, ite_true, ite_false, if_true, if_false, if_pos, gEl, Option.isSome_some, s_c12, s_p12, s_c16, s_p16, s_c20, s_p20, s_c30, s_p30, s_c60, s_p60, s_c100, s_p100, s_c500, s_p500, s_c61, s_p61, s_c1952, s_p1952, s_c732, s_p732, s_c1830, s_p1830, s_c2000, s_p2000, not_true_eq_false, true_implies, false_implies, implies_true, hq]
    refine ⟨q, j, o, s, h, x, lj, la, rfl, hR, hB, hx, ?_⟩
    rw [hm]
    simp only [w_aload_0, w_iload_1, w_invokevirtual, w_istore_2, w_iload_2, w_iconst, w_icmp_ne, w_iret, w_get, w_icmp_ge, w_goto, w_istore_3, w_istore, w_iload, w_iadd, w_iald, w_iast, w_bald, w_bast, w_iinc, w_dup, w_isub, w_put, w_iload_3, go_L_drop_0, go_L_drop_1, go_L_drop_2, go_L_drop_5, go_L_drop_6, go_L_drop_7, go_L_drop_8, go_L_drop_11, go_L_drop_12, go_L_drop_13, go_L_drop_14, go_L_drop_15, go_L_drop_18, go_L_drop_21, go_L_drop_22, go_L_drop_25, go_L_drop_26, go_L_drop_27, go_L_drop_28, go_L_drop_30, go_L_drop_32, go_L_drop_33, go_L_drop_34, go_L_drop_35, go_L_drop_38, go_L_drop_41, go_L_drop_42, go_L_drop_45, go_L_drop_47, go_L_drop_48, go_L_drop_51, go_L_drop_53, go_L_drop_54, go_L_drop_55, go_L_drop_56, go_L_drop_57, go_L_drop_58, go_L_drop_61, go_L_drop_63, go_L_drop_64, go_L_drop_67, go_L_drop_69, go_L_drop_70, go_L_drop_71, go_L_drop_72, go_L_drop_73, go_L_drop_76, go_L_drop_79, go_L_drop_80, go_L_drop_81, go_L_drop_84, go_L_drop_85, go_L_drop_86, go_L_drop_89, go_L_drop_90, go_L_drop_91, go_L_drop_94, go_L_drop_95, go_L_drop_96, go_L_drop_99, go_L_drop_100, go_L_drop_103, go_L_drop_104, at_L_drop_0, at_L_drop_30, tf_L_drop_9, tf_L_drop_15, tf_L_drop_19, tf_L_drop_23, tc_L_drop_26, tm_L_drop_26, tc_L_drop_30, tm_L_drop_30, s_opt, s_oI, s_oL, s_oA, s_oAN, s_set0, s_set1, s_setn0, s_setn1, s_ok0, s_okn, s_oki, s_okr, s_okN, s_oko, s_oks, s_c1i, s_c1r, s_c1n, s_fi, s_fr, s_fn, s_fl, s_fz, s_rd, s_pt, s_ai, s_lds, s_ldsN, s_al, s_ar, s_cls, s_leni, s_lenz, s_lenr, s_lenN, s_lenl, s_rc0, s_rc1, s_rcv, s_clo, s_clx, s_cln, s_cl1, s_cl2, s_cl3, s_cl4, s_cl5, s_sw1, s_sw2, s_min0, s_min1, s_min2, List.getElem?_cons_zero, List.getElem?_cons_succ, List.take_succ_cons, List.take_zero, List.length_cons, List.length_nil, List.set_cons_zero, List.set_cons_succ, List.cons_append, List.nil_append, Option.toList_some, Option.toList_none, Nat.reduceAdd, Nat.reduceSub, Nat.reduceLeDiff, Nat.reduceLT, Nat.reduceEqDiff, Nat.zero_add, Nat.add_zero, Nat.le_refl, Nat.zero_le, true_and, and_true, true_or, or_true, or_false, false_or, and_self, not_false_eq_true, Nat.one_ne_zero, Nat.zero_ne_one, reduceCtorEq, false_and, and_false, g_ent, lg_sl, List.flatMap_cons, List.flatMap_nil, List.map_cons, List.map_nil, Value.category, ite_true, ite_false, if_true, if_false, if_pos, gEl, Option.isSome_some, s_c12, s_p12, s_c16, s_p16, s_c20, s_p20, s_c30, s_p30, s_c60, s_p60, s_c100, s_p100, s_c500, s_p500, s_c61, s_p61, s_c1952, s_p1952, s_c732, s_p732, s_c1830, s_p1830, s_c2000, s_p2000, not_true_eq_false, true_implies, false_implies, implies_true, hq]
    exact ⟨fun z => absurd rfl z, fun _ => hP1 hm⟩
  | some a =>
    have ha := (m_ix_some _ _ _ hm).2.1
    have hoi : oI (some a) = nI a := rfl
    refine ⟨by simp [lg_sl, Value.category], iv_L_drop σ q j o s a x (decide (a < h)) lj la, ⟨200, ?_⟩, ?_⟩
    · simp only [w_aload_0, w_iload_1, w_invokevirtual, w_istore_2, w_iload_2, w_iconst, w_icmp_ne, w_iret, w_get, w_icmp_ge, w_goto, w_istore_3, w_istore, w_iload, w_iadd, w_iald, w_iast, w_bald, w_bast, w_iinc, w_dup, w_isub, w_put, w_iload_3, go_L_drop_0, go_L_drop_1, go_L_drop_2, go_L_drop_5, go_L_drop_6, go_L_drop_7, go_L_drop_8, go_L_drop_11, go_L_drop_12, go_L_drop_13, go_L_drop_14, go_L_drop_15, go_L_drop_18, go_L_drop_21, go_L_drop_22, go_L_drop_25, go_L_drop_26, go_L_drop_27, go_L_drop_28, go_L_drop_30, go_L_drop_32, go_L_drop_33, go_L_drop_34, go_L_drop_35, go_L_drop_38, go_L_drop_41, go_L_drop_42, go_L_drop_45, go_L_drop_47, go_L_drop_48, go_L_drop_51, go_L_drop_53, go_L_drop_54, go_L_drop_55, go_L_drop_56, go_L_drop_57, go_L_drop_58, go_L_drop_61, go_L_drop_63, go_L_drop_64, go_L_drop_67, go_L_drop_69, go_L_drop_70, go_L_drop_71, go_L_drop_72, go_L_drop_73, go_L_drop_76, go_L_drop_79, go_L_drop_80, go_L_drop_81, go_L_drop_84, go_L_drop_85, go_L_drop_86, go_L_drop_89, go_L_drop_90, go_L_drop_91, go_L_drop_94, go_L_drop_95, go_L_drop_96, go_L_drop_99, go_L_drop_100, go_L_drop_103, go_L_drop_104, at_L_drop_0, at_L_drop_30, tf_L_drop_9, tf_L_drop_15, tf_L_drop_19, tf_L_drop_23, tc_L_drop_26, tm_L_drop_26, tc_L_drop_30, tm_L_drop_30, s_opt, s_oI, s_oL, s_oA, s_oAN, s_set0, s_set1, s_setn0, s_setn1, s_ok0, s_okn, s_oki, s_okr, s_okN, s_oko, s_oks, s_c1i, s_c1r, s_c1n, s_fi, s_fr, s_fn, s_fl, s_fz, s_rd, s_pt, s_ai, s_lds, s_ldsN, s_al, s_ar, s_cls, s_leni, s_lenz, s_lenr, s_lenN, s_lenl, s_rc0, s_rc1, s_rcv, s_clo, s_clx, s_cln, s_cl1, s_cl2, s_cl3, s_cl4, s_cl5, s_sw1, s_sw2, s_min0, s_min1, s_min2, List.getElem?_cons_zero, List.getElem?_cons_succ, List.take_succ_cons, List.take_zero, List.length_cons, List.length_nil, List.set_cons_zero, List.set_cons_succ, List.cons_append, List.nil_append, Option.toList_some, Option.toList_none, Nat.reduceAdd, Nat.reduceSub, Nat.reduceLeDiff, Nat.reduceLT, Nat.reduceEqDiff, Nat.zero_add, Nat.add_zero, Nat.le_refl, Nat.zero_le, true_and, and_true, true_or, or_true, or_false, false_or, and_self, not_false_eq_true, Nat.one_ne_zero, Nat.zero_ne_one, reduceCtorEq, false_and, and_false, g_ent, lg_sl, List.flatMap_cons, List.flatMap_nil, List.map_cons, List.map_nil, Value.category, ite_true, ite_false, if_true, if_false, if_pos, gEl, Option.isSome_some, s_c12, s_p12, s_c16, s_p16, s_c20, s_p20, s_c30, s_p30, s_c60, s_p60, s_c100, s_p100, s_c500, s_p500, s_c61, s_p61, s_c1952, s_p1952, s_c732, s_p732, s_c1830, s_p1830, s_c2000, s_p2000, not_true_eq_false, true_implies, false_implies, implies_true, hq]
      refine ⟨q, j, o, s, h, x, lj, la, rfl, hR, hB, hx, ?_⟩
      rw [hm]
      simp only [w_aload_0, w_iload_1, w_invokevirtual, w_istore_2, w_iload_2, w_iconst, w_icmp_ne, w_iret, w_get, w_icmp_ge, w_goto, w_istore_3, w_istore, w_iload, w_iadd, w_iald, w_iast, w_bald, w_bast, w_iinc, w_dup, w_isub, w_put, w_iload_3, go_L_drop_0, go_L_drop_1, go_L_drop_2, go_L_drop_5, go_L_drop_6, go_L_drop_7, go_L_drop_8, go_L_drop_11, go_L_drop_12, go_L_drop_13, go_L_drop_14, go_L_drop_15, go_L_drop_18, go_L_drop_21, go_L_drop_22, go_L_drop_25, go_L_drop_26, go_L_drop_27, go_L_drop_28, go_L_drop_30, go_L_drop_32, go_L_drop_33, go_L_drop_34, go_L_drop_35, go_L_drop_38, go_L_drop_41, go_L_drop_42, go_L_drop_45, go_L_drop_47, go_L_drop_48, go_L_drop_51, go_L_drop_53, go_L_drop_54, go_L_drop_55, go_L_drop_56, go_L_drop_57, go_L_drop_58, go_L_drop_61, go_L_drop_63, go_L_drop_64, go_L_drop_67, go_L_drop_69, go_L_drop_70, go_L_drop_71, go_L_drop_72, go_L_drop_73, go_L_drop_76, go_L_drop_79, go_L_drop_80, go_L_drop_81, go_L_drop_84, go_L_drop_85, go_L_drop_86, go_L_drop_89, go_L_drop_90, go_L_drop_91, go_L_drop_94, go_L_drop_95, go_L_drop_96, go_L_drop_99, go_L_drop_100, go_L_drop_103, go_L_drop_104, at_L_drop_0, at_L_drop_30, tf_L_drop_9, tf_L_drop_15, tf_L_drop_19, tf_L_drop_23, tc_L_drop_26, tm_L_drop_26, tc_L_drop_30, tm_L_drop_30, s_opt, s_oI, s_oL, s_oA, s_oAN, s_set0, s_set1, s_setn0, s_setn1, s_ok0, s_okn, s_oki, s_okr, s_okN, s_oko, s_oks, s_c1i, s_c1r, s_c1n, s_fi, s_fr, s_fn, s_fl, s_fz, s_rd, s_pt, s_ai, s_lds, s_ldsN, s_al, s_ar, s_cls, s_leni, s_lenz, s_lenr, s_lenN, s_lenl, s_rc0, s_rc1, s_rcv, s_clo, s_clx, s_cln, s_cl1, s_cl2, s_cl3, s_cl4, s_cl5, s_sw1, s_sw2, s_min0, s_min1, s_min2, List.getElem?_cons_zero, List.getElem?_cons_succ, List.take_succ_cons, List.take_zero, List.length_cons, List.length_nil, List.set_cons_zero, List.set_cons_succ, List.cons_append, List.nil_append, Option.toList_some, Option.toList_none, Nat.reduceAdd, Nat.reduceSub, Nat.reduceLeDiff, Nat.reduceLT, Nat.reduceEqDiff, Nat.zero_add, Nat.add_zero, Nat.le_refl, Nat.zero_le, true_and, and_true, true_or, or_true, or_false, false_or, and_self, not_false_eq_true, Nat.one_ne_zero, Nat.zero_ne_one, reduceCtorEq, false_and, and_false, g_ent, lg_sl, List.flatMap_cons, List.flatMap_nil, List.map_cons, List.map_nil, Value.category, ite_true, ite_false, if_true, if_false, if_pos, gEl, Option.isSome_some, s_c12, s_p12, s_c16, s_p16, s_c20, s_p20, s_c30, s_p30, s_c60, s_p60, s_c100, s_p100, s_c500, s_p500, s_c61, s_p61, s_c1952, s_p1952, s_c732, s_p732, s_c1830, s_p1830, s_c2000, s_p2000, not_true_eq_false, true_implies, false_implies, implies_true, hq, hoi]
      have st0 : σ = g_up (g_up σ j (g_ia 0 20 (fun t => nI (m_sh lj a a t)))) o (g_ia 1 20 (fun t => b2i (m_sh la a a t))) := by
        rw [m_sh_0, m_sh_0, g_up_same hj, g_up_same ho]
      refine ⟨fun _ => pk_le h a (fun hle => ?_) (fun hlt => ?_), fun z => absurd (oI_ne (by omega)) z⟩
      · refine ⟨s - a, a, Nat.le_refl _, by omega, rfl, rfl, ?_, rfl, st0, rfl, rfl⟩
        rw [decide_eq_false (by omega)]; rfl
      · refine ⟨s - a, a, Nat.le_refl _, by omega, rfl, rfl, ?_, rfl, st0, rfl, rfl⟩
        rw [decide_eq_true (by omega)]; rfl
    · rintro k pc lv st σ' c z ⟨i, hai, hi, rfl, rfl, rfl, rfl, rfl, rfl, rfl⟩
      refine ⟨200, ?_⟩
      have hcl : (nI i).toNatClampNeg = i := pk_cl i
      have hcl2 : (nI i + 1).toNatClampNeg = i + 1 := by rw [nI_1]; exact pk_cl (i + 1)
      simp only [w_aload_0, w_iload_1, w_invokevirtual, w_istore_2, w_iload_2, w_iconst, w_icmp_ne, w_iret, w_get, w_icmp_ge, w_goto, w_istore_3, w_istore, w_iload, w_iadd, w_iald, w_iast, w_bald, w_bast, w_iinc, w_dup, w_isub, w_put, w_iload_3, go_L_drop_0, go_L_drop_1, go_L_drop_2, go_L_drop_5, go_L_drop_6, go_L_drop_7, go_L_drop_8, go_L_drop_11, go_L_drop_12, go_L_drop_13, go_L_drop_14, go_L_drop_15, go_L_drop_18, go_L_drop_21, go_L_drop_22, go_L_drop_25, go_L_drop_26, go_L_drop_27, go_L_drop_28, go_L_drop_30, go_L_drop_32, go_L_drop_33, go_L_drop_34, go_L_drop_35, go_L_drop_38, go_L_drop_41, go_L_drop_42, go_L_drop_45, go_L_drop_47, go_L_drop_48, go_L_drop_51, go_L_drop_53, go_L_drop_54, go_L_drop_55, go_L_drop_56, go_L_drop_57, go_L_drop_58, go_L_drop_61, go_L_drop_63, go_L_drop_64, go_L_drop_67, go_L_drop_69, go_L_drop_70, go_L_drop_71, go_L_drop_72, go_L_drop_73, go_L_drop_76, go_L_drop_79, go_L_drop_80, go_L_drop_81, go_L_drop_84, go_L_drop_85, go_L_drop_86, go_L_drop_89, go_L_drop_90, go_L_drop_91, go_L_drop_94, go_L_drop_95, go_L_drop_96, go_L_drop_99, go_L_drop_100, go_L_drop_103, go_L_drop_104, at_L_drop_0, at_L_drop_30, tf_L_drop_9, tf_L_drop_15, tf_L_drop_19, tf_L_drop_23, tc_L_drop_26, tm_L_drop_26, tc_L_drop_30, tm_L_drop_30, s_opt, s_oI, s_oL, s_oA, s_oAN, s_set0, s_set1, s_setn0, s_setn1, s_ok0, s_okn, s_oki, s_okr, s_okN, s_oko, s_oks, s_c1i, s_c1r, s_c1n, s_fi, s_fr, s_fn, s_fl, s_fz, s_rd, s_pt, s_ai, s_lds, s_ldsN, s_al, s_ar, s_cls, s_leni, s_lenz, s_lenr, s_lenN, s_lenl, s_rc0, s_rc1, s_rcv, s_clo, s_clx, s_cln, s_cl1, s_cl2, s_cl3, s_cl4, s_cl5, s_sw1, s_sw2, s_min0, s_min1, s_min2, List.getElem?_cons_zero, List.getElem?_cons_succ, List.take_succ_cons, List.take_zero, List.length_cons, List.length_nil, List.set_cons_zero, List.set_cons_succ, List.cons_append, List.nil_append, Option.toList_some, Option.toList_none, Nat.reduceAdd, Nat.reduceSub, Nat.reduceLeDiff, Nat.reduceLT, Nat.reduceEqDiff, Nat.zero_add, Nat.add_zero, Nat.le_refl, Nat.zero_le, true_and, and_true, true_or, or_true, or_false, false_or, and_self, not_false_eq_true, Nat.one_ne_zero, Nat.zero_ne_one, reduceCtorEq, false_and, and_false, g_ent, lg_sl, List.flatMap_cons, List.flatMap_nil, List.map_cons, List.map_nil, Value.category, ite_true, ite_false, if_true, if_false, if_pos, gEl, Option.isSome_some, s_c12, s_p12, s_c16, s_p16, s_c20, s_p20, s_c30, s_p30, s_c60, s_p60, s_c100, s_p100, s_c500, s_p500, s_c61, s_p61, s_c1952, s_p1952, s_c732, s_p732, s_c1830, s_p1830, s_c2000, s_p2000, not_true_eq_false, true_implies, false_implies, implies_true, hq, hj, ho, hcl, hcl2, g_up_s, g_up_n n1, g_up_n n2, g_up_n n3, g_up_n (Ne.symm n3), g_up_n (Ne.symm n1), g_up_n (Ne.symm n2)]
      refine pk_le s (i + 1) (fun hle => ?_) (fun hlt => ?_) rfl (nI_1 i)
      · have e1 : s - 1 = i := by omega
        have e2 : nI s - 1 = nI (s - 1) := pk_sub (a := s) (b := 1) (by omega)
        have hh1 : nI h - b2i (decide (a < h)) = nI (if a < h then h - 1 else h) := by
          by_cases hah : a < h
          · rw [decide_eq_true hah, if_pos hah]
            exact pk_sub (a := h) (b := 1) (by omega)
          · rw [decide_eq_false hah, if_neg hah]
            exact pk_sub (a := h) (b := 0) (by omega)
        have hf := hP2 a hm _ rfl _ rfl
        have hb1 : (if a < h then h - 1 else h) ≤ s - 1 := by split <;> omega
        rw [hh1, e2]
        generalize (if a < h then h - 1 else h) = h1 at hf hb1 ⊢
        refine ⟨q, j, o, s - 1, h1, m_sh lj a i, m_sh la a i, rfl, ⟨by rw [g_up_s], by rw [g_up_n (Ne.symm n1), g_up_n (Ne.symm n1), g_up_n n3, g_up_s], by rw [g_up_n (Ne.symm n2), g_up_n (Ne.symm n2), g_up_s]⟩, by omega, hb1, ?_⟩
        rw [e1] at hf ⊢
        simp only [w_aload_0, w_iload_1, w_invokevirtual, w_istore_2, w_iload_2, w_iconst, w_icmp_ne, w_iret, w_get, w_icmp_ge, w_goto, w_istore_3, w_istore, w_iload, w_iadd, w_iald, w_iast, w_bald, w_bast, w_iinc, w_dup, w_isub, w_put, w_iload_3, go_L_drop_0, go_L_drop_1, go_L_drop_2, go_L_drop_5, go_L_drop_6, go_L_drop_7, go_L_drop_8, go_L_drop_11, go_L_drop_12, go_L_drop_13, go_L_drop_14, go_L_drop_15, go_L_drop_18, go_L_drop_21, go_L_drop_22, go_L_drop_25, go_L_drop_26, go_L_drop_27, go_L_drop_28, go_L_drop_30, go_L_drop_32, go_L_drop_33, go_L_drop_34, go_L_drop_35, go_L_drop_38, go_L_drop_41, go_L_drop_42, go_L_drop_45, go_L_drop_47, go_L_drop_48, go_L_drop_51, go_L_drop_53, go_L_drop_54, go_L_drop_55, go_L_drop_56, go_L_drop_57, go_L_drop_58, go_L_drop_61, go_L_drop_63, go_L_drop_64, go_L_drop_67, go_L_drop_69, go_L_drop_70, go_L_drop_71, go_L_drop_72, go_L_drop_73, go_L_drop_76, go_L_drop_79, go_L_drop_80, go_L_drop_81, go_L_drop_84, go_L_drop_85, go_L_drop_86, go_L_drop_89, go_L_drop_90, go_L_drop_91, go_L_drop_94, go_L_drop_95, go_L_drop_96, go_L_drop_99, go_L_drop_100, go_L_drop_103, go_L_drop_104, at_L_drop_0, at_L_drop_30, tf_L_drop_9, tf_L_drop_15, tf_L_drop_19, tf_L_drop_23, tc_L_drop_26, tm_L_drop_26, tc_L_drop_30, tm_L_drop_30, s_opt, s_oI, s_oL, s_oA, s_oAN, s_set0, s_set1, s_setn0, s_setn1, s_ok0, s_okn, s_oki, s_okr, s_okN, s_oko, s_oks, s_c1i, s_c1r, s_c1n, s_fi, s_fr, s_fn, s_fl, s_fz, s_rd, s_pt, s_ai, s_lds, s_ldsN, s_al, s_ar, s_cls, s_leni, s_lenz, s_lenr, s_lenN, s_lenl, s_rc0, s_rc1, s_rcv, s_clo, s_clx, s_cln, s_cl1, s_cl2, s_cl3, s_cl4, s_cl5, s_sw1, s_sw2, s_min0, s_min1, s_min2, List.getElem?_cons_zero, List.getElem?_cons_succ, List.take_succ_cons, List.take_zero, List.length_cons, List.length_nil, List.set_cons_zero, List.set_cons_succ, List.cons_append, List.nil_append, Option.toList_some, Option.toList_none, Nat.reduceAdd, Nat.reduceSub, Nat.reduceLeDiff, Nat.reduceLT, Nat.reduceEqDiff, Nat.zero_add, Nat.add_zero, Nat.le_refl, Nat.zero_le, true_and, and_true, true_or, or_true, or_false, false_or, and_self, not_false_eq_true, Nat.one_ne_zero, Nat.zero_ne_one, reduceCtorEq, false_and, and_false, g_ent, lg_sl, List.flatMap_cons, List.flatMap_nil, List.map_cons, List.map_nil, Value.category, ite_true, ite_false, if_true, if_false, if_pos, gEl, Option.isSome_some, s_c12, s_p12, s_c16, s_p16, s_c20, s_p20, s_c30, s_p30, s_c60, s_p60, s_c100, s_p100, s_c500, s_p500, s_c61, s_p61, s_c1952, s_p1952, s_c732, s_p732, s_c1830, s_p1830, s_c2000, s_p2000, not_true_eq_false, true_implies, false_implies, implies_true, g_up_up]
        exact hf
      · have q1 : vp_in (nI i) 20 := pk_in i 20 (by omega)
        have q2 : vp_in (nI i + 1) 20 := by rw [nI_1]; exact pk_in (i + 1) 20 (by omega)
        refine ⟨q2, q1, q2, b2i_01 _, q1, s - (i + 1), by omega, i + 1, by omega, by omega, rfl, rfl, by rw [nI_1], rfl, ?_, rfl, rfl⟩
        rw [g_up2 n3, m_sh_at hai, m_sh_at hai, m_updN, m_updB, m_sh_s hai, m_sh_s hai]
