/-- extents: the object, its two arrays; how many; first tracks and lengths -/
def rExt (σ : gS) (e ef el c : Nat) (xf xl : Nat → Nat) : Prop := σ e = some (g_ob 3 [.ref ef, .ref el, .int (nI c)]) ∧ σ ef = some (g_ia 0 16 (fun j => nI (xf j))) ∧ σ el = some (g_ia 0 16 (fun j => nI (xl j))) ∧ ef ≠ el
def bExt (c : Nat) (xf xl : Nat → Nat) : Prop := c ≤ 16 ∧ ∀ j, j < c → xf j ≤ 500 ∧ xl j ≤ 500
def sp_E_init : gSpec := fun av σ P => ∃ (e : Nat), av = [.ref e] ∧ σ e = some (g_ob 3 [.null, .null, .int 0]) ∧ ∀ q1 q2, σ q1 = none → σ q2 = none → q1 ≠ q2 → P none (g_up (g_up (g_up σ q1 (g_ia 0 16 (fun _ => nI 0))) q2 (g_ia 0 16 (fun _ => nI 0))) e (g_ob 3 [.ref q1, .ref q2, .int (nI 0)]))
def T_E_init : gT := gTT [(9, 3, 0, 1, 2), (15, 3, 1, 1, 2), (18, 3, 2, 0, 1)] [] [] [] [] [(3, 0)]
theorem tf_E_init_9 : (T_E_init).1 9 = some (3, 0, 1, 2) := rfl
theorem tf_E_init_15 : (T_E_init).1 15 = some (3, 1, 1, 2) := rfl
theorem tf_E_init_18 : (T_E_init).1 18 = some (3, 2, 0, 1) := rfl
theorem tm_E_init_3 : (T_E_init).2.2.2.2.2 3 = some 0 := rfl
theorem t_E_init (l : Launch) (sc : gX) : g_TOK l sc (gRm 1 2 32) (T_E_init) gEl "DataSets$Extents" gCl gTb gNs gAT gAO := gTT_ok
  (List.forall_mem_cons.mpr ⟨⟨R_E, F_E, 3, t_E 0, rfl, by decide, rfl, by decide +kernel, rfl, by decide, Or.inl ⟨wd102, by decide⟩⟩, List.forall_mem_cons.mpr ⟨⟨R_E, F_E, 3, t_E 1, rfl, by decide, rfl, by decide +kernel, rfl, by decide, Or.inl ⟨wd104, by decide⟩⟩, List.forall_mem_cons.mpr ⟨⟨R_E, F_E, 3, t_E 2, rfl, by decide, rfl, by decide +kernel, rfl, by decide, Or.inl ⟨wd106, by decide⟩⟩, fun _ h => absurd h List.not_mem_nil⟩⟩⟩)
  (fun _ h => absurd h List.not_mem_nil)
  (fun _ h => absurd h List.not_mem_nil)
  (fun _ h => absurd h List.not_mem_nil)
  (fun _ h => absurd h List.not_mem_nil)
  (List.forall_mem_cons.mpr ⟨⟨fun _ => ⟨wd101, wd39, gTb_in 40 (by decide +kernel) rfl⟩, (fun h => by cases h), (fun h => by cases h)⟩, fun _ h => absurd h List.not_mem_nil⟩)
set_option maxHeartbeats 4000000 in
set_option maxRecDepth 100000 in
theorem k_E_init (l : Launch) (sc : gX) : g_Met l sc gCl gTb gNs gAT gAO y_E_init b_E_init 1 none (gRm 1 2 32) (sp_E_init) 2 32 := by
  refine g_meth (T := (T_E_init)) (el := gEl) (ini := true) (rk := 0) (code := c_E_init) gG_ok (t_E_init l sc) (by decide) (by decide) rfl ⟨rfl, rfl, by decide, by decide⟩ ok_E_init ?_
  intro av σ P hsp
  obtain ⟨e, rfl, he, hP⟩ := hsp
  refine ⟨by simp [lg_sl, Value.category], fun _ _ _ _ _ _ _ => False, ⟨200, ?_⟩, fun _ _ _ _ _ _ _ h => h.elim⟩
  simp only [w_aload_0, w_invokespecial, w_bipush, w_newa_int, w_put, w_iconst, w_ret, go_E_init_0, go_E_init_1, go_E_init_4, go_E_init_5, go_E_init_7, go_E_init_9, go_E_init_12, go_E_init_13, go_E_init_15, go_E_init_17, go_E_init_20, go_E_init_21, go_E_init_22, go_E_init_25, at_E_init_0, tf_E_init_9, tf_E_init_15, tf_E_init_18, tm_E_init_3, s_opt, s_oI, s_oL, s_oA, s_oAN, s_set0, s_set1, s_setn0, s_setn1, s_ok0, s_okn, s_oki, s_okr, s_okN, s_oko, s_oks, s_c1i, s_c1r, s_c1n, s_fi, s_fr, s_fn, s_fl, s_fz, s_rd, s_pt, s_ai, s_lds, s_ldsN, s_al, s_ar, s_cls, s_leni, s_lenz, s_lenr, s_lenN, s_lenl, s_rc0, s_rc1, s_rcv, s_clo, s_clx, s_cln, s_cl1, s_cl2, s_cl3, s_cl4, s_cl5, s_sw1, s_sw2, s_min0, s_min1, s_min2, List.getElem?_cons_zero, List.getElem?_cons_succ, List.take_succ_cons, List.take_zero, List.length_cons, List.length_nil, List.set_cons_zero, List.set_cons_succ, List.cons_append, List.nil_append, Option.toList_some, Option.toList_none, Nat.reduceAdd, Nat.reduceSub, Nat.reduceLeDiff, Nat.reduceLT, Nat.reduceEqDiff, Nat.zero_add, Nat.add_zero, Nat.le_refl, Nat.zero_le, true_and, and_true, true_or, or_true, or_false, false_or, and_self, not_false_eq_true, Nat.one_ne_zero, Nat.zero_ne_one, reduceCtorEq, false_and, and_false, g_ent, lg_sl, List.flatMap_cons, List.flatMap_nil, List.map_cons, List.map_nil, Value.category, ite_true, ite_false, if_true, if_false, if_pos, gEl, Option.isSome_some, s_c12, s_p12, s_c16, s_p16, s_c20, s_p20, s_c30, s_p30, s_c60, s_p60, s_c100, s_p100, s_c500, s_p500, s_c61, s_p61, s_c1952, s_p1952, s_c732, s_p732, s_c1830, s_p1830, s_c2000, s_p2000, not_true_eq_false, true_implies, false_implies, implies_true, he]
  refine fun q1 h1 => ?_
  have n1 := g_ne_new he h1
  simp only [w_aload_0, w_invokespecial, w_bipush, w_newa_int, w_put, w_iconst, w_ret, go_E_init_0, go_E_init_1, go_E_init_4, go_E_init_5, go_E_init_7, go_E_init_9, go_E_init_12, go_E_init_13, go_E_init_15, go_E_init_17, go_E_init_20, go_E_init_21, go_E_init_22, go_E_init_25, at_E_init_0, tf_E_init_9, tf_E_init_15, tf_E_init_18, tm_E_init_3, s_opt, s_oI, s_oL, s_oA, s_oAN, s_set0, s_set1, s_setn0, s_setn1, s_ok0, s_okn, s_oki, s_okr, s_okN, s_oko, s_oks, s_c1i, s_c1r, s_c1n, s_fi, s_fr, s_fn, s_fl, s_fz, s_rd, s_pt, s_ai, s_lds, s_ldsN, s_al, s_ar, s_cls, s_leni, s_lenz, s_lenr, s_lenN, s_lenl, s_rc0, s_rc1, s_rcv, s_clo, s_clx, s_cln, s_cl1, s_cl2, s_cl3, s_cl4, s_cl5, s_sw1, s_sw2, s_min0, s_min1, s_min2, List.getElem?_cons_zero, List.getElem?_cons_succ, List.take_succ_cons, List.take_zero, List.length_cons, List.length_nil, List.set_cons_zero, List.set_cons_succ, List.cons_append, List.nil_append, Option.toList_some, Option.toList_none, Nat.reduceAdd, Nat.reduceSub, Nat.reduceLeDiff, Nat.reduceLT, Nat.reduceEqDiff, Nat.zero_add, Nat.add_zero, Nat.le_refl, Nat.zero_le, true_and, and_true, true_or, or_true, or_false, false_or, and_self, not_false_eq_true, Nat.one_ne_zero, Nat.zero_ne_one, reduceCtorEq, false_and, and_false, g_ent, lg_sl, List.flatMap_cons, List.flatMap_nil, List.map_cons, List.map_nil, Value.category, ite_true, ite_false, if_true, if_false, if_pos, gEl, Option.isSome_some, s_c12, s_p12, s_c16, s_p16, s_c20, s_p20, s_c30, s_p30, s_c60, s_p60, s_c100, s_p100, s_c500, s_p500, s_c61, s_p61, s_c1952, s_p1952, s_c732, s_p732, s_c1830, s_p1830, s_c2000, s_p2000, not_true_eq_false, true_implies, false_implies, implies_true, he, g_up_n n1]
  refine fun q2 h2 => ?_
  have n3 : e ≠ q2 := fun z => by rw [← z, g_up_s] at h2; cases h2
  rw [g_up_n (Ne.symm n3)] at h2
  have n2 : q2 ≠ q1 := fun z => by rw [z, g_up_s] at h2; cases h2
  rw [g_up_n n2] at h2
  simp only [w_aload_0, w_invokespecial, w_bipush, w_newa_int, w_put, w_iconst, w_ret, go_E_init_0, go_E_init_1, go_E_init_4, go_E_init_5, go_E_init_7, go_E_init_9, go_E_init_12, go_E_init_13, go_E_init_15, go_E_init_17, go_E_init_20, go_E_init_21, go_E_init_22, go_E_init_25, at_E_init_0, tf_E_init_9, tf_E_init_15, tf_E_init_18, tm_E_init_3, s_opt, s_oI, s_oL, s_oA, s_oAN, s_set0, s_set1, s_setn0, s_setn1, s_ok0, s_okn, s_oki, s_okr, s_okN, s_oko, s_oks, s_c1i, s_c1r, s_c1n, s_fi, s_fr, s_fn, s_fl, s_fz, s_rd, s_pt, s_ai, s_lds, s_ldsN, s_al, s_ar, s_cls, s_leni, s_lenz, s_lenr, s_lenN, s_lenl, s_rc0, s_rc1, s_rcv, s_clo, s_clx, s_cln, s_cl1, s_cl2, s_cl3, s_cl4, s_cl5, s_sw1, s_sw2, s_min0, s_min1, s_min2, List.getElem?_cons_zero, List.getElem?_cons_succ, List.take_succ_cons, List.take_zero, List.length_cons, List.length_nil, List.set_cons_zero, List.set_cons_succ, List.cons_append, List.nil_append, Option.toList_some, Option.toList_none, Nat.reduceAdd, Nat.reduceSub, Nat.reduceLeDiff, Nat.reduceLT, Nat.reduceEqDiff, Nat.zero_add, Nat.add_zero, Nat.le_refl, Nat.zero_le, true_and, and_true, true_or, or_true, or_false, false_or, and_self, not_false_eq_true, Nat.one_ne_zero, Nat.zero_ne_one, reduceCtorEq, false_and, and_false, g_ent, lg_sl, List.flatMap_cons, List.flatMap_nil, List.map_cons, List.map_nil, Value.category, ite_true, ite_false, if_true, if_false, if_pos, gEl, Option.isSome_some, s_c12, s_p12, s_c16, s_p16, s_c20, s_p20, s_c30, s_p30, s_c60, s_p60, s_c100, s_p100, s_c500, s_p500, s_c61, s_p61, s_c1952, s_p1952, s_c732, s_p732, s_c1830, s_p1830, s_c2000, s_p2000, not_true_eq_false, true_implies, false_implies, implies_true, he, g_up_n n1, g_up_n n3, g_up_s]
  have hf := hP q1 q2 h1 h2 (Ne.symm n2)
  have e1 : g_up (g_up (g_up (g_up (g_up σ q1 (g_ia 0 16 (fun _ => 0))) e (g_ob 3 [.ref q1, .null, .int 0])) q2 (g_ia 0 16 (fun _ => 0))) e (g_ob 3 [.ref q1, .ref q2, .int 0])) e (g_ob 3 [.ref q1, .ref q2, .int 0]) = g_up (g_up (g_up σ q1 (g_ia 0 16 (fun _ => nI 0))) q2 (g_ia 0 16 (fun _ => nI 0))) e (g_ob 3 [.ref q1, .ref q2, .int (nI 0)]) := by
    rw [g_up_up, g_up_comm (a := e) (b := q2) n3, g_up_up]; rfl
  first
    | (rw [e1]; exact hf)
    | (refine cast ?_ hf; congr 1)
def sp_E_isFull : gSpec := fun av σ P => ∃ (e ef el c : Nat), av = [.ref e] ∧ σ e = some (g_ob 3 [.ref ef, .ref el, .int (nI c)]) ∧ c ≤ 16 ∧ P (some (.int (b2i (decide (16 ≤ c))))) σ
def T_E_isFull : gT := gTT [(18, 3, 2, 0, 1)] [] [] [] [] []
theorem tf_E_isFull_18 : (T_E_isFull).1 18 = some (3, 2, 0, 1) := rfl
theorem t_E_isFull (l : Launch) (sc : gX) : g_TOK l sc (gRm 1 0 0) (T_E_isFull) gEl "DataSets$Extents" gCl gTb gNs gAT gAO := gTT_ok
  (List.forall_mem_cons.mpr ⟨⟨R_E, F_E, 3, t_E 2, rfl, by decide, rfl, by decide +kernel, rfl, by decide, Or.inl ⟨wd106, by decide⟩⟩, fun _ h => absurd h List.not_mem_nil⟩)
  (fun _ h => absurd h List.not_mem_nil)
  (fun _ h => absurd h List.not_mem_nil)
  (fun _ h => absurd h List.not_mem_nil)
  (fun _ h => absurd h List.not_mem_nil)
  (fun _ h => absurd h List.not_mem_nil)
set_option maxHeartbeats 4000000 in
set_option maxRecDepth 100000 in
theorem k_E_isFull (l : Launch) (sc : gX) : g_Met l sc gCl gTb gNs gAT gAO y_E_isFull b_E_isFull 1 (some .boolean) (gRm 1 0 0) (sp_E_isFull) 0 0 := by
  refine g_meth (T := (T_E_isFull)) (el := gEl) (ini := false) (rk := 2) (code := c_E_isFull) gG_ok (t_E_isFull l sc) (by decide) (by decide) rfl ⟨rfl, rfl, by decide, by decide⟩ ok_E_isFull ?_
  intro av σ P hsp
  obtain ⟨e, ef, el, cc, rfl, he, hc, hP⟩ := hsp
  refine ⟨by simp [lg_sl, Value.category], fun _ _ _ _ _ _ _ => False, ⟨200, ?_⟩, fun _ _ _ _ _ _ _ h => h.elim⟩
  simp only [w_aload_0, w_get, w_bipush, w_icmp_lt, w_iconst, w_goto, w_iret, go_E_isFull_0, go_E_isFull_1, go_E_isFull_4, go_E_isFull_6, go_E_isFull_9, go_E_isFull_10, go_E_isFull_13, go_E_isFull_14, at_E_isFull_0, tf_E_isFull_18, s_opt, s_oI, s_oL, s_oA, s_oAN, s_set0, s_set1, s_setn0, s_setn1, s_ok0, s_okn, s_oki, s_okr, s_okN, s_oko, s_oks, s_c1i, s_c1r, s_c1n, s_fi, s_fr, s_fn, s_fl, s_fz, s_rd, s_pt, s_ai, s_lds, s_ldsN, s_al, s_ar, s_cls, s_leni, s_lenz, s_lenr, s_lenN, s_lenl, s_rc0, s_rc1, s_rcv, s_clo, s_clx, s_cln, s_cl1, s_cl2, s_cl3, s_cl4, s_cl5, s_sw1, s_sw2, s_min0, s_min1, s_min2, List.getElem?_cons_zero, List.getElem?_cons_succ, List.take_succ_cons, List.take_zero, List.length_cons, List.length_nil, List.set_cons_zero, List.set_cons_succ, List.cons_append, List.nil_append, Option.toList_some, Option.toList_none, Nat.reduceAdd, Nat.reduceSub, Nat.reduceLeDiff, Nat.reduceLT, Nat.reduceEqDiff, Nat.zero_add, Nat.add_zero, Nat.le_refl, Nat.zero_le, true_and, and_true, true_or, or_true, or_false, false_or, and_self, not_false_eq_true, Nat.one_ne_zero, Nat.zero_ne_one, reduceCtorEq, false_and, and_false, g_ent, lg_sl, List.flatMap_cons, List.flatMap_nil, List.map_cons, List.map_nil, Value.category, ite_true, ite_false, if_true, if_false, if_pos, gEl, Option.isSome_some, s_c12, s_p12, s_c16, s_p16, s_c20, s_p20, s_c30, s_p30, s_c60, s_p60, s_c100, s_p100, s_c500, s_p500, s_c61, s_p61, s_c1952, s_p1952, s_c732, s_p732, s_c1830, s_p1830, s_c2000, s_p2000, not_true_eq_false, true_implies, false_implies, implies_true, he]
  refine pk_lt cc 16 (fun h => ?_) (fun h => ?_)
  · rw [decide_eq_false (by omega)] at hP
    exact hP
  · rw [decide_eq_true (by omega)] at hP
    exact hP
def sp_E_add : gSpec := fun av σ P => ∃ (e ef el c a n : Nat) (xf xl : Nat → Nat), av = [.ref e, .int (nI a), .int (nI n)] ∧ rExt σ e ef el c xf xl ∧ c < 16 ∧ P none (g_up (g_up (g_up σ ef (g_ia 0 16 (fun j => nI (va_up xf c a j)))) el (g_ia 0 16 (fun j => nI (va_up xl c n j)))) e (g_ob 3 [.ref ef, .ref el, .int (nI (c + 1))]))
def T_E_add : gT := gTT [(9, 3, 0, 1, 2), (15, 3, 1, 1, 2), (18, 3, 2, 0, 1)] [(22, 1, 5, sp_E_isFull, 0, 0)] [] [] [] []
theorem tf_E_add_9 : (T_E_add).1 9 = some (3, 0, 1, 2) := rfl
theorem tf_E_add_15 : (T_E_add).1 15 = some (3, 1, 1, 2) := rfl
theorem tf_E_add_18 : (T_E_add).1 18 = some (3, 2, 0, 1) := rfl
theorem tc_E_add_22 : (T_E_add).2.1 22 = some (1, 5, sp_E_isFull, 0, 0) := rfl
theorem tm_E_add_22 : (T_E_add).2.2.2.2.2 22 = none := rfl
theorem t_E_add (l : Launch) (sc : gX) : g_TOK l sc (gRm 2 0 0) (T_E_add) gEl "DataSets$Extents" gCl gTb gNs gAT gAO := gTT_ok
  (List.forall_mem_cons.mpr ⟨⟨R_E, F_E, 3, t_E 0, rfl, by decide, rfl, by decide +kernel, rfl, by decide, Or.inl ⟨wd102, by decide⟩⟩, List.forall_mem_cons.mpr ⟨⟨R_E, F_E, 3, t_E 1, rfl, by decide, rfl, by decide +kernel, rfl, by decide, Or.inl ⟨wd104, by decide⟩⟩, List.forall_mem_cons.mpr ⟨⟨R_E, F_E, 3, t_E 2, rfl, by decide, rfl, by decide +kernel, rfl, by decide, Or.inl ⟨wd106, by decide⟩⟩, fun _ h => absurd h List.not_mem_nil⟩⟩⟩)
  (List.forall_mem_cons.mpr ⟨⟨y_E_isFull, b_E_isFull, 1, _, gRm 1 0 0, k_E_isFull l sc, rfl, rfl, by decide, by decide, wd192, wd29, ⟨by decide, by decide⟩, Or.inl wd189, ⟨by decide +kernel, wd190, R_E, F_E, 3, rfl, wd191⟩⟩, fun _ h => absurd h List.not_mem_nil⟩)
  (fun _ h => absurd h List.not_mem_nil)
  (fun _ h => absurd h List.not_mem_nil)
  (fun _ h => absurd h List.not_mem_nil)
  (fun _ h => absurd h List.not_mem_nil)
set_option maxHeartbeats 4000000 in
set_option maxRecDepth 100000 in
theorem k_E_add (l : Launch) (sc : gX) : g_Met l sc gCl gTb gNs gAT gAO y_E_add b_E_add 3 none (gRm 2 0 0) (sp_E_add) 0 0 := by
  refine g_meth (T := (T_E_add)) (el := gEl) (ini := false) (rk := 0) (code := c_E_add) gG_ok (t_E_add l sc) (by decide) (by decide) rfl ⟨rfl, rfl, by decide, by decide⟩ ok_E_add ?_
  intro av σ P hsp
  obtain ⟨e, ef, el, cc, a, n, xf, xl, rfl, ⟨he, hf, hl, hne⟩, hc, hP⟩ := hsp
  refine ⟨by simp [lg_sl, Value.category], fun _ _ _ _ _ _ _ => False, ⟨200, ?_⟩, fun _ _ _ _ _ _ _ h => h.elim⟩
  have n1 := g_ne_oi he hf
  have n2 := g_ne_oi he hl
  have hcl : (nI cc).toNatClampNeg = cc := pk_cl cc
  simp only [w_aload_0, w_invokevirtual, w_if_eq, w_ret, w_get, w_iload_1, w_iast, w_iload_2, w_dup, w_iconst, w_iadd, w_put, go_E_add_0, go_E_add_1, go_E_add_4, go_E_add_7, go_E_add_8, go_E_add_9, go_E_add_12, go_E_add_13, go_E_add_16, go_E_add_17, go_E_add_18, go_E_add_19, go_E_add_22, go_E_add_23, go_E_add_26, go_E_add_27, go_E_add_28, go_E_add_29, go_E_add_30, go_E_add_33, go_E_add_34, go_E_add_35, go_E_add_38, at_E_add_0, tf_E_add_9, tf_E_add_15, tf_E_add_18, tc_E_add_22, tm_E_add_22, s_opt, s_oI, s_oL, s_oA, s_oAN, s_set0, s_set1, s_setn0, s_setn1, s_ok0, s_okn, s_oki, s_okr, s_okN, s_oko, s_oks, s_c1i, s_c1r, s_c1n, s_fi, s_fr, s_fn, s_fl, s_fz, s_rd, s_pt, s_ai, s_lds, s_ldsN, s_al, s_ar, s_cls, s_leni, s_lenz, s_lenr, s_lenN, s_lenl, s_rc0, s_rc1, s_rcv, s_clo, s_clx, s_cln, s_cl1, s_cl2, s_cl3, s_cl4, s_cl5, s_sw1, s_sw2, s_min0, s_min1, s_min2, List.getElem?_cons_zero, List.getElem?_cons_succ, List.take_succ_cons, List.take_zero, List.length_cons, List.length_nil, List.set_cons_zero, List.set_cons_succ, List.cons_append, List.nil_append, Option.toList_some, Option.toList_none, Nat.reduceAdd, Nat.reduceSub, Nat.reduceLeDiff, Nat.reduceLT, Nat.reduceEqDiff, Nat.zero_add, Nat.add_zero, Nat.le_refl, Nat.zero_le, true_and, and_true, true_or, or_true, or_false, false_or, and_self, not_false_eq_true, Nat.one_ne_zero, Nat.zero_ne_one, reduceCtorEq, false_and, and_false, g_ent, lg_sl, List.flatMap_cons, List.flatMap_nil, List.map_cons, List.map_nil, Value.category, ite_true, ite_false, if_true, if_false, if_pos, gEl, Option.isSome_some, s_c12, s_p12, s_c16, s_p16, s_c20, s_p20, s_c30, s_p30, s_c60, s_p60, s_c100, s_p100, s_c500, s_p500, s_c61, s_p61, s_c1952, s_p1952, s_c732, s_p732, s_c1830, s_p1830, s_c2000, s_p2000, not_true_eq_false, true_implies, false_implies, implies_true, he]
  refine ⟨e, ef, el, cc, rfl, he, by omega, ?_⟩
  rw [decide_eq_false (by omega)]
  simp only [w_aload_0, w_invokevirtual, w_if_eq, w_ret, w_get, w_iload_1, w_iast, w_iload_2, w_dup, w_iconst, w_iadd, w_put, go_E_add_0, go_E_add_1, go_E_add_4, go_E_add_7, go_E_add_8, go_E_add_9, go_E_add_12, go_E_add_13, go_E_add_16, go_E_add_17, go_E_add_18, go_E_add_19, go_E_add_22, go_E_add_23, go_E_add_26, go_E_add_27, go_E_add_28, go_E_add_29, go_E_add_30, go_E_add_33, go_E_add_34, go_E_add_35, go_E_add_38, at_E_add_0, tf_E_add_9, tf_E_add_15, tf_E_add_18, tc_E_add_22, tm_E_add_22, s_opt, s_oI, s_oL, s_oA, s_oAN, s_set0, s_set1, s_setn0, s_setn1, s_ok0, s_okn, s_oki, s_okr, s_okN, s_oko, s_oks, s_c1i, s_c1r, s_c1n, s_fi, s_fr, s_fn, s_fl, s_fz, s_rd, s_pt, s_ai, s_lds, s_ldsN, s_al, s_ar, s_cls, s_leni, s_lenz, s_lenr, s_lenN, s_lenl, s_rc0, s_rc1, s_rcv, s_clo, s_clx, s_cln, s_cl1, s_cl2, s_cl3, s_cl4, s_cl5, s_sw1, s_sw2, s_min0, s_min1, s_min2, List.getElem?_cons_zero, List.getElem?_cons_succ, List.take_succ_cons, List.take_zero, List.length_cons, List.length_nil, List.set_cons_zero, List.set_cons_succ, List.cons_append, List.nil_append, Option.toList_some, Option.toList_none, Nat.reduceAdd, Nat.reduceSub, Nat.reduceLeDiff, Nat.reduceLT, Nat.reduceEqDiff, Nat.zero_add, Nat.add_zero, Nat.le_refl, Nat.zero_le, true_and, and_true, true_or, or_true, or_false, false_or, and_self, not_false_eq_true, Nat.one_ne_zero, Nat.zero_ne_one, reduceCtorEq, false_and, and_false, g_ent, lg_sl, List.flatMap_cons, List.flatMap_nil, List.map_cons, List.map_nil, Value.category, ite_true, ite_false, if_true, if_false, if_pos, gEl, Option.isSome_some, s_c12, s_p12, s_c16, s_p16, s_c20, s_p20, s_c30, s_p30, s_c60, s_p60, s_c100, s_p100, s_c500, s_p500, s_c61, s_p61, s_c1952, s_p1952, s_c732, s_p732, s_c1830, s_p1830, s_c2000, s_p2000, not_true_eq_false, true_implies, false_implies, implies_true, he, hf, hl, g_up_n n1, g_up_n n2, g_up_n (Ne.symm hne), g_up_s, b2i_f, hcl]
  refine ⟨pk_in cc 16 hc, pk_in cc 16 hc, ?_⟩
  rw [m_updN, m_updN, nI_1]
  exact hP
def sp_E_tracks : gSpec := fun av σ P => ∃ (e ef el c : Nat) (xf xl : Nat → Nat), av = [.ref e] ∧ rExt σ e ef el c xf xl ∧ bExt c xf xl ∧ P (some (.int (nI (m_sum xl c)))) σ
def iv_E_tracks (σ : gS) (e c0 : Nat) (xl : Nat → Nat) : Nat → gK := fun k pc lv st σ' c z => ∃ i, i ≤ c0 ∧ k = c0 - i ∧ pc = 4 ∧ lv = [some (.ref e), some (.int (nI (m_sum xl i))), some (.int (nI i))] ∧ st = [] ∧ σ' = σ ∧ c = 0 ∧ z = 0
def T_E_tracks : gT := gTT [(15, 3, 1, 1, 2), (18, 3, 2, 0, 1)] [] [] [] [] []
theorem tf_E_tracks_15 : (T_E_tracks).1 15 = some (3, 1, 1, 2) := rfl
theorem tf_E_tracks_18 : (T_E_tracks).1 18 = some (3, 2, 0, 1) := rfl
theorem t_E_tracks (l : Launch) (sc : gX) : g_TOK l sc (gRm 1 0 0) (T_E_tracks) gEl "DataSets$Extents" gCl gTb gNs gAT gAO := gTT_ok
  (List.forall_mem_cons.mpr ⟨⟨R_E, F_E, 3, t_E 1, rfl, by decide, rfl, by decide +kernel, rfl, by decide, Or.inl ⟨wd104, by decide⟩⟩, List.forall_mem_cons.mpr ⟨⟨R_E, F_E, 3, t_E 2, rfl, by decide, rfl, by decide +kernel, rfl, by decide, Or.inl ⟨wd106, by decide⟩⟩, fun _ h => absurd h List.not_mem_nil⟩⟩)
  (fun _ h => absurd h List.not_mem_nil)
  (fun _ h => absurd h List.not_mem_nil)
  (fun _ h => absurd h List.not_mem_nil)
  (fun _ h => absurd h List.not_mem_nil)
  (fun _ h => absurd h List.not_mem_nil)
set_option maxHeartbeats 4000000 in
set_option maxRecDepth 100000 in
theorem k_E_tracks (l : Launch) (sc : gX) : g_Met l sc gCl gTb gNs gAT gAO y_E_tracks b_E_tracks 3 (some .int) (gRm 1 0 0) (sp_E_tracks) 0 0 := by
  refine g_meth (T := (T_E_tracks)) (el := gEl) (ini := false) (rk := 1) (code := c_E_tracks) gG_ok (t_E_tracks l sc) (by decide) (by decide) rfl ⟨rfl, rfl, by decide, by decide⟩ ok_E_tracks ?_
  intro av σ P hsp
  obtain ⟨e, ef, el, cc, xf, xl, rfl, ⟨he, hf, hl, hne⟩, ⟨hc, hb⟩, hP⟩ := hsp
  refine ⟨by simp [lg_sl, Value.category], iv_E_tracks σ e cc xl, ⟨200, ?_⟩, ?_⟩
  · simp only [w_iconst, w_istore_1, w_istore_2, w_iload_2, w_aload_0, w_get, w_icmp_ge, w_iload_1, w_iald, w_iadd, w_iinc, w_goto, w_iret, go_E_tracks_0, go_E_tracks_1, go_E_tracks_2, go_E_tracks_3, go_E_tracks_4, go_E_tracks_5, go_E_tracks_6, go_E_tracks_9, go_E_tracks_12, go_E_tracks_13, go_E_tracks_14, go_E_tracks_17, go_E_tracks_18, go_E_tracks_19, go_E_tracks_20, go_E_tracks_21, go_E_tracks_24, go_E_tracks_27, go_E_tracks_28, at_E_tracks_0, at_E_tracks_4, tf_E_tracks_15, tf_E_tracks_18, s_opt, s_oI, s_oL, s_oA, s_oAN, s_set0, s_set1, s_setn0, s_setn1, s_ok0, s_okn, s_oki, s_okr, s_okN, s_oko, s_oks, s_c1i, s_c1r, s_c1n, s_fi, s_fr, s_fn, s_fl, s_fz, s_rd, s_pt, s_ai, s_lds, s_ldsN, s_al, s_ar, s_cls, s_leni, s_lenz, s_lenr, s_lenN, s_lenl, s_rc0, s_rc1, s_rcv, s_clo, s_clx, s_cln, s_cl1, s_cl2, s_cl3, s_cl4, s_cl5, s_sw1, s_sw2, s_min0, s_min1, s_min2, List.getElem?_cons_zero, List.getElem?_cons_succ, List.take_succ_cons, List.take_zero, List.length_cons, List.length_nil, List.set_cons_zero, List.set_cons_succ, List.cons_append, List.nil_append, Option.toList_some, Option.toList_none, Nat.reduceAdd, Nat.reduceSub, Nat.reduceLeDiff, Nat.reduceLT, Nat.reduceEqDiff, Nat.zero_add, Nat.add_zero, Nat.le_refl, Nat.zero_le, true_and, and_true, true_or, or_true, or_false, false_or, and_self, not_false_eq_true, Nat.one_ne_zero, Nat.zero_ne_one, reduceCtorEq, false_and, and_false, g_ent, lg_sl, List.flatMap_cons, List.flatMap_nil, List.map_cons, List.map_nil, Value.category, ite_true, ite_false, if_true, if_false, if_pos, gEl, Option.isSome_some, s_c12, s_p12, s_c16, s_p16, s_c20, s_p20, s_c30, s_p30, s_c60, s_p60, s_c100, s_p100, s_c500, s_p500, s_c61, s_p61, s_c1952, s_p1952, s_c732, s_p732, s_c1830, s_p1830, s_c2000, s_p2000, not_true_eq_false, true_implies, false_implies, implies_true]
    exact ⟨cc, 0, Nat.zero_le _, rfl, rfl, rfl, rfl, rfl, rfl, rfl⟩
  · rintro k pc lv st σ' c z ⟨i, hi, rfl, rfl, rfl, rfl, rfl, rfl, rfl⟩
    refine ⟨200, ?_⟩
    have hcl : (nI i).toNatClampNeg = i := pk_cl i
    simp only [w_iconst, w_istore_1, w_istore_2, w_iload_2, w_aload_0, w_get, w_icmp_ge, w_iload_1, w_iald, w_iadd, w_iinc, w_goto, w_iret, go_E_tracks_0, go_E_tracks_1, go_E_tracks_2, go_E_tracks_3, go_E_tracks_4, go_E_tracks_5, go_E_tracks_6, go_E_tracks_9, go_E_tracks_12, go_E_tracks_13, go_E_tracks_14, go_E_tracks_17, go_E_tracks_18, go_E_tracks_19, go_E_tracks_20, go_E_tracks_21, go_E_tracks_24, go_E_tracks_27, go_E_tracks_28, at_E_tracks_0, at_E_tracks_4, tf_E_tracks_15, tf_E_tracks_18, s_opt, s_oI, s_oL, s_oA, s_oAN, s_set0, s_set1, s_setn0, s_setn1, s_ok0, s_okn, s_oki, s_okr, s_okN, s_oko, s_oks, s_c1i, s_c1r, s_c1n, s_fi, s_fr, s_fn, s_fl, s_fz, s_rd, s_pt, s_ai, s_lds, s_ldsN, s_al, s_ar, s_cls, s_leni, s_lenz, s_lenr, s_lenN, s_lenl, s_rc0, s_rc1, s_rcv, s_clo, s_clx, s_cln, s_cl1, s_cl2, s_cl3, s_cl4, s_cl5, s_sw1, s_sw2, s_min0, s_min1, s_min2, List.getElem?_cons_zero, List.getElem?_cons_succ, List.take_succ_cons, List.take_zero, List.length_cons, List.length_nil, List.set_cons_zero, List.set_cons_succ, List.cons_append, List.nil_append, Option.toList_some, Option.toList_none, Nat.reduceAdd, Nat.reduceSub, Nat.reduceLeDiff, Nat.reduceLT, Nat.reduceEqDiff, Nat.zero_add, Nat.add_zero, Nat.le_refl, Nat.zero_le, true_and, and_true, true_or, or_true, or_false, false_or, and_self, not_false_eq_true, Nat.one_ne_zero, Nat.zero_ne_one, reduceCtorEq, false_and, and_false, g_ent, lg_sl, List.flatMap_cons, List.flatMap_nil, List.map_cons, List.map_nil, Value.category, ite_true, ite_false, if_true, if_false, if_pos, gEl, Option.isSome_some, s_c12, s_p12, s_c16, s_p16, s_c20, s_p20, s_c30, s_p30, s_c60, s_p60, s_c100, s_p100, s_c500, s_p500, s_c61, s_p61, s_c1952, s_p1952, s_c732, s_p732, s_c1830, s_p1830, s_c2000, s_p2000, not_true_eq_false, true_implies, false_implies, implies_true, he, hf, hl, hcl]
    refine pk_le cc i (fun h => ?_) (fun h => ?_)
    · have : i = cc := by omega
      subst this
      exact hP
    · refine ⟨pk_in i 16 (by omega), cc - (i + 1), by omega, i + 1, by omega, rfl, rfl, by rw [nI_add, nI_1]; rfl, rfl, rfl, rfl, rfl⟩
/-- the track of a position counted through extents -/
def m_pos (xf xl : Nat → Nat) : Nat → Nat → Nat → Option Nat
  | 0, _, _ => none
  | k + 1, i, left => if left < xl i then some (xf i + left) else m_pos xf xl k (i + 1) (left - xl i)
def sp_E_onVolume : gSpec := fun av σ P => ∃ (e ef el c p : Nat) (xf xl : Nat → Nat), av = [.ref e, .int (nI p)] ∧ rExt σ e ef el c xf xl ∧ bExt c xf xl ∧ p ≤ 100000 ∧ P (some (.int (oI (m_pos xf xl c 0 p)))) σ
def iv_E_onVolume (σ : gS) (e c0 p : Nat) (xf xl : Nat → Nat) : Nat → gK := fun k pc lv st σ' c z => ∃ i left, i ≤ c0 ∧ k = c0 - i ∧ pc = 4 ∧ lv = [some (.ref e), some (.int (nI p)), some (.int (nI left)), some (.int (nI i))] ∧ st = [] ∧ σ' = σ ∧ c = 0 ∧ z = 0 ∧ left ≤ 100000 ∧ m_pos xf xl (c0 - i) i left = m_pos xf xl c0 0 p
def T_E_onVolume : gT := gTT [(9, 3, 0, 1, 2), (15, 3, 1, 1, 2), (18, 3, 2, 0, 1)] [] [] [] [] []
theorem tf_E_onVolume_9 : (T_E_onVolume).1 9 = some (3, 0, 1, 2) := rfl
theorem tf_E_onVolume_15 : (T_E_onVolume).1 15 = some (3, 1, 1, 2) := rfl
theorem tf_E_onVolume_18 : (T_E_onVolume).1 18 = some (3, 2, 0, 1) := rfl
theorem t_E_onVolume (l : Launch) (sc : gX) : g_TOK l sc (gRm 1 0 0) (T_E_onVolume) gEl "DataSets$Extents" gCl gTb gNs gAT gAO := gTT_ok
  (List.forall_mem_cons.mpr ⟨⟨R_E, F_E, 3, t_E 0, rfl, by decide, rfl, by decide +kernel, rfl, by decide, Or.inl ⟨wd102, by decide⟩⟩, List.forall_mem_cons.mpr ⟨⟨R_E, F_E, 3, t_E 1, rfl, by decide, rfl, by decide +kernel, rfl, by decide, Or.inl ⟨wd104, by decide⟩⟩, List.forall_mem_cons.mpr ⟨⟨R_E, F_E, 3, t_E 2, rfl, by decide, rfl, by decide +kernel, rfl, by decide, Or.inl ⟨wd106, by decide⟩⟩, fun _ h => absurd h List.not_mem_nil⟩⟩⟩)
  (fun _ h => absurd h List.not_mem_nil)
  (fun _ h => absurd h List.not_mem_nil)
  (fun _ h => absurd h List.not_mem_nil)
  (fun _ h => absurd h List.not_mem_nil)
  (fun _ h => absurd h List.not_mem_nil)
set_option maxHeartbeats 4000000 in
set_option maxRecDepth 100000 in
theorem k_E_onVolume (l : Launch) (sc : gX) : g_Met l sc gCl gTb gNs gAT gAO y_E_onVolume b_E_onVolume 4 (some .int) (gRm 1 0 0) (sp_E_onVolume) 0 0 := by
  refine g_meth (T := (T_E_onVolume)) (el := gEl) (ini := false) (rk := 1) (code := c_E_onVolume) gG_ok (t_E_onVolume l sc) (by decide) (by decide) rfl ⟨rfl, rfl, by decide, by decide⟩ ok_E_onVolume ?_
  intro av σ P hsp
  obtain ⟨e, ef, el, cc, p, xf, xl, rfl, ⟨he, hf, hl, hne⟩, ⟨hc, hb⟩, hp, hP⟩ := hsp
  refine ⟨by simp [lg_sl, Value.category], iv_E_onVolume σ e cc p xf xl, ⟨200, ?_⟩, ?_⟩
  · simp only [w_iload_1, w_istore_2, w_iconst, w_istore_3, w_iload_3, w_aload_0, w_get, w_icmp_ge, w_iload_2, w_iald, w_iadd, w_iret, w_isub, w_iinc, w_goto, go_E_onVolume_0, go_E_onVolume_1, go_E_onVolume_2, go_E_onVolume_3, go_E_onVolume_4, go_E_onVolume_5, go_E_onVolume_6, go_E_onVolume_9, go_E_onVolume_12, go_E_onVolume_13, go_E_onVolume_14, go_E_onVolume_17, go_E_onVolume_18, go_E_onVolume_19, go_E_onVolume_22, go_E_onVolume_23, go_E_onVolume_26, go_E_onVolume_27, go_E_onVolume_28, go_E_onVolume_29, go_E_onVolume_30, go_E_onVolume_31, go_E_onVolume_32, go_E_onVolume_33, go_E_onVolume_36, go_E_onVolume_37, go_E_onVolume_38, go_E_onVolume_39, go_E_onVolume_40, go_E_onVolume_43, go_E_onVolume_46, go_E_onVolume_47, at_E_onVolume_0, at_E_onVolume_4, tf_E_onVolume_9, tf_E_onVolume_15, tf_E_onVolume_18, s_opt, s_oI, s_oL, s_oA, s_oAN, s_set0, s_set1, s_setn0, s_setn1, s_ok0, s_okn, s_oki, s_okr, s_okN, s_oko, s_oks, s_c1i, s_c1r, s_c1n, s_fi, s_fr, s_fn, s_fl, s_fz, s_rd, s_pt, s_ai, s_lds, s_ldsN, s_al, s_ar, s_cls, s_leni, s_lenz, s_lenr, s_lenN, s_lenl, s_rc0, s_rc1, s_rcv, s_clo, s_clx, s_cln, s_cl1, s_cl2, s_cl3, s_cl4, s_cl5, s_sw1, s_sw2, s_min0, s_min1, s_min2, List.getElem?_cons_zero, List.getElem?_cons_succ, List.take_succ_cons, List.take_zero, List.length_cons, List.length_nil, List.set_cons_zero, List.set_cons_succ, List.cons_append, List.nil_append, Option.toList_some, Option.toList_none, Nat.reduceAdd, Nat.reduceSub, Nat.reduceLeDiff, Nat.reduceLT, Nat.reduceEqDiff, Nat.zero_add, Nat.add_zero, Nat.le_refl, Nat.zero_le, true_and, and_true, true_or, or_true, or_false, false_or, and_self, not_false_eq_true, Nat.one_ne_zero, Nat.zero_ne_one, reduceCtorEq, false_and, and_false, g_ent, lg_sl, List.flatMap_cons, List.flatMap_nil, List.map_cons, List.map_nil, Value.category, ite_true, ite_false, if_true, if_false, if_pos, gEl, Option.isSome_some, s_c12, s_p12, s_c16, s_p16, s_c20, s_p20, s_c30, s_p30, s_c60, s_p60, s_c100, s_p100, s_c500, s_p500, s_c61, s_p61, s_c1952, s_p1952, s_c732, s_p732, s_c1830, s_p1830, s_c2000, s_p2000, not_true_eq_false, true_implies, false_implies, implies_true]
    exact ⟨cc, 0, p, Nat.zero_le _, rfl, rfl, rfl, rfl, rfl, rfl, rfl, hp, rfl⟩
  · rintro k pc lv st σ' c z ⟨i, left, hi, rfl, rfl, rfl, rfl, rfl, rfl, rfl, hlf, hans⟩
    refine ⟨200, ?_⟩
    have hcl : (nI i).toNatClampNeg = i := pk_cl i
    simp only [w_iload_1, w_istore_2, w_iconst, w_istore_3, w_iload_3, w_aload_0, w_get, w_icmp_ge, w_iload_2, w_iald, w_iadd, w_iret, w_isub, w_iinc, w_goto, go_E_onVolume_0, go_E_onVolume_1, go_E_onVolume_2, go_E_onVolume_3, go_E_onVolume_4, go_E_onVolume_5, go_E_onVolume_6, go_E_onVolume_9, go_E_onVolume_12, go_E_onVolume_13, go_E_onVolume_14, go_E_onVolume_17, go_E_onVolume_18, go_E_onVolume_19, go_E_onVolume_22, go_E_onVolume_23, go_E_onVolume_26, go_E_onVolume_27, go_E_onVolume_28, go_E_onVolume_29, go_E_onVolume_30, go_E_onVolume_31, go_E_onVolume_32, go_E_onVolume_33, go_E_onVolume_36, go_E_onVolume_37, go_E_onVolume_38, go_E_onVolume_39, go_E_onVolume_40, go_E_onVolume_43, go_E_onVolume_46, go_E_onVolume_47, at_E_onVolume_0, at_E_onVolume_4, tf_E_onVolume_9, tf_E_onVolume_15, tf_E_onVolume_18, s_opt, s_oI, s_oL, s_oA, s_oAN, s_set0, s_set1, s_setn0, s_setn1, s_ok0, s_okn, s_oki, s_okr, s_okN, s_oko, s_oks, s_c1i, s_c1r, s_c1n, s_fi, s_fr, s_fn, s_fl, s_fz, s_rd, s_pt, s_ai, s_lds, s_ldsN, s_al, s_ar, s_cls, s_leni, s_lenz, s_lenr, s_lenN, s_lenl, s_rc0, s_rc1, s_rcv, s_clo, s_clx, s_cln, s_cl1, s_cl2, s_cl3, s_cl4, s_cl5, s_sw1, s_sw2, s_min0, s_min1, s_min2, List.getElem?_cons_zero, List.getElem?_cons_succ, List.take_succ_cons, List.take_zero, List.length_cons, List.length_nil, List.set_cons_zero, List.set_cons_succ, List.cons_append, List.nil_append, Option.toList_some, Option.toList_none, Nat.reduceAdd, Nat.reduceSub, Nat.reduceLeDiff, Nat.reduceLT, Nat.reduceEqDiff, Nat.zero_add, Nat.add_zero, Nat.le_refl, Nat.zero_le, true_and, and_true, true_or, or_true, or_false, false_or, and_self, not_false_eq_true, Nat.one_ne_zero, Nat.zero_ne_one, reduceCtorEq, false_and, and_false, g_ent, lg_sl, List.flatMap_cons, List.flatMap_nil, List.map_cons, List.map_nil, Value.category, ite_true, ite_false, if_true, if_false, if_pos, gEl, Option.isSome_some, s_c12, s_p12, s_c16, s_p16, s_c20, s_p20, s_c30, s_p30, s_c60, s_p60, s_c100, s_p100, s_c500, s_p500, s_c61, s_p61, s_c1952, s_p1952, s_c732, s_p732, s_c1830, s_p1830, s_c2000, s_p2000, not_true_eq_false, true_implies, false_implies, implies_true, he, hf, hl, hcl]
    refine pk_le cc i (fun h => ?_) (fun h => ?_)
    · have : i = cc := by omega
      subst this
      rw [Nat.sub_self] at hans
      have h0 : m_pos xf xl i 0 p = none := hans.symm
      rw [h0] at hP
      exact hP
    · have hbi := hb i (by omega)
      have hfr : m_pos xf xl (cc - i) i left = if left < xl i then some (xf i + left) else m_pos xf xl (cc - (i + 1)) (i + 1) (left - xl i) := by
        rw [show cc - i = (cc - (i + 1)) + 1 by omega]
        rfl
      refine ⟨pk_in i 16 (by omega), pk_le (xl i) left (fun h2 => ?_) (fun h2 => ?_)⟩
      · rw [if_neg (by omega)] at hfr
        refine ⟨pk_in i 16 (by omega), cc - (i + 1), by omega, i + 1, left - xl i, by omega, rfl, rfl, by rw [pk_sub h2, nI_1], rfl, rfl, rfl, rfl, by omega, ?_⟩
        rw [← hfr]; exact hans
      · rw [if_pos h2] at hfr
        rw [← hans, hfr] at hP
        refine ⟨pk_in i 16 (by omega), ?_⟩
        rw [nI_add]
        exact hP
/-- what of extent i stays when 'keep' tracks are kept -/
def m_stay (xl : Nat → Nat) (keep i : Nat) : Nat := min (keep - m_sum xl i) (xl i)
/-- the volume behind it -/
def m_cut (k : Nat → Bool) (xf xl : Nat → Nat) (keep : Nat) : Nat → Nat → Bool
  | 0 => k
  | i + 1 => m_fill (m_cut k xf xl keep i) (xf i + m_stay xl keep i) (xl i - m_stay xl keep i) false
def m_lens (xl : Nat → Nat) (keep i : Nat) : Nat → Nat := fun j => if j < i then m_stay xl keep j else xl j
def m_freed (xl : Nat → Nat) (keep : Nat) : Nat → Nat := m_sum (fun i => xl i - m_stay xl keep i)
def m_kept (xl : Nat → Nat) (keep : Nat) : Nat → Nat := m_cnt (fun i => decide (0 < m_stay xl keep i))
def sp_E_cutTo : gSpec := fun av σ P => ∃ (e ef el c v t N keep : Nat) (xf xl : Nat → Nat) (k : Nat → Bool), av = [.ref e, .int (nI keep), .ref v] ∧ rExt σ e ef el c xf xl ∧ bExt c xf xl ∧ rVol σ v t N k ∧ N ≤ 500 ∧ (∀ j, j < c → xf j + xl j ≤ N) ∧ keep ≤ 100000 ∧
  P (some (.int (nI (m_freed xl keep c)))) (g_up (g_up (g_up σ t (g_ia 1 N (fun j => b2i (m_cut k xf xl keep c j)))) el (g_ia 0 16 (fun j => nI (m_lens xl keep c j)))) e (g_ob 3 [.ref ef, .ref el, .int (nI (m_kept xl keep c))]))
def iv_E_cutTo (σ : gS) (e el c0 v t N keep : Nat) (xf xl : Nat → Nat) (kk : Nat → Bool) : Nat → gK := fun k pc lv st σ' c z => ∃ i, i ≤ c0 ∧ k = c0 - i ∧ pc = 11 ∧ lv = [some (.ref e), some (.int (nI keep)), some (.ref v), some (.int (nI (keep - m_sum xl i))), some (.int (nI (m_freed xl keep i))), some (.int (nI (m_kept xl keep i))), some (.int (nI i))] ∧ st = [] ∧ σ' = g_up (g_up σ t (g_ia 1 N (fun j => b2i (m_cut kk xf xl keep i j)))) el (g_ia 0 16 (fun j => nI (m_lens xl keep i j))) ∧ c = 0 ∧ z = 0
def T_E_cutTo : gT := gTT [(9, 3, 0, 1, 2), (15, 3, 1, 1, 2), (18, 3, 2, 0, 1)] [(32, 3, 7, sp_V_giveBack, 0, 0)] [] [] [] [(26, 2)]
theorem tf_E_cutTo_9 : (T_E_cutTo).1 9 = some (3, 0, 1, 2) := rfl
theorem tf_E_cutTo_15 : (T_E_cutTo).1 15 = some (3, 1, 1, 2) := rfl
theorem tf_E_cutTo_18 : (T_E_cutTo).1 18 = some (3, 2, 0, 1) := rfl
theorem tc_E_cutTo_32 : (T_E_cutTo).2.1 32 = some (3, 7, sp_V_giveBack, 0, 0) := rfl
theorem tm_E_cutTo_32 : (T_E_cutTo).2.2.2.2.2 32 = none := rfl
theorem tm_E_cutTo_26 : (T_E_cutTo).2.2.2.2.2 26 = some 2 := rfl
theorem t_E_cutTo (l : Launch) (sc : gX) : g_TOK l sc (gRm 3 0 0) (T_E_cutTo) gEl "DataSets$Extents" gCl gTb gNs gAT gAO := gTT_ok
  (List.forall_mem_cons.mpr ⟨⟨R_E, F_E, 3, t_E 0, rfl, by decide, rfl, by decide +kernel, rfl, by decide, Or.inl ⟨wd102, by decide⟩⟩, List.forall_mem_cons.mpr ⟨⟨R_E, F_E, 3, t_E 1, rfl, by decide, rfl, by decide +kernel, rfl, by decide, Or.inl ⟨wd104, by decide⟩⟩, List.forall_mem_cons.mpr ⟨⟨R_E, F_E, 3, t_E 2, rfl, by decide, rfl, by decide +kernel, rfl, by decide, Or.inl ⟨wd106, by decide⟩⟩, fun _ h => absurd h List.not_mem_nil⟩⟩⟩)
  (List.forall_mem_cons.mpr ⟨⟨y_V_giveBack, b_V_giveBack, 3, _, gRm 2 0 0, k_V_giveBack l sc, rfl, rfl, by decide, by decide, wd258, wd25, ⟨by decide, by decide⟩, Or.inl wd255, ⟨by decide +kernel, wd256, R_V, F_V, 1, rfl, wd257⟩⟩, fun _ h => absurd h List.not_mem_nil⟩)
  (fun _ h => absurd h List.not_mem_nil)
  (fun _ h => absurd h List.not_mem_nil)
  (fun _ h => absurd h List.not_mem_nil)
  (List.forall_mem_cons.mpr ⟨⟨(fun h => by cases h), (fun h => by cases h), fun _ => ⟨wd254, wd48, wd26, gTb_in 49 (by decide +kernel) rfl⟩⟩, fun _ h => absurd h List.not_mem_nil⟩)
set_option maxHeartbeats 4000000 in
set_option maxRecDepth 100000 in
theorem k_E_cutTo (l : Launch) (sc : gX) : g_Met l sc gCl gTb gNs gAT gAO y_E_cutTo b_E_cutTo 9 (some .int) (gRm 3 0 0) (sp_E_cutTo) 0 0 := by
  refine g_meth (T := (T_E_cutTo)) (el := gEl) (ini := false) (rk := 1) (code := c_E_cutTo) gG_ok (t_E_cutTo l sc) (by decide) (by decide) rfl ⟨rfl, rfl, by decide, by decide⟩ ok_E_cutTo ?_
  intro av σ P hsp
  obtain ⟨e, ef, el, cc, v, t, N, keep, xf, xl, kk, rfl, ⟨he, hf, hl, hne⟩, ⟨hc, hb⟩, ⟨hv, ht⟩, hN, hfit, hkeep, hP⟩ := hsp
  have n1 := g_ne_oi he hf
  have n2 := g_ne_oi he hl
  have n3 := g_ne_oi he ht
  have n4 := g_ne_oi hv hl
  have n5 := g_ne_oi hv ht
  have n6 := g_ne_ii hf ht (by decide)
  have n7 := g_ne_ii hl ht (by decide)
  refine ⟨by simp [lg_sl, Value.category], iv_E_cutTo σ e el cc v t N keep xf xl kk, ⟨200, ?_⟩, ?_⟩
  · simp only [w_iload_1, w_istore_3, w_iconst, w_istore, w_iload, w_aload_0, w_get, w_icmp_ge, w_iload_3, w_iald, w_invokestatic, w_isub, w_aload_2, w_iadd, w_invokevirtual, w_iast, w_if_le, w_iinc, w_goto, w_put, w_iret, go_E_cutTo_0, go_E_cutTo_1, go_E_cutTo_2, go_E_cutTo_3, go_E_cutTo_5, go_E_cutTo_6, go_E_cutTo_8, go_E_cutTo_9, go_E_cutTo_11, go_E_cutTo_13, go_E_cutTo_14, go_E_cutTo_17, go_E_cutTo_20, go_E_cutTo_21, go_E_cutTo_22, go_E_cutTo_25, go_E_cutTo_27, go_E_cutTo_28, go_E_cutTo_31, go_E_cutTo_33, go_E_cutTo_34, go_E_cutTo_37, go_E_cutTo_39, go_E_cutTo_40, go_E_cutTo_42, go_E_cutTo_43, go_E_cutTo_45, go_E_cutTo_46, go_E_cutTo_47, go_E_cutTo_50, go_E_cutTo_52, go_E_cutTo_53, go_E_cutTo_55, go_E_cutTo_56, go_E_cutTo_58, go_E_cutTo_61, go_E_cutTo_62, go_E_cutTo_65, go_E_cutTo_67, go_E_cutTo_69, go_E_cutTo_70, go_E_cutTo_71, go_E_cutTo_73, go_E_cutTo_74, go_E_cutTo_75, go_E_cutTo_77, go_E_cutTo_79, go_E_cutTo_80, go_E_cutTo_82, go_E_cutTo_84, go_E_cutTo_87, go_E_cutTo_90, go_E_cutTo_93, go_E_cutTo_96, go_E_cutTo_97, go_E_cutTo_99, go_E_cutTo_102, go_E_cutTo_104, at_E_cutTo_0, at_E_cutTo_11, tf_E_cutTo_9, tf_E_cutTo_15, tf_E_cutTo_18, tc_E_cutTo_32, tm_E_cutTo_32, tm_E_cutTo_26, s_opt, s_oI, s_oL, s_oA, s_oAN, s_set0, s_set1, s_setn0, s_setn1, s_ok0, s_okn, s_oki, s_okr, s_okN, s_oko, s_oks, s_c1i, s_c1r, s_c1n, s_fi, s_fr, s_fn, s_fl, s_fz, s_rd, s_pt, s_ai, s_lds, s_ldsN, s_al, s_ar, s_cls, s_leni, s_lenz, s_lenr, s_lenN, s_lenl, s_rc0, s_rc1, s_rcv, s_clo, s_clx, s_cln, s_cl1, s_cl2, s_cl3, s_cl4, s_cl5, s_sw1, s_sw2, s_min0, s_min1, s_min2, List.getElem?_cons_zero, List.getElem?_cons_succ, List.take_succ_cons, List.take_zero, List.length_cons, List.length_nil, List.set_cons_zero, List.set_cons_succ, List.cons_append, List.nil_append, Option.toList_some, Option.toList_none, Nat.reduceAdd, Nat.reduceSub, Nat.reduceLeDiff, Nat.reduceLT, Nat.reduceEqDiff, Nat.zero_add, Nat.add_zero, Nat.le_refl, Nat.zero_le, true_and, and_true, true_or, or_true, or_false, false_or, and_self, not_false_eq_true, Nat.one_ne_zero, Nat.zero_ne_one, reduceCtorEq, false_and, and_false, g_ent, lg_sl, List.flatMap_cons, List.flatMap_nil, List.map_cons, List.map_nil, Value.category, ite_true, ite_false, if_true, if_false, if_pos, gEl, Option.isSome_some, s_c12, s_p12, s_c16, s_p16, s_c20, s_p20, s_c30, s_p30, s_c60, s_p60, s_c100, s_p100, s_c500, s_p500, s_c61, s_p61, s_c1952, s_p1952, s_c732, s_p732, s_c1830, s_p1830, s_c2000, s_p2000, not_true_eq_false, true_implies, false_implies, implies_true]
    refine ⟨cc, 0, Nat.zero_le _, rfl, rfl, rfl, rfl, ?_, rfl, rfl⟩
    have e1 : g_up σ t (g_ia 1 N (fun j => b2i (m_cut kk xf xl keep 0 j))) = σ := g_up_same ht
    have e2 : (fun j => nI (m_lens xl keep 0 j)) = fun j => nI (xl j) := by funext j; simp [m_lens]
    rw [e1, e2, g_up_same hl]
  · rintro k pc lv st σ' c z ⟨i, hi, rfl, rfl, rfl, rfl, rfl, rfl, rfl⟩
    refine ⟨200, ?_⟩
    have hcl : (nI i).toNatClampNeg = i := pk_cl i
    have hfb : m_freed xl keep i ≤ i * 500 := m_sum_le i (fun j hj => by have := (hb j (by omega)).2; omega)
    have hkb : m_kept xl keep i ≤ i := m_cnt_le _ i
    simp only [w_iload_1, w_istore_3, w_iconst, w_istore, w_iload, w_aload_0, w_get, w_icmp_ge, w_iload_3, w_iald, w_invokestatic, w_isub, w_aload_2, w_iadd, w_invokevirtual, w_iast, w_if_le, w_iinc, w_goto, w_put, w_iret, go_E_cutTo_0, go_E_cutTo_1, go_E_cutTo_2, go_E_cutTo_3, go_E_cutTo_5, go_E_cutTo_6, go_E_cutTo_8, go_E_cutTo_9, go_E_cutTo_11, go_E_cutTo_13, go_E_cutTo_14, go_E_cutTo_17, go_E_cutTo_20, go_E_cutTo_21, go_E_cutTo_22, go_E_cutTo_25, go_E_cutTo_27, go_E_cutTo_28, go_E_cutTo_31, go_E_cutTo_33, go_E_cutTo_34, go_E_cutTo_37, go_E_cutTo_39, go_E_cutTo_40, go_E_cutTo_42, go_E_cutTo_43, go_E_cutTo_45, go_E_cutTo_46, go_E_cutTo_47, go_E_cutTo_50, go_E_cutTo_52, go_E_cutTo_53, go_E_cutTo_55, go_E_cutTo_56, go_E_cutTo_58, go_E_cutTo_61, go_E_cutTo_62, go_E_cutTo_65, go_E_cutTo_67, go_E_cutTo_69, go_E_cutTo_70, go_E_cutTo_71, go_E_cutTo_73, go_E_cutTo_74, go_E_cutTo_75, go_E_cutTo_77, go_E_cutTo_79, go_E_cutTo_80, go_E_cutTo_82, go_E_cutTo_84, go_E_cutTo_87, go_E_cutTo_90, go_E_cutTo_93, go_E_cutTo_96, go_E_cutTo_97, go_E_cutTo_99, go_E_cutTo_102, go_E_cutTo_104, at_E_cutTo_0, at_E_cutTo_11, tf_E_cutTo_9, tf_E_cutTo_15, tf_E_cutTo_18, tc_E_cutTo_32, tm_E_cutTo_32, tm_E_cutTo_26, s_opt, s_oI, s_oL, s_oA, s_oAN, s_set0, s_set1, s_setn0, s_setn1, s_ok0, s_okn, s_oki, s_okr, s_okN, s_oko, s_oks, s_c1i, s_c1r, s_c1n, s_fi, s_fr, s_fn, s_fl, s_fz, s_rd, s_pt, s_ai, s_lds, s_ldsN, s_al, s_ar, s_cls, s_leni, s_lenz, s_lenr, s_lenN, s_lenl, s_rc0, s_rc1, s_rcv, s_clo, s_clx, s_cln, s_cl1, s_cl2, s_cl3, s_cl4, s_cl5, s_sw1, s_sw2, s_min0, s_min1, s_min2, List.getElem?_cons_zero, List.getElem?_cons_succ, List.take_succ_cons, List.take_zero, List.length_cons, List.length_nil, List.set_cons_zero, List.set_cons_succ, List.cons_append, List.nil_append, Option.toList_some, Option.toList_none, Nat.reduceAdd, Nat.reduceSub, Nat.reduceLeDiff, Nat.reduceLT, Nat.reduceEqDiff, Nat.zero_add, Nat.add_zero, Nat.le_refl, Nat.zero_le, true_and, and_true, true_or, or_true, or_false, false_or, and_self, not_false_eq_true, Nat.one_ne_zero, Nat.zero_ne_one, reduceCtorEq, false_and, and_false, g_ent, lg_sl, List.flatMap_cons, List.flatMap_nil, List.map_cons, List.map_nil, Value.category, ite_true, ite_false, if_true, if_false, if_pos, gEl, Option.isSome_some, s_c12, s_p12, s_c16, s_p16, s_c20, s_p20, s_c30, s_p30, s_c60, s_p60, s_c100, s_p100, s_c500, s_p500, s_c61, s_p61, s_c1952, s_p1952, s_c732, s_p732, s_c1830, s_p1830, s_c2000, s_p2000, not_true_eq_false, true_implies, false_implies, implies_true, he, hf, hl, hv, ht, hcl, g_up_s, g_up_n n1, g_up_n n2, g_up_n n3, g_up_n n4, g_up_n n5, g_up_n n6, g_up_n n7, g_up_n hne]
    refine pk_le cc i (fun h => ?_) (fun h => ?_)
    · have : i = cc := by omega
      subst this
      exact hP
    · have hbi := hb i (by omega)
      have hfi := hfit i (by omega)
      have hli : m_lens xl keep i i = xl i := by simp [m_lens]
      have hst : (if nI (m_lens xl keep i i) < nI (keep - m_sum xl i) then nI (m_lens xl keep i i) else nI (keep - m_sum xl i)) = nI (m_stay xl keep i) := by
        rw [hli]
        unfold m_stay
        by_cases hq : xl i < keep - m_sum xl i
        · rw [if_pos ((nI_ltI (by omega) (by omega)).mpr hq), Nat.min_eq_right (by omega)]
        · rw [if_neg (fun z => hq ((nI_ltI (by omega) (by omega)).mp z)), Nat.min_eq_left (by omega)]
      have hsl : m_stay xl keep i ≤ xl i := Nat.min_le_right _ _
      have hsl2 : m_stay xl keep i ≤ keep - m_sum xl i := Nat.min_le_left _ _
      rw [hst, hli, pk_sub hsl, nI_add]
      refine ⟨pk_in i 16 (by omega), pk_in i 16 (by omega), pk_in i 16 (by omega), v, t, N, xf i + m_stay xl keep i, xl i - m_stay xl keep i, m_cut kk xf xl keep i, rfl, ⟨by rw [g_up_n n4, g_up_n n5]; exact hv, by rw [g_up_n (Ne.symm n7), g_up_s]⟩, hN, by omega, ?_⟩
      have e9 : g_up (g_up (g_up σ t (g_ia 1 N (fun j => b2i (m_cut kk xf xl keep i j)))) el (g_ia 0 16 (fun j => nI (m_lens xl keep i j)))) t (g_ia 1 N (fun j => b2i (m_fill (m_cut kk xf xl keep i) (xf i + m_stay xl keep i) (xl i - m_stay xl keep i) false j))) = g_up (g_up σ t (g_ia 1 N (fun j => b2i (m_cut kk xf xl keep (i + 1) j)))) el (g_ia 0 16 (fun j => nI (m_lens xl keep i j))) := by
        rw [g_up_comm n7, g_up_up]; rfl
      rw [e9]
      simp only [w_iload_1, w_istore_3, w_iconst, w_istore, w_iload, w_aload_0, w_get, w_icmp_ge, w_iload_3, w_iald, w_invokestatic, w_isub, w_aload_2, w_iadd, w_invokevirtual, w_iast, w_if_le, w_iinc, w_goto, w_put, w_iret, go_E_cutTo_0, go_E_cutTo_1, go_E_cutTo_2, go_E_cutTo_3, go_E_cutTo_5, go_E_cutTo_6, go_E_cutTo_8, go_E_cutTo_9, go_E_cutTo_11, go_E_cutTo_13, go_E_cutTo_14, go_E_cutTo_17, go_E_cutTo_20, go_E_cutTo_21, go_E_cutTo_22, go_E_cutTo_25, go_E_cutTo_27, go_E_cutTo_28, go_E_cutTo_31, go_E_cutTo_33, go_E_cutTo_34, go_E_cutTo_37, go_E_cutTo_39, go_E_cutTo_40, go_E_cutTo_42, go_E_cutTo_43, go_E_cutTo_45, go_E_cutTo_46, go_E_cutTo_47, go_E_cutTo_50, go_E_cutTo_52, go_E_cutTo_53, go_E_cutTo_55, go_E_cutTo_56, go_E_cutTo_58, go_E_cutTo_61, go_E_cutTo_62, go_E_cutTo_65, go_E_cutTo_67, go_E_cutTo_69, go_E_cutTo_70, go_E_cutTo_71, go_E_cutTo_73, go_E_cutTo_74, go_E_cutTo_75, go_E_cutTo_77, go_E_cutTo_79, go_E_cutTo_80, go_E_cutTo_82, go_E_cutTo_84, go_E_cutTo_87, go_E_cutTo_90, go_E_cutTo_93, go_E_cutTo_96, go_E_cutTo_97, go_E_cutTo_99, go_E_cutTo_102, go_E_cutTo_104, at_E_cutTo_0, at_E_cutTo_11, tf_E_cutTo_9, tf_E_cutTo_15, tf_E_cutTo_18, tc_E_cutTo_32, tm_E_cutTo_32, tm_E_cutTo_26, s_opt, s_oI, s_oL, s_oA, s_oAN, s_set0, s_set1, s_setn0, s_setn1, s_ok0, s_okn, s_oki, s_okr, s_okN, s_oko, s_oks, s_c1i, s_c1r, s_c1n, s_fi, s_fr, s_fn, s_fl, s_fz, s_rd, s_pt, s_ai, s_lds, s_ldsN, s_al, s_ar, s_cls, s_leni, s_lenz, s_lenr, s_lenN, s_lenl, s_rc0, s_rc1, s_rcv, s_clo, s_clx, s_cln, s_cl1, s_cl2, s_cl3, s_cl4, s_cl5, s_sw1, s_sw2, s_min0, s_min1, s_min2, List.getElem?_cons_zero, List.getElem?_cons_succ, List.take_succ_cons, List.take_zero, List.length_cons, List.length_nil, List.set_cons_zero, List.set_cons_succ, List.cons_append, List.nil_append, Option.toList_some, Option.toList_none, Nat.reduceAdd, Nat.reduceSub, Nat.reduceLeDiff, Nat.reduceLT, Nat.reduceEqDiff, Nat.zero_add, Nat.add_zero, Nat.le_refl, Nat.zero_le, true_and, and_true, true_or, or_true, or_false, false_or, and_self, not_false_eq_true, Nat.one_ne_zero, Nat.zero_ne_one, reduceCtorEq, false_and, and_false, g_ent, lg_sl, List.flatMap_cons, List.flatMap_nil, List.map_cons, List.map_nil, Value.category, ite_true, ite_false, if_true, if_false, if_pos, gEl, Option.isSome_some, s_c12, s_p12, s_c16, s_p16, s_c20, s_p20, s_c30, s_p30, s_c60, s_p60, s_c100, s_p100, s_c500, s_p500, s_c61, s_p61, s_c1952, s_p1952, s_c732, s_p732, s_c1830, s_p1830, s_c2000, s_p2000, not_true_eq_false, true_implies, false_implies, implies_true, he, hf, hl, hv, ht, hcl, g_up_s, g_up_n n1, g_up_n n2, g_up_n n3, g_up_n n4, g_up_n n5, g_up_n n6, g_up_n n7, g_up_n hne]
      have go : ∀ x, x = nI (m_kept xl keep (i + 1)) → ∃ k', k' < cc - i ∧ iv_E_cutTo σ e el cc v t N keep xf xl kk k' 11 [some (.ref e), some (.int (nI keep)), some (.ref v), some (.int (nI (keep - m_sum xl i) - nI (m_stay xl keep i))), some (.int (nI (m_freed xl keep i) + nI (xl i - m_stay xl keep i))), some (.int x), some (.int (nI i + 1))] [] (g_up (g_up (g_up σ t (g_ia 1 N (fun j => b2i (m_cut kk xf xl keep (i + 1) j)))) el (g_ia 0 16 (fun j => nI (m_lens xl keep i j)))) el (g_ia 0 16 (upd (fun j => nI (m_lens xl keep i j)) i (nI (m_stay xl keep i))))) 0 0 := by
        intro x hx
        refine ⟨cc - (i + 1), by omega, i + 1, by omega, rfl, rfl, ?_, rfl, ?_, rfl, rfl⟩
        · rw [hx, nI_1, nI_add, pk_sub hsl2]
          have e1 : keep - m_sum xl i - m_stay xl keep i = keep - m_sum xl (i + 1) := by
            show keep - m_sum xl i - min (keep - m_sum xl i) (xl i) = keep - (m_sum xl i + xl i)
            omega
          rw [e1]; rfl
        · rw [g_up_up, m_updN]
          have e2 : (fun j => nI (va_up (m_lens xl keep i) i (m_stay xl keep i) j)) = fun j => nI (m_lens xl keep (i + 1) j) := by
            funext j
            unfold va_up m_lens
            by_cases hj : j = i
            · subst hj; rw [if_pos rfl, if_pos (by omega)]
            · rw [if_neg hj]
              by_cases hj2 : j < i
              · simp only [hj2, if_true]; rw [if_pos (by omega)]
              · simp only [hj2, if_false]; rw [if_neg (by omega)]
          rw [e2]
      refine ⟨pk_in i 16 (by omega), pk_le (m_stay xl keep i) 0 (fun h2 => ?_) (fun h2 => ?_)⟩
      · refine go _ ?_
        have e3 : m_kept xl keep (i + 1) = m_kept xl keep i := by
          show _ + (if decide (0 < m_stay xl keep i) = true then 1 else 0) = _
          rw [decide_eq_false (by omega)]; rfl
        rw [e3]
      · refine go _ ?_
        have e3 : m_kept xl keep (i + 1) = m_kept xl keep i + 1 := by
          show _ + (if decide (0 < m_stay xl keep i) = true then 1 else 0) = _
          rw [decide_eq_true (by omega)]; rfl
        rw [e3, nI_1]
