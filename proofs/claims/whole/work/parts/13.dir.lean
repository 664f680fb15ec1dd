/-- a directory: the object, its three arrays; how many members, tracks given; names, starts, lengths -/
def rDir (σ : gS) (r a1 a2 a3 c g : Nat) (dn ds dl : Nat → Nat) : Prop := σ r = some (g_ob 2 [.ref a1, .ref a2, .ref a3, .int (nI c), .int (nI g)]) ∧ σ a1 = some (g_ia 0 12 (fun j => nI (dn j))) ∧ σ a2 = some (g_ia 0 12 (fun j => nI (ds j))) ∧ σ a3 = some (g_ia 0 12 (fun j => nI (dl j))) ∧ a1 ≠ a2 ∧ a1 ≠ a3 ∧ a2 ≠ a3
def bDir (c g : Nat) (ds dl : Nat → Nat) : Prop := c ≤ 12 ∧ g ≤ 100000 ∧ ∀ j, j < c → ds j ≤ 100000 ∧ dl j ≤ 500
def sp_D_init : gSpec := fun av σ P => ∃ (e : Nat), av = [.ref e] ∧ σ e = some (g_ob 2 [.null, .null, .null, .int 0, .int 0]) ∧ ∀ q1 q2 q3, σ q1 = none → σ q2 = none → σ q3 = none → q1 ≠ q2 → q1 ≠ q3 → q2 ≠ q3 → P none (g_up (g_up (g_up (g_up σ q1 (g_ia 0 12 (fun _ => nI 0))) q2 (g_ia 0 12 (fun _ => nI 0))) q3 (g_ia 0 12 (fun _ => nI 0))) e (g_ob 2 [.ref q1, .ref q2, .ref q3, .int (nI 0), .int (nI 0)]))
def T_D_init : gT := gTT [(9, 2, 0, 1, 2), (15, 2, 1, 1, 2), (18, 2, 2, 1, 2), (21, 2, 3, 0, 1), (25, 2, 4, 0, 1)] [] [] [] [] [(3, 0)]
theorem tf_D_init_9 : (T_D_init).1 9 = some (2, 0, 1, 2) := rfl
theorem tf_D_init_15 : (T_D_init).1 15 = some (2, 1, 1, 2) := rfl
theorem tf_D_init_18 : (T_D_init).1 18 = some (2, 2, 1, 2) := rfl
theorem tf_D_init_21 : (T_D_init).1 21 = some (2, 3, 0, 1) := rfl
theorem tf_D_init_25 : (T_D_init).1 25 = some (2, 4, 0, 1) := rfl
theorem tm_D_init_3 : (T_D_init).2.2.2.2.2 3 = some 0 := rfl
theorem t_D_init (l : Launch) (sc : gX) : g_TOK l sc (gRm 1 3 36) (T_D_init) gEl "DataSets$Directory" gCl gTb gNs gAT gAO := gTT_ok
  (List.forall_mem_cons.mpr ⟨⟨R_D, F_D, 5, t_D 0, rfl, by decide, rfl, by decide +kernel, rfl, by decide, Or.inl ⟨wd122, by decide⟩⟩, List.forall_mem_cons.mpr ⟨⟨R_D, F_D, 5, t_D 1, rfl, by decide, rfl, by decide +kernel, rfl, by decide, Or.inl ⟨wd123, by decide⟩⟩, List.forall_mem_cons.mpr ⟨⟨R_D, F_D, 5, t_D 2, rfl, by decide, rfl, by decide +kernel, rfl, by decide, Or.inl ⟨wd124, by decide⟩⟩, List.forall_mem_cons.mpr ⟨⟨R_D, F_D, 5, t_D 3, rfl, by decide, rfl, by decide +kernel, rfl, by decide, Or.inl ⟨wd125, by decide⟩⟩, List.forall_mem_cons.mpr ⟨⟨R_D, F_D, 5, t_D 4, rfl, by decide, rfl, by decide +kernel, rfl, by decide, Or.inl ⟨wd126, by decide⟩⟩, fun _ h => absurd h List.not_mem_nil⟩⟩⟩⟩⟩)
  (fun _ h => absurd h List.not_mem_nil)
  (fun _ h => absurd h List.not_mem_nil)
  (fun _ h => absurd h List.not_mem_nil)
  (fun _ h => absurd h List.not_mem_nil)
  (List.forall_mem_cons.mpr ⟨⟨fun _ => ⟨wd121, wd39, gTb_in 40 (by decide +kernel) rfl⟩, (fun h => by cases h), (fun h => by cases h)⟩, fun _ h => absurd h List.not_mem_nil⟩)
set_option maxHeartbeats 4000000 in
set_option maxRecDepth 100000 in
theorem k_D_init (l : Launch) (sc : gX) : g_Met l sc gCl gTb gNs gAT gAO y_D_init b_D_init 1 none (gRm 1 3 36) (sp_D_init) 3 36 := by
  refine g_meth (T := (T_D_init)) (el := gEl) (ini := true) (rk := 0) (code := c_D_init) gG_ok (t_D_init l sc) (by decide) (by decide) rfl ⟨rfl, rfl, by decide, by decide⟩ ok_D_init ?_
  intro av σ P hsp
  obtain ⟨e, rfl, he, hP⟩ := hsp
  refine ⟨by simp [lg_sl, Value.category], fun _ _ _ _ _ _ _ => False, ⟨200, ?_⟩, fun _ _ _ _ _ _ _ h => h.elim⟩
  simp only [w_aload_0, w_invokespecial, w_bipush, w_newa_int, w_put, w_iconst, w_ret, go_D_init_0, go_D_init_1, go_D_init_4, go_D_init_5, go_D_init_7, go_D_init_9, go_D_init_12, go_D_init_13, go_D_init_15, go_D_init_17, go_D_init_20, go_D_init_21, go_D_init_23, go_D_init_25, go_D_init_28, go_D_init_29, go_D_init_30, go_D_init_33, go_D_init_34, go_D_init_35, go_D_init_38, at_D_init_0, tf_D_init_9, tf_D_init_15, tf_D_init_18, tf_D_init_21, tf_D_init_25, tm_D_init_3, s_opt, s_oI, s_oL, s_oA, s_oAN, s_set0, s_set1, s_setn0, s_setn1, s_ok0, s_okn, s_oki, s_okr, s_okN, s_oko, s_oks, s_c1i, s_c1r, s_c1n, s_fi, s_fr, s_fn, s_fl, s_fz, s_rd, s_pt, s_ai, s_lds, s_ldsN, s_al, s_ar, s_cls, s_leni, s_lenz, s_lenr, s_lenN, s_lenl, s_rc0, s_rc1, s_rcv, s_clo, s_clx, s_cln, s_cl1, s_cl2, s_cl3, s_cl4, s_cl5, s_sw1, s_sw2, s_min0, s_min1, s_min2, List.getElem?_cons_zero, List.getElem?_cons_succ, List.take_succ_cons, List.take_zero, List.length_cons, List.length_nil, List.set_cons_zero, List.set_cons_succ, List.cons_append, List.nil_append, Option.toList_some, Option.toList_none, Nat.reduceAdd, Nat.reduceSub, Nat.reduceLeDiff, Nat.reduceLT, Nat.reduceEqDiff, Nat.zero_add, Nat.add_zero, Nat.le_refl, Nat.zero_le, true_and, and_true, true_or, or_true, or_false, false_or, and_self, not_false_eq_true, Nat.one_ne_zero, Nat.zero_ne_one, reduceCtorEq, false_and, and_false, g_ent, lg_sl, List.flatMap_cons, List.flatMap_nil, List.map_cons, List.map_nil, Value.category, ite_true, ite_false, if_true, if_false, if_pos, gEl, Option.isSome_some, s_c12, s_p12, s_c16, s_p16, s_c20, s_p20, s_c30, s_p30, s_c60, s_p60, s_c100, s_p100, s_c500, s_p500, s_c61, s_p61, s_c1952, s_p1952, s_c732, s_p732, s_c1830, s_p1830, s_c2000, s_p2000, not_true_eq_false, true_implies, false_implies, implies_true, he]
  refine fun q1 h1 => ?_
  have n1 := g_ne_new he h1
  simp only [w_aload_0, w_invokespecial, w_bipush, w_newa_int, w_put, w_iconst, w_ret, go_D_init_0, go_D_init_1, go_D_init_4, go_D_init_5, go_D_init_7, go_D_init_9, go_D_init_12, go_D_init_13, go_D_init_15, go_D_init_17, go_D_init_20, go_D_init_21, go_D_init_23, go_D_init_25, go_D_init_28, go_D_init_29, go_D_init_30, go_D_init_33, go_D_init_34, go_D_init_35, go_D_init_38, at_D_init_0, tf_D_init_9, tf_D_init_15, tf_D_init_18, tf_D_init_21, tf_D_init_25, tm_D_init_3, s_opt, s_oI, s_oL, s_oA, s_oAN, s_set0, s_set1, s_setn0, s_setn1, s_ok0, s_okn, s_oki, s_okr, s_okN, s_oko, s_oks, s_c1i, s_c1r, s_c1n, s_fi, s_fr, s_fn, s_fl, s_fz, s_rd, s_pt, s_ai, s_lds, s_ldsN, s_al, s_ar, s_cls, s_leni, s_lenz, s_lenr, s_lenN, s_lenl, s_rc0, s_rc1, s_rcv, s_clo, s_clx, s_cln, s_cl1, s_cl2, s_cl3, s_cl4, s_cl5, s_sw1, s_sw2, s_min0, s_min1, s_min2, List.getElem?_cons_zero, List.getElem?_cons_succ, List.take_succ_cons, List.take_zero, List.length_cons, List.length_nil, List.set_cons_zero, List.set_cons_succ, List.cons_append, List.nil_append, Option.toList_some, Option.toList_none, Nat.reduceAdd, Nat.reduceSub, Nat.reduceLeDiff, Nat.reduceLT, Nat.reduceEqDiff, Nat.zero_add, Nat.add_zero, Nat.le_refl, Nat.zero_le, true_and, and_true, true_or, or_true, or_false, false_or, and_self, not_false_eq_true, Nat.one_ne_zero, Nat.zero_ne_one, reduceCtorEq, false_and, and_false, g_ent, lg_sl, List.flatMap_cons, List.flatMap_nil, List.map_cons, List.map_nil, Value.category, ite_true, ite_false, if_true, if_false, if_pos, gEl, Option.isSome_some, s_c12, s_p12, s_c16, s_p16, s_c20, s_p20, s_c30, s_p30, s_c60, s_p60, s_c100, s_p100, s_c500, s_p500, s_c61, s_p61, s_c1952, s_p1952, s_c732, s_p732, s_c1830, s_p1830, s_c2000, s_p2000, not_true_eq_false, true_implies, false_implies, implies_true, he, g_up_n n1]
  refine fun q2 h2 => ?_
  have n2 : e ≠ q2 := fun z => by rw [← z, g_up_s] at h2; cases h2
  rw [g_up_n (Ne.symm n2)] at h2
  have n12 : q2 ≠ q1 := fun z => by rw [z, g_up_s] at h2; cases h2
  rw [g_up_n n12] at h2
  simp only [w_aload_0, w_invokespecial, w_bipush, w_newa_int, w_put, w_iconst, w_ret, go_D_init_0, go_D_init_1, go_D_init_4, go_D_init_5, go_D_init_7, go_D_init_9, go_D_init_12, go_D_init_13, go_D_init_15, go_D_init_17, go_D_init_20, go_D_init_21, go_D_init_23, go_D_init_25, go_D_init_28, go_D_init_29, go_D_init_30, go_D_init_33, go_D_init_34, go_D_init_35, go_D_init_38, at_D_init_0, tf_D_init_9, tf_D_init_15, tf_D_init_18, tf_D_init_21, tf_D_init_25, tm_D_init_3, s_opt, s_oI, s_oL, s_oA, s_oAN, s_set0, s_set1, s_setn0, s_setn1, s_ok0, s_okn, s_oki, s_okr, s_okN, s_oko, s_oks, s_c1i, s_c1r, s_c1n, s_fi, s_fr, s_fn, s_fl, s_fz, s_rd, s_pt, s_ai, s_lds, s_ldsN, s_al, s_ar, s_cls, s_leni, s_lenz, s_lenr, s_lenN, s_lenl, s_rc0, s_rc1, s_rcv, s_clo, s_clx, s_cln, s_cl1, s_cl2, s_cl3, s_cl4, s_cl5, s_sw1, s_sw2, s_min0, s_min1, s_min2, List.getElem?_cons_zero, List.getElem?_cons_succ, List.take_succ_cons, List.take_zero, List.length_cons, List.length_nil, List.set_cons_zero, List.set_cons_succ, List.cons_append, List.nil_append, Option.toList_some, Option.toList_none, Nat.reduceAdd, Nat.reduceSub, Nat.reduceLeDiff, Nat.reduceLT, Nat.reduceEqDiff, Nat.zero_add, Nat.add_zero, Nat.le_refl, Nat.zero_le, true_and, and_true, true_or, or_true, or_false, false_or, and_self, not_false_eq_true, Nat.one_ne_zero, Nat.zero_ne_one, reduceCtorEq, false_and, and_false, g_ent, lg_sl, List.flatMap_cons, List.flatMap_nil, List.map_cons, List.map_nil, Value.category, ite_true, ite_false, if_true, if_false, if_pos, gEl, Option.isSome_some, s_c12, s_p12, s_c16, s_p16, s_c20, s_p20, s_c30, s_p30, s_c60, s_p60, s_c100, s_p100, s_c500, s_p500, s_c61, s_p61, s_c1952, s_p1952, s_c732, s_p732, s_c1830, s_p1830, s_c2000, s_p2000, not_true_eq_false, true_implies, false_implies, implies_true, he, g_up_n n1, g_up_n n2, g_up_s]
  refine fun q3 h3 => ?_
  have n3 : e ≠ q3 := fun z => by rw [← z, g_up_s] at h3; cases h3
  rw [g_up_n (Ne.symm n3)] at h3
  have n23 : q3 ≠ q2 := fun z => by rw [z, g_up_s] at h3; cases h3
  rw [g_up_n n23, g_up_n (Ne.symm n3)] at h3
  have n13 : q3 ≠ q1 := fun z => by rw [z, g_up_s] at h3; cases h3
  rw [g_up_n n13] at h3
  simp only [w_aload_0, w_invokespecial, w_bipush, w_newa_int, w_put, w_iconst, w_ret, go_D_init_0, go_D_init_1, go_D_init_4, go_D_init_5, go_D_init_7, go_D_init_9, go_D_init_12, go_D_init_13, go_D_init_15, go_D_init_17, go_D_init_20, go_D_init_21, go_D_init_23, go_D_init_25, go_D_init_28, go_D_init_29, go_D_init_30, go_D_init_33, go_D_init_34, go_D_init_35, go_D_init_38, at_D_init_0, tf_D_init_9, tf_D_init_15, tf_D_init_18, tf_D_init_21, tf_D_init_25, tm_D_init_3, s_opt, s_oI, s_oL, s_oA, s_oAN, s_set0, s_set1, s_setn0, s_setn1, s_ok0, s_okn, s_oki, s_okr, s_okN, s_oko, s_oks, s_c1i, s_c1r, s_c1n, s_fi, s_fr, s_fn, s_fl, s_fz, s_rd, s_pt, s_ai, s_lds, s_ldsN, s_al, s_ar, s_cls, s_leni, s_lenz, s_lenr, s_lenN, s_lenl, s_rc0, s_rc1, s_rcv, s_clo, s_clx, s_cln, s_cl1, s_cl2, s_cl3, s_cl4, s_cl5, s_sw1, s_sw2, s_min0, s_min1, s_min2, List.getElem?_cons_zero, List.getElem?_cons_succ, List.take_succ_cons, List.take_zero, List.length_cons, List.length_nil, List.set_cons_zero, List.set_cons_succ, List.cons_append, List.nil_append, Option.toList_some, Option.toList_none, Nat.reduceAdd, Nat.reduceSub, Nat.reduceLeDiff, Nat.reduceLT, Nat.reduceEqDiff, Nat.zero_add, Nat.add_zero, Nat.le_refl, Nat.zero_le, true_and, and_true, true_or, or_true, or_false, false_or, and_self, not_false_eq_true, Nat.one_ne_zero, Nat.zero_ne_one, reduceCtorEq, false_and, and_false, g_ent, lg_sl, List.flatMap_cons, List.flatMap_nil, List.map_cons, List.map_nil, Value.category, ite_true, ite_false, if_true, if_false, if_pos, gEl, Option.isSome_some, s_c12, s_p12, s_c16, s_p16, s_c20, s_p20, s_c30, s_p30, s_c60, s_p60, s_c100, s_p100, s_c500, s_p500, s_c61, s_p61, s_c1952, s_p1952, s_c732, s_p732, s_c1830, s_p1830, s_c2000, s_p2000, not_true_eq_false, true_implies, false_implies, implies_true, he, g_up_n n1, g_up_n n2, g_up_n n3, g_up_s]
  have hf := hP q1 q2 q3 h1 h2 h3 (Ne.symm n12) (Ne.symm n13) (Ne.symm n23)
  refine cast ?_ hf
  congr 1
  funext w
  by_cases e0 : w = e
  · subst e0; simp [g_up, nI_0]
  · by_cases e1 : w = q1
    · subst e1; simp [g_up, n12, n13, Ne.symm n12, Ne.symm n13, e0, nI_0]
    · by_cases e2 : w = q2
      · subst e2; simp [g_up, n23, Ne.symm n23, e0, nI_0]
      · by_cases e3 : w = q3
        · subst e3; simp [g_up, e0, nI_0]
        · simp [g_up, e0, e1, e2, e3]
def sp_D_indexOf : gSpec := fun av σ P => ∃ (r a1 a2 a3 c g : Nat) (dn ds dl : Nat → Nat) (x : Int32), av = [.ref r, .int x] ∧ rDir σ r a1 a2 a3 c g dn ds dl ∧ c ≤ 12 ∧ P (some (.int (oI (m_ix (fun i => decide (nI (dn i) = x)) c 0)))) σ
def iv_D_indexOf (σ : gS) (r c0 : Nat) (x : Int32) (p : Nat → Bool) : Nat → gK := fun k pc lv st σ' c z => ∃ i, i ≤ c0 ∧ k = c0 - i ∧ pc = 2 ∧ lv = [some (.ref r), some (.int x), some (.int (nI i))] ∧ st = [] ∧ σ' = σ ∧ c = 0 ∧ z = 0 ∧ m_ix p (c0 - i) i = m_ix p c0 0
def T_D_indexOf : gT := gTT [(9, 2, 0, 1, 2), (21, 2, 3, 0, 1)] [] [] [] [] []
theorem tf_D_indexOf_9 : (T_D_indexOf).1 9 = some (2, 0, 1, 2) := rfl
theorem tf_D_indexOf_21 : (T_D_indexOf).1 21 = some (2, 3, 0, 1) := rfl
theorem t_D_indexOf (l : Launch) (sc : gX) : g_TOK l sc (gRm 1 0 0) (T_D_indexOf) gEl "DataSets$Directory" gCl gTb gNs gAT gAO := gTT_ok
  (List.forall_mem_cons.mpr ⟨⟨R_D, F_D, 5, t_D 0, rfl, by decide, rfl, by decide +kernel, rfl, by decide, Or.inl ⟨wd122, by decide⟩⟩, List.forall_mem_cons.mpr ⟨⟨R_D, F_D, 5, t_D 3, rfl, by decide, rfl, by decide +kernel, rfl, by decide, Or.inl ⟨wd125, by decide⟩⟩, fun _ h => absurd h List.not_mem_nil⟩⟩)
  (fun _ h => absurd h List.not_mem_nil)
  (fun _ h => absurd h List.not_mem_nil)
  (fun _ h => absurd h List.not_mem_nil)
  (fun _ h => absurd h List.not_mem_nil)
  (fun _ h => absurd h List.not_mem_nil)
set_option maxHeartbeats 4000000 in
set_option maxRecDepth 100000 in
theorem k_D_indexOf (l : Launch) (sc : gX) : g_Met l sc gCl gTb gNs gAT gAO y_D_indexOf b_D_indexOf 3 (some .int) (gRm 1 0 0) (sp_D_indexOf) 0 0 := by
  refine g_meth (T := (T_D_indexOf)) (el := gEl) (ini := false) (rk := 1) (code := c_D_indexOf) gG_ok (t_D_indexOf l sc) (by decide) (by decide) rfl ⟨rfl, rfl, by decide, by decide⟩ ok_D_indexOf ?_
  intro av σ P hsp
  obtain ⟨r, a1, a2, a3, cc, g, dn, ds, dl, x, rfl, ⟨hr, h1, h2, h3, n12, n13, n23⟩, hc, hP⟩ := hsp
  refine ⟨by simp [lg_sl, Value.category], iv_D_indexOf σ r cc x (fun i => decide (nI (dn i) = x)), ⟨200, ?_⟩, ?_⟩
  · simp only [w_iconst, w_istore_2, w_iload_2, w_aload_0, w_get, w_icmp_ge, w_iald, w_iload_1, w_icmp_ne, w_iret, w_iinc, w_goto, go_D_indexOf_0, go_D_indexOf_1, go_D_indexOf_2, go_D_indexOf_3, go_D_indexOf_4, go_D_indexOf_7, go_D_indexOf_10, go_D_indexOf_11, go_D_indexOf_14, go_D_indexOf_15, go_D_indexOf_16, go_D_indexOf_17, go_D_indexOf_20, go_D_indexOf_21, go_D_indexOf_22, go_D_indexOf_25, go_D_indexOf_28, go_D_indexOf_29, at_D_indexOf_0, at_D_indexOf_2, tf_D_indexOf_9, tf_D_indexOf_21, s_opt, s_oI, s_oL, s_oA, s_oAN, s_set0, s_set1, s_setn0, s_setn1, s_ok0, s_okn, s_oki, s_okr, s_okN, s_oko, s_oks, s_c1i, s_c1r, s_c1n, s_fi, s_fr, s_fn, s_fl, s_fz, s_rd, s_pt, s_ai, s_lds, s_ldsN, s_al, s_ar, s_cls, s_leni, s_lenz, s_lenr, s_lenN, s_lenl, s_rc0, s_rc1, s_rcv, s_clo, s_clx, s_cln, s_cl1, s_cl2, s_cl3, s_cl4, s_cl5, s_sw1, s_sw2, s_min0, s_min1, s_min2, List.getElem?_cons_zero, List.getElem?_cons_succ, List.take_succ_cons, List.take_zero, List.length_cons, List.length_nil, List.set_cons_zero, List.set_cons_succ, List.cons_append, List.nil_append, Option.toList_some, Option.toList_none, Nat.reduceAdd, Nat.reduceSub, Nat.reduceLeDiff, Nat.reduceLT, Nat.reduceEqDiff, Nat.zero_add, Nat.add_zero, Nat.le_refl, Nat.zero_le, true_and, and_true, true_or, or_true, or_false, false_or, and_self, not_false_eq_true, Nat.one_ne_zero, Nat.zero_ne_one, reduceCtorEq, false_and, and_false, g_ent, lg_sl, List.flatMap_cons, List.flatMap_nil, List.map_cons, List.map_nil, Value.category, ite_true, ite_false, if_true, if_false, if_pos, gEl, Option.isSome_some, s_c12, s_p12, s_c16, s_p16, s_c20, s_p20, s_c30, s_p30, s_c60, s_p60, s_c100, s_p100, s_c500, s_p500, s_c61, s_p61, s_c1952, s_p1952, s_c732, s_p732, s_c1830, s_p1830, s_c2000, s_p2000, not_true_eq_false, true_implies, false_implies, implies_true]
    exact ⟨cc, 0, Nat.zero_le _, rfl, rfl, rfl, rfl, rfl, rfl, rfl, rfl⟩
  · rintro k pc lv st σ' c z ⟨i, hi, rfl, rfl, rfl, rfl, rfl, rfl, rfl, hans⟩
    refine ⟨200, ?_⟩
    have hcl : (nI i).toNatClampNeg = i := pk_cl i
    simp only [w_iconst, w_istore_2, w_iload_2, w_aload_0, w_get, w_icmp_ge, w_iald, w_iload_1, w_icmp_ne, w_iret, w_iinc, w_goto, go_D_indexOf_0, go_D_indexOf_1, go_D_indexOf_2, go_D_indexOf_3, go_D_indexOf_4, go_D_indexOf_7, go_D_indexOf_10, go_D_indexOf_11, go_D_indexOf_14, go_D_indexOf_15, go_D_indexOf_16, go_D_indexOf_17, go_D_indexOf_20, go_D_indexOf_21, go_D_indexOf_22, go_D_indexOf_25, go_D_indexOf_28, go_D_indexOf_29, at_D_indexOf_0, at_D_indexOf_2, tf_D_indexOf_9, tf_D_indexOf_21, s_opt, s_oI, s_oL, s_oA, s_oAN, s_set0, s_set1, s_setn0, s_setn1, s_ok0, s_okn, s_oki, s_okr, s_okN, s_oko, s_oks, s_c1i, s_c1r, s_c1n, s_fi, s_fr, s_fn, s_fl, s_fz, s_rd, s_pt, s_ai, s_lds, s_ldsN, s_al, s_ar, s_cls, s_leni, s_lenz, s_lenr, s_lenN, s_lenl, s_rc0, s_rc1, s_rcv, s_clo, s_clx, s_cln, s_cl1, s_cl2, s_cl3, s_cl4, s_cl5, s_sw1, s_sw2, s_min0, s_min1, s_min2, List.getElem?_cons_zero, List.getElem?_cons_succ, List.take_succ_cons, List.take_zero, List.length_cons, List.length_nil, List.set_cons_zero, List.set_cons_succ, List.cons_append, List.nil_append, Option.toList_some, Option.toList_none, Nat.reduceAdd, Nat.reduceSub, Nat.reduceLeDiff, Nat.reduceLT, Nat.reduceEqDiff, Nat.zero_add, Nat.add_zero, Nat.le_refl, Nat.zero_le, true_and, and_true, true_or, or_true, or_false, false_or, and_self, not_false_eq_true, Nat.one_ne_zero, Nat.zero_ne_one, reduceCtorEq, false_and, and_false, g_ent, lg_sl, List.flatMap_cons, List.flatMap_nil, List.map_cons, List.map_nil, Value.category, ite_true, ite_false, if_true, if_false, if_pos, gEl, Option.isSome_some, s_c12, s_p12, s_c16, s_p16, s_c20, s_p20, s_c30, s_p30, s_c60, s_p60, s_c100, s_p100, s_c500, s_p500, s_c61, s_p61, s_c1952, s_p1952, s_c732, s_p732, s_c1830, s_p1830, s_c2000, s_p2000, not_true_eq_false, true_implies, false_implies, implies_true, hr, h1, hcl]
    refine pk_le cc i (fun h => ?_) (fun h => ?_)
    · have : i = cc := by omega
      subst this
      rw [Nat.sub_self] at hans
      have h0 : m_ix (fun i => decide (nI (dn i) = x)) i 0 = none := hans.symm
      rw [h0] at hP
      exact hP
    · have hfr : m_ix (fun i => decide (nI (dn i) = x)) (cc - i) i = if decide (nI (dn i) = x) = true then some i else m_ix (fun i => decide (nI (dn i) = x)) (cc - (i + 1)) (i + 1) := by
        rw [show cc - i = (cc - (i + 1)) + 1 by omega]
        rfl
      refine ⟨pk_in i 12 (by omega), fun hne => ?_, fun he => ?_⟩
      · rw [decide_eq_false hne] at hfr
        refine ⟨cc - (i + 1), by omega, i + 1, by omega, rfl, rfl, by rw [nI_1], rfl, rfl, rfl, rfl, ?_⟩
        rw [← hans, hfr]; rfl
      · rw [decide_eq_true (Classical.byContradiction he)] at hfr
        rw [← hans, hfr] at hP
        exact hP
def sp_D_hasRoomFor : gSpec := fun av σ P => ∃ (r a1 a2 a3 c g : Nat) (dn ds dl : Nat → Nat) (x : Int32), av = [.ref r, .int x] ∧ rDir σ r a1 a2 a3 c g dn ds dl ∧ c ≤ 12 ∧ P (some (.int (b2i (decide (c < 12) || (m_ix (fun i => decide (nI (dn i) = x)) c 0).isSome)))) σ
def T_D_hasRoomFor : gT := gTT [(21, 2, 3, 0, 1)] [(28, 2, 4, sp_D_indexOf, 0, 0)] [] [] [] []
theorem tf_D_hasRoomFor_21 : (T_D_hasRoomFor).1 21 = some (2, 3, 0, 1) := rfl
theorem tc_D_hasRoomFor_28 : (T_D_hasRoomFor).2.1 28 = some (2, 4, sp_D_indexOf, 0, 0) := rfl
theorem tm_D_hasRoomFor_28 : (T_D_hasRoomFor).2.2.2.2.2 28 = none := rfl
theorem t_D_hasRoomFor (l : Launch) (sc : gX) : g_TOK l sc (gRm 2 0 0) (T_D_hasRoomFor) gEl "DataSets$Directory" gCl gTb gNs gAT gAO := gTT_ok
  (List.forall_mem_cons.mpr ⟨⟨R_D, F_D, 5, t_D 3, rfl, by decide, rfl, by decide +kernel, rfl, by decide, Or.inl ⟨wd125, by decide⟩⟩, fun _ h => absurd h List.not_mem_nil⟩)
  (List.forall_mem_cons.mpr ⟨⟨y_D_indexOf, b_D_indexOf, 3, _, gRm 1 0 0, k_D_indexOf l sc, rfl, rfl, by decide, by decide, wd217, wd30, ⟨by decide, by decide⟩, Or.inl wd214, ⟨by decide +kernel, wd216, R_D, F_D, 5, rfl, wd3⟩⟩, fun _ h => absurd h List.not_mem_nil⟩)
  (fun _ h => absurd h List.not_mem_nil)
  (fun _ h => absurd h List.not_mem_nil)
  (fun _ h => absurd h List.not_mem_nil)
  (fun _ h => absurd h List.not_mem_nil)
set_option maxHeartbeats 4000000 in
set_option maxRecDepth 100000 in
theorem k_D_hasRoomFor (l : Launch) (sc : gX) : g_Met l sc gCl gTb gNs gAT gAO y_D_hasRoomFor b_D_hasRoomFor 2 (some .boolean) (gRm 2 0 0) (sp_D_hasRoomFor) 0 0 := by
  refine g_meth (T := (T_D_hasRoomFor)) (el := gEl) (ini := false) (rk := 2) (code := c_D_hasRoomFor) gG_ok (t_D_hasRoomFor l sc) (by decide) (by decide) rfl ⟨rfl, rfl, by decide, by decide⟩ ok_D_hasRoomFor ?_
  intro av σ P hsp
  obtain ⟨r, a1, a2, a3, cc, g, dn, ds, dl, x, rfl, hR, hc, hP⟩ := hsp
  have hr := hR.1
  refine ⟨by simp [lg_sl, Value.category], fun _ _ _ _ _ _ _ => False, ⟨200, ?_⟩, fun _ _ _ _ _ _ _ h => h.elim⟩
  simp only [w_aload_0, w_get, w_bipush, w_icmp_lt, w_iload_1, w_invokevirtual, w_iconst, w_icmp_eq, w_goto, w_iret, go_D_hasRoomFor_0, go_D_hasRoomFor_1, go_D_hasRoomFor_4, go_D_hasRoomFor_6, go_D_hasRoomFor_9, go_D_hasRoomFor_10, go_D_hasRoomFor_11, go_D_hasRoomFor_14, go_D_hasRoomFor_15, go_D_hasRoomFor_18, go_D_hasRoomFor_19, go_D_hasRoomFor_22, go_D_hasRoomFor_23, at_D_hasRoomFor_0, tf_D_hasRoomFor_21, tc_D_hasRoomFor_28, tm_D_hasRoomFor_28, s_opt, s_oI, s_oL, s_oA, s_oAN, s_set0, s_set1, s_setn0, s_setn1, s_ok0, s_okn, s_oki, s_okr, s_okN, s_oko, s_oks, s_c1i, s_c1r, s_c1n, s_fi, s_fr, s_fn, s_fl, s_fz, s_rd, s_pt, s_ai, s_lds, s_ldsN, s_al, s_ar, s_cls, s_leni, s_lenz, s_lenr, s_lenN, s_lenl, s_rc0, s_rc1, s_rcv, s_clo, s_clx, s_cln, s_cl1, s_cl2, s_cl3, s_cl4, s_cl5, s_sw1, s_sw2, s_min0, s_min1, s_min2, List.getElem?_cons_zero, List.getElem?_cons_succ, List.take_succ_cons, List.take_zero, List.length_cons, List.length_nil, List.set_cons_zero, List.set_cons_succ, List.cons_append, List.nil_append, Option.toList_some, Option.toList_none, Nat.reduceAdd, Nat.reduceSub, Nat.reduceLeDiff, Nat.reduceLT, Nat.reduceEqDiff, Nat.zero_add, Nat.add_zero, Nat.le_refl, Nat.zero_le, true_and, and_true, true_or, or_true, or_false, false_or, and_self, not_false_eq_true, Nat.one_ne_zero, Nat.zero_ne_one, reduceCtorEq, false_and, and_false, g_ent, lg_sl, List.flatMap_cons, List.flatMap_nil, List.map_cons, List.map_nil, Value.category, ite_true, ite_false, if_true, if_false, if_pos, gEl, Option.isSome_some, s_c12, s_p12, s_c16, s_p16, s_c20, s_p20, s_c30, s_p30, s_c60, s_p60, s_c100, s_p100, s_c500, s_p500, s_c61, s_p61, s_c1952, s_p1952, s_c732, s_p732, s_c1830, s_p1830, s_c2000, s_p2000, not_true_eq_false, true_implies, false_implies, implies_true, hr]
  refine pk_lt cc 12 (fun h => ?_) (fun h => ?_)
  · rw [decide_eq_true h] at hP
    exact hP
  · rw [decide_eq_false (by omega)] at hP
    refine ⟨r, a1, a2, a3, cc, g, dn, ds, dl, x, rfl, hR, hc, ?_⟩
    simp only [w_aload_0, w_get, w_bipush, w_icmp_lt, w_iload_1, w_invokevirtual, w_iconst, w_icmp_eq, w_goto, w_iret, go_D_hasRoomFor_0, go_D_hasRoomFor_1, go_D_hasRoomFor_4, go_D_hasRoomFor_6, go_D_hasRoomFor_9, go_D_hasRoomFor_10, go_D_hasRoomFor_11, go_D_hasRoomFor_14, go_D_hasRoomFor_15, go_D_hasRoomFor_18, go_D_hasRoomFor_19, go_D_hasRoomFor_22, go_D_hasRoomFor_23, at_D_hasRoomFor_0, tf_D_hasRoomFor_21, tc_D_hasRoomFor_28, tm_D_hasRoomFor_28, s_opt, s_oI, s_oL, s_oA, s_oAN, s_set0, s_set1, s_setn0, s_setn1, s_ok0, s_okn, s_oki, s_okr, s_okN, s_oko, s_oks, s_c1i, s_c1r, s_c1n, s_fi, s_fr, s_fn, s_fl, s_fz, s_rd, s_pt, s_ai, s_lds, s_ldsN, s_al, s_ar, s_cls, s_leni, s_lenz, s_lenr, s_lenN, s_lenl, s_rc0, s_rc1, s_rcv, s_clo, s_clx, s_cln, s_cl1, s_cl2, s_cl3, s_cl4, s_cl5, s_sw1, s_sw2, s_min0, s_min1, s_min2, List.getElem?_cons_zero, List.getElem?_cons_succ, List.take_succ_cons, List.take_zero, List.length_cons, List.length_nil, List.set_cons_zero, List.set_cons_succ, List.cons_append, List.nil_append, Option.toList_some, Option.toList_none, Nat.reduceAdd, Nat.reduceSub, Nat.reduceLeDiff, Nat.reduceLT, Nat.reduceEqDiff, Nat.zero_add, Nat.add_zero, Nat.le_refl, Nat.zero_le, true_and, and_true, true_or, or_true, or_false, false_or, and_self, not_false_eq_true, Nat.one_ne_zero, Nat.zero_ne_one, reduceCtorEq, false_and, and_false, g_ent, lg_sl, List.flatMap_cons, List.flatMap_nil, List.map_cons, List.map_nil, Value.category, ite_true, ite_false, if_true, if_false, if_pos, gEl, Option.isSome_some, s_c12, s_p12, s_c16, s_p16, s_c20, s_p20, s_c30, s_p30, s_c60, s_p60, s_c100, s_p100, s_c500, s_p500, s_c61, s_p61, s_c1952, s_p1952, s_c732, s_p732, s_c1830, s_p1830, s_c2000, s_p2000, not_true_eq_false, true_implies, false_implies, implies_true]
    refine pk_o (m_ix (fun i => decide (nI (dn i) = x)) cc 0) (fun hn => ?_) (fun a ha => ?_) (fun a ha => by have := (m_ix_some _ _ _ ha).2.1; omega)
    · rw [hn] at hP
      exact hP
    · rw [ha] at hP
      exact hP
def m_startOf (dn ds dl : Nat → Nat) (c : Nat) (x : Int32) : Option Nat := match m_ix (fun i => decide (nI (dn i) = x)) c 0 with
  | none => none
  | some i => if dl i = 0 then none else some (ds i)
def sp_D_startOf : gSpec := fun av σ P => ∃ (r a1 a2 a3 c g : Nat) (dn ds dl : Nat → Nat) (x : Int32), av = [.ref r, .int x] ∧ rDir σ r a1 a2 a3 c g dn ds dl ∧ bDir c g ds dl ∧ P (some (.int (oI (m_startOf dn ds dl c x)))) σ
def T_D_startOf : gT := gTT [(15, 2, 1, 1, 2), (18, 2, 2, 1, 2)] [(28, 2, 4, sp_D_indexOf, 0, 0)] [] [] [] []
theorem tf_D_startOf_15 : (T_D_startOf).1 15 = some (2, 1, 1, 2) := rfl
theorem tf_D_startOf_18 : (T_D_startOf).1 18 = some (2, 2, 1, 2) := rfl
theorem tc_D_startOf_28 : (T_D_startOf).2.1 28 = some (2, 4, sp_D_indexOf, 0, 0) := rfl
theorem tm_D_startOf_28 : (T_D_startOf).2.2.2.2.2 28 = none := rfl
theorem t_D_startOf (l : Launch) (sc : gX) : g_TOK l sc (gRm 2 0 0) (T_D_startOf) gEl "DataSets$Directory" gCl gTb gNs gAT gAO := gTT_ok
  (List.forall_mem_cons.mpr ⟨⟨R_D, F_D, 5, t_D 1, rfl, by decide, rfl, by decide +kernel, rfl, by decide, Or.inl ⟨wd123, by decide⟩⟩, List.forall_mem_cons.mpr ⟨⟨R_D, F_D, 5, t_D 2, rfl, by decide, rfl, by decide +kernel, rfl, by decide, Or.inl ⟨wd124, by decide⟩⟩, fun _ h => absurd h List.not_mem_nil⟩⟩)
  (List.forall_mem_cons.mpr ⟨⟨y_D_indexOf, b_D_indexOf, 3, _, gRm 1 0 0, k_D_indexOf l sc, rfl, rfl, by decide, by decide, wd217, wd30, ⟨by decide, by decide⟩, Or.inl wd214, ⟨by decide +kernel, wd216, R_D, F_D, 5, rfl, wd3⟩⟩, fun _ h => absurd h List.not_mem_nil⟩)
  (fun _ h => absurd h List.not_mem_nil)
  (fun _ h => absurd h List.not_mem_nil)
  (fun _ h => absurd h List.not_mem_nil)
  (fun _ h => absurd h List.not_mem_nil)
set_option maxHeartbeats 4000000 in
set_option maxRecDepth 100000 in
theorem k_D_startOf (l : Launch) (sc : gX) : g_Met l sc gCl gTb gNs gAT gAO y_D_startOf b_D_startOf 3 (some .int) (gRm 2 0 0) (sp_D_startOf) 0 0 := by
  refine g_meth (T := (T_D_startOf)) (el := gEl) (ini := false) (rk := 1) (code := c_D_startOf) gG_ok (t_D_startOf l sc) (by decide) (by decide) rfl ⟨rfl, rfl, by decide, by decide⟩ ok_D_startOf ?_
  intro av σ P hsp
  obtain ⟨r, a1, a2, a3, cc, g, dn, ds, dl, x, rfl, hR, ⟨hc, hg, hb⟩, hP⟩ := hsp
  obtain ⟨hr, h1, h2, h3, n12, n13, n23⟩ := id hR
  refine ⟨by simp [lg_sl, Value.category], fun _ _ _ _ _ _ _ => False, ⟨200, ?_⟩, fun _ _ _ _ _ _ _ h => h.elim⟩
  simp only [w_aload_0, w_iload_1, w_invokevirtual, w_istore_2, w_iload_2, w_iconst, w_icmp_eq, w_get, w_iald, w_if_ne, w_goto, w_iret, go_D_startOf_0, go_D_startOf_1, go_D_startOf_2, go_D_startOf_5, go_D_startOf_6, go_D_startOf_7, go_D_startOf_8, go_D_startOf_11, go_D_startOf_12, go_D_startOf_15, go_D_startOf_16, go_D_startOf_17, go_D_startOf_20, go_D_startOf_21, go_D_startOf_24, go_D_startOf_25, go_D_startOf_28, go_D_startOf_29, go_D_startOf_30, at_D_startOf_0, tf_D_startOf_15, tf_D_startOf_18, tc_D_startOf_28, tm_D_startOf_28, s_opt, s_oI, s_oL, s_oA, s_oAN, s_set0, s_set1, s_setn0, s_setn1, s_ok0, s_okn, s_oki, s_okr, s_okN, s_oko, s_oks, s_c1i, s_c1r, s_c1n, s_fi, s_fr, s_fn, s_fl, s_fz, s_rd, s_pt, s_ai, s_lds, s_ldsN, s_al, s_ar, s_cls, s_leni, s_lenz, s_lenr, s_lenN, s_lenl, s_rc0, s_rc1, s_rcv, s_clo, s_clx, s_cln, s_cl1, s_cl2, s_cl3, s_cl4, s_cl5, s_sw1, s_sw2, s_min0, s_min1, s_min2, List.getElem?_cons_zero, List.getElem?_cons_succ, List.take_succ_cons, List.take_zero, List.length_cons, List.length_nil, List.set_cons_zero, List.set_cons_succ, List.cons_append, List.nil_append, Option.toList_some, Option.toList_none, Nat.reduceAdd, Nat.reduceSub, Nat.reduceLeDiff, Nat.reduceLT, Nat.reduceEqDiff, Nat.zero_add, Nat.add_zero, Nat.le_refl, Nat.zero_le, true_and, and_true, true_or, or_true, or_false, false_or, and_self, not_false_eq_true, Nat.one_ne_zero, Nat.zero_ne_one, reduceCtorEq, false_and, and_false, g_ent, lg_sl, List.flatMap_cons, List.flatMap_nil, List.map_cons, List.map_nil, Value.category, ite_true, ite_false, if_true, if_false, if_pos, gEl, Option.isSome_some, s_c12, s_p12, s_c16, s_p16, s_c20, s_p20, s_c30, s_p30, s_c60, s_p60, s_c100, s_p100, s_c500, s_p500, s_c61, s_p61, s_c1952, s_p1952, s_c732, s_p732, s_c1830, s_p1830, s_c2000, s_p2000, not_true_eq_false, true_implies, false_implies, implies_true, hr]
  refine ⟨r, a1, a2, a3, cc, g, dn, ds, dl, x, rfl, hR, hc, ?_⟩
  unfold m_startOf at hP
  cases ho : m_ix (fun i => decide (nI (dn i) = x)) cc 0 with
  | none =>
    rw [ho] at hP
    simp only [w_aload_0, w_iload_1, w_invokevirtual, w_istore_2, w_iload_2, w_iconst, w_icmp_eq, w_get, w_iald, w_if_ne, w_goto, w_iret, go_D_startOf_0, go_D_startOf_1, go_D_startOf_2, go_D_startOf_5, go_D_startOf_6, go_D_startOf_7, go_D_startOf_8, go_D_startOf_11, go_D_startOf_12, go_D_startOf_15, go_D_startOf_16, go_D_startOf_17, go_D_startOf_20, go_D_startOf_21, go_D_startOf_24, go_D_startOf_25, go_D_startOf_28, go_D_startOf_29, go_D_startOf_30, at_D_startOf_0, tf_D_startOf_15, tf_D_startOf_18, tc_D_startOf_28, tm_D_startOf_28, s_opt, s_oI, s_oL, s_oA, s_oAN, s_set0, s_set1, s_setn0, s_setn1, s_ok0, s_okn, s_oki, s_okr, s_okN, s_oko, s_oks, s_c1i, s_c1r, s_c1n, s_fi, s_fr, s_fn, s_fl, s_fz, s_rd, s_pt, s_ai, s_lds, s_ldsN, s_al, s_ar, s_cls, s_leni, s_lenz, s_lenr, s_lenN, s_lenl, s_rc0, s_rc1, s_rcv, s_clo, s_clx, s_cln, s_cl1, s_cl2, s_cl3, s_cl4, s_cl5, s_sw1, s_sw2, s_min0, s_min1, s_min2, List.getElem?_cons_zero, List.getElem?_cons_succ, List.take_succ_cons, List.take_zero, List.length_cons, List.length_nil, List.set_cons_zero, List.set_cons_succ, List.cons_append, List.nil_append, Option.toList_some, Option.toList_none, Nat.reduceAdd, Nat.reduceSub, Nat.reduceLeDiff, Nat.reduceLT, Nat.reduceEqDiff, Nat.zero_add, Nat.add_zero, Nat.le_refl, Nat.zero_le, true_and, and_true, true_or, or_true, or_false, false_or, and_self, not_false_eq_true, Nat.one_ne_zero, Nat.zero_ne_one, reduceCtorEq, false_and, and_false, g_ent, lg_sl, List.flatMap_cons, List.flatMap_nil, List.map_cons, List.map_nil, Value.category, ite_true, ite_false, if_true, if_false, if_pos, gEl, Option.isSome_some, s_c12, s_p12, s_c16, s_p16, s_c20, s_p20, s_c30, s_p30, s_c60, s_p60, s_c100, s_p100, s_c500, s_p500, s_c61, s_p61, s_c1952, s_p1952, s_c732, s_p732, s_c1830, s_p1830, s_c2000, s_p2000, not_true_eq_false, true_implies, false_implies, implies_true, hr]
    exact ⟨fun _ => hP, fun h => absurd rfl h⟩
  | some a =>
    rw [ho] at hP
    have ha := (m_ix_some _ _ _ ho).2.1
    have hb2 := hb a (by omega)
    have hcl : (nI a).toNatClampNeg = a := pk_cl a
    have hoi : oI (some a) = nI a := rfl
    simp only [w_aload_0, w_iload_1, w_invokevirtual, w_istore_2, w_iload_2, w_iconst, w_icmp_eq, w_get, w_iald, w_if_ne, w_goto, w_iret, go_D_startOf_0, go_D_startOf_1, go_D_startOf_2, go_D_startOf_5, go_D_startOf_6, go_D_startOf_7, go_D_startOf_8, go_D_startOf_11, go_D_startOf_12, go_D_startOf_15, go_D_startOf_16, go_D_startOf_17, go_D_startOf_20, go_D_startOf_21, go_D_startOf_24, go_D_startOf_25, go_D_startOf_28, go_D_startOf_29, go_D_startOf_30, at_D_startOf_0, tf_D_startOf_15, tf_D_startOf_18, tc_D_startOf_28, tm_D_startOf_28, s_opt, s_oI, s_oL, s_oA, s_oAN, s_set0, s_set1, s_setn0, s_setn1, s_ok0, s_okn, s_oki, s_okr, s_okN, s_oko, s_oks, s_c1i, s_c1r, s_c1n, s_fi, s_fr, s_fn, s_fl, s_fz, s_rd, s_pt, s_ai, s_lds, s_ldsN, s_al, s_ar, s_cls, s_leni, s_lenz, s_lenr, s_lenN, s_lenl, s_rc0, s_rc1, s_rcv, s_clo, s_clx, s_cln, s_cl1, s_cl2, s_cl3, s_cl4, s_cl5, s_sw1, s_sw2, s_min0, s_min1, s_min2, List.getElem?_cons_zero, List.getElem?_cons_succ, List.take_succ_cons, List.take_zero, List.length_cons, List.length_nil, List.set_cons_zero, List.set_cons_succ, List.cons_append, List.nil_append, Option.toList_some, Option.toList_none, Nat.reduceAdd, Nat.reduceSub, Nat.reduceLeDiff, Nat.reduceLT, Nat.reduceEqDiff, Nat.zero_add, Nat.add_zero, Nat.le_refl, Nat.zero_le, true_and, and_true, true_or, or_true, or_false, false_or, and_self, not_false_eq_true, Nat.one_ne_zero, Nat.zero_ne_one, reduceCtorEq, false_and, and_false, g_ent, lg_sl, List.flatMap_cons, List.flatMap_nil, List.map_cons, List.map_nil, Value.category, ite_true, ite_false, if_true, if_false, if_pos, gEl, Option.isSome_some, s_c12, s_p12, s_c16, s_p16, s_c20, s_p20, s_c30, s_p30, s_c60, s_p60, s_c100, s_p100, s_c500, s_p500, s_c61, s_p61, s_c1952, s_p1952, s_c732, s_p732, s_c1830, s_p1830, s_c2000, s_p2000, not_true_eq_false, true_implies, false_implies, implies_true, hr, h2, h3, hcl, hoi]
    refine ⟨fun z => absurd z (oI_ne (by omega)), fun _ => ⟨pk_in a 12 (by omega), pk_ne (dl a) 0 (fun h => ?_) (fun h => ?_)⟩⟩
    · dsimp only at hP
      rw [if_neg h] at hP
      exact ⟨pk_in a 12 (by omega), hP⟩
    · dsimp only at hP
      rw [if_pos h] at hP
      exact hP
def sp_D_drop : gSpec := fun av σ P => ∃ (r a1 a2 a3 c g : Nat) (dn ds dl : Nat → Nat) (x : Int32), av = [.ref r, .int x] ∧ rDir σ r a1 a2 a3 c g dn ds dl ∧ c ≤ 12 ∧ ∀ o, o = m_ix (fun i => decide (nI (dn i) = x)) c 0 → P none (g_up (g_up (g_up (g_up σ a1 (g_ia 0 12 (fun j => nI (m_dr o c dn j)))) a2 (g_ia 0 12 (fun j => nI (m_dr o c ds j)))) a3 (g_ia 0 12 (fun j => nI (m_dr o c dl j)))) r (g_ob 2 [.ref a1, .ref a2, .ref a3, .int (nI (m_dc o c)), .int (nI g)]))
def iv_D_drop (σ : gS) (r a1 a2 a3 c0 a : Nat) (x : Int32) (dn ds dl : Nat → Nat) : Nat → gK := fun k pc lv st σ' c z => ∃ i, a ≤ i ∧ i + 1 ≤ c0 ∧ k = c0 - i ∧ pc = 14 ∧ lv = [some (.ref r), some (.int x), some (.int (nI a)), some (.int (nI i))] ∧ st = [] ∧ σ' = g_up (g_up (g_up σ a1 (g_ia 0 12 (fun j => nI (m_sh dn a i j)))) a2 (g_ia 0 12 (fun j => nI (m_sh ds a i j)))) a3 (g_ia 0 12 (fun j => nI (m_sh dl a i j))) ∧ c = 0 ∧ z = 0
def T_D_drop : gT := gTT [(9, 2, 0, 1, 2), (15, 2, 1, 1, 2), (18, 2, 2, 1, 2), (21, 2, 3, 0, 1)] [(28, 2, 4, sp_D_indexOf, 0, 0)] [] [] [] []
theorem tf_D_drop_9 : (T_D_drop).1 9 = some (2, 0, 1, 2) := rfl
theorem tf_D_drop_15 : (T_D_drop).1 15 = some (2, 1, 1, 2) := rfl
theorem tf_D_drop_18 : (T_D_drop).1 18 = some (2, 2, 1, 2) := rfl
theorem tf_D_drop_21 : (T_D_drop).1 21 = some (2, 3, 0, 1) := rfl
theorem tc_D_drop_28 : (T_D_drop).2.1 28 = some (2, 4, sp_D_indexOf, 0, 0) := rfl
theorem tm_D_drop_28 : (T_D_drop).2.2.2.2.2 28 = none := rfl
theorem t_D_drop (l : Launch) (sc : gX) : g_TOK l sc (gRm 2 0 0) (T_D_drop) gEl "DataSets$Directory" gCl gTb gNs gAT gAO := gTT_ok
  (List.forall_mem_cons.mpr ⟨⟨R_D, F_D, 5, t_D 0, rfl, by decide, rfl, by decide +kernel, rfl, by decide, Or.inl ⟨wd122, by decide⟩⟩, List.forall_mem_cons.mpr ⟨⟨R_D, F_D, 5, t_D 1, rfl, by decide, rfl, by decide +kernel, rfl, by decide, Or.inl ⟨wd123, by decide⟩⟩, List.forall_mem_cons.mpr ⟨⟨R_D, F_D, 5, t_D 2, rfl, by decide, rfl, by decide +kernel, rfl, by decide, Or.inl ⟨wd124, by decide⟩⟩, List.forall_mem_cons.mpr ⟨⟨R_D, F_D, 5, t_D 3, rfl, by decide, rfl, by decide +kernel, rfl, by decide, Or.inl ⟨wd125, by decide⟩⟩, fun _ h => absurd h List.not_mem_nil⟩⟩⟩⟩)
  (List.forall_mem_cons.mpr ⟨⟨y_D_indexOf, b_D_indexOf, 3, _, gRm 1 0 0, k_D_indexOf l sc, rfl, rfl, by decide, by decide, wd217, wd30, ⟨by decide, by decide⟩, Or.inl wd214, ⟨by decide +kernel, wd216, R_D, F_D, 5, rfl, wd3⟩⟩, fun _ h => absurd h List.not_mem_nil⟩)
  (fun _ h => absurd h List.not_mem_nil)
  (fun _ h => absurd h List.not_mem_nil)
  (fun _ h => absurd h List.not_mem_nil)
  (fun _ h => absurd h List.not_mem_nil)
set_option maxHeartbeats 4000000 in
set_option maxRecDepth 100000 in
theorem k_D_drop (l : Launch) (sc : gX) : g_Met l sc gCl gTb gNs gAT gAO y_D_drop b_D_drop 4 none (gRm 2 0 0) (sp_D_drop) 0 0 := by
  refine g_meth (T := (T_D_drop)) (el := gEl) (ini := false) (rk := 0) (code := c_D_drop) gG_ok (t_D_drop l sc) (by decide) (by decide) rfl ⟨rfl, rfl, by decide, by decide⟩ ok_D_drop ?_
  intro av σ P hsp
  obtain ⟨r, a1, a2, a3, cc, g, dn, ds, dl, x, rfl, hR, hc, hP⟩ := hsp
  obtain ⟨hr, h1, h2, h3, n12, n13, n23⟩ := id hR
  have r1 := g_ne_oi hr h1
  have r2 := g_ne_oi hr h2
  have r3 := g_ne_oi hr h3
  cases ho : m_ix (fun i => decide (nI (dn i) = x)) cc 0 with
  | none =>
    refine ⟨by simp [lg_sl, Value.category], fun _ _ _ _ _ _ _ => False, ⟨200, ?_⟩, fun _ _ _ _ _ _ _ h => h.elim⟩
    simp only [w_aload_0, w_iload_1, w_invokevirtual, w_istore_2, w_iload_2, w_iconst, w_icmp_ne, w_ret, w_istore_3, w_iload_3, w_iadd, w_get, w_icmp_ge, w_iald, w_iast, w_iinc, w_goto, w_dup, w_isub, w_put, go_D_drop_0, go_D_drop_1, go_D_drop_2, go_D_drop_5, go_D_drop_6, go_D_drop_7, go_D_drop_8, go_D_drop_11, go_D_drop_12, go_D_drop_13, go_D_drop_14, go_D_drop_15, go_D_drop_16, go_D_drop_17, go_D_drop_18, go_D_drop_21, go_D_drop_24, go_D_drop_25, go_D_drop_28, go_D_drop_29, go_D_drop_30, go_D_drop_33, go_D_drop_34, go_D_drop_35, go_D_drop_36, go_D_drop_37, go_D_drop_38, go_D_drop_39, go_D_drop_42, go_D_drop_43, go_D_drop_44, go_D_drop_47, go_D_drop_48, go_D_drop_49, go_D_drop_50, go_D_drop_51, go_D_drop_52, go_D_drop_53, go_D_drop_56, go_D_drop_57, go_D_drop_58, go_D_drop_61, go_D_drop_62, go_D_drop_63, go_D_drop_64, go_D_drop_65, go_D_drop_66, go_D_drop_69, go_D_drop_72, go_D_drop_73, go_D_drop_74, go_D_drop_77, go_D_drop_78, go_D_drop_79, go_D_drop_82, at_D_drop_0, at_D_drop_14, tf_D_drop_9, tf_D_drop_15, tf_D_drop_18, tf_D_drop_21, tc_D_drop_28, tm_D_drop_28, s_opt, s_oI, s_oL, s_oA, s_oAN, s_set0, s_set1, s_setn0, s_setn1, s_ok0, s_okn, s_oki, s_okr, s_okN, s_oko, s_oks, s_c1i, s_c1r, s_c1n, s_fi, s_fr, s_fn, s_fl, s_fz, s_rd, s_pt, s_ai, s_lds, s_ldsN, s_al, s_ar, s_cls, s_leni, s_lenz, s_lenr, s_lenN, s_lenl, s_rc0, s_rc1, s_rcv, s_clo, s_clx, s_cln, s_cl1, s_cl2, s_cl3, s_cl4, s_cl5, s_sw1, s_sw2, s_min0, s_min1, s_min2, List.getElem?_cons_zero, List.getElem?_cons_succ, List.take_succ_cons, List.take_zero, List.length_cons, List.length_nil, List.set_cons_zero, List.set_cons_succ, List.cons_append, List.nil_append, Option.toList_some, Option.toList_none, Nat.reduceAdd, Nat.reduceSub, Nat.reduceLeDiff, Nat.reduceLT, Nat.reduceEqDiff, Nat.zero_add, Nat.add_zero, Nat.le_refl, Nat.zero_le, true_and, and_true, true_or, or_true, or_false, false_or, and_self, not_false_eq_true, Nat.one_ne_zero, Nat.zero_ne_one, reduceCtorEq, false_and, and_false, g_ent, lg_sl, List.flatMap_cons, List.flatMap_nil, List.map_cons, List.map_nil, Value.category, ite_true, ite_false, if_true, if_false, if_pos, gEl, Option.isSome_some, s_c12, s_p12, s_c16, s_p16, s_c20, s_p20, s_c30, s_p30, s_c60, s_p60, s_c100, s_p100, s_c500, s_p500, s_c61, s_p61, s_c1952, s_p1952, s_c732, s_p732, s_c1830, s_p1830, s_c2000, s_p2000, not_true_eq_false, true_implies, false_implies, implies_true, hr]
    refine ⟨r, a1, a2, a3, cc, g, dn, ds, dl, x, rfl, hR, hc, ?_⟩
    rw [ho]
    simp only [w_aload_0, w_iload_1, w_invokevirtual, w_istore_2, w_iload_2, w_iconst, w_icmp_ne, w_ret, w_istore_3, w_iload_3, w_iadd, w_get, w_icmp_ge, w_iald, w_iast, w_iinc, w_goto, w_dup, w_isub, w_put, go_D_drop_0, go_D_drop_1, go_D_drop_2, go_D_drop_5, go_D_drop_6, go_D_drop_7, go_D_drop_8, go_D_drop_11, go_D_drop_12, go_D_drop_13, go_D_drop_14, go_D_drop_15, go_D_drop_16, go_D_drop_17, go_D_drop_18, go_D_drop_21, go_D_drop_24, go_D_drop_25, go_D_drop_28, go_D_drop_29, go_D_drop_30, go_D_drop_33, go_D_drop_34, go_D_drop_35, go_D_drop_36, go_D_drop_37, go_D_drop_38, go_D_drop_39, go_D_drop_42, go_D_drop_43, go_D_drop_44, go_D_drop_47, go_D_drop_48, go_D_drop_49, go_D_drop_50, go_D_drop_51, go_D_drop_52, go_D_drop_53, go_D_drop_56, go_D_drop_57, go_D_drop_58, go_D_drop_61, go_D_drop_62, go_D_drop_63, go_D_drop_64, go_D_drop_65, go_D_drop_66, go_D_drop_69, go_D_drop_72, go_D_drop_73, go_D_drop_74, go_D_drop_77, go_D_drop_78, go_D_drop_79, go_D_drop_82, at_D_drop_0, at_D_drop_14, tf_D_drop_9, tf_D_drop_15, tf_D_drop_18, tf_D_drop_21, tc_D_drop_28, tm_D_drop_28, s_opt, s_oI, s_oL, s_oA, s_oAN, s_set0, s_set1, s_setn0, s_setn1, s_ok0, s_okn, s_oki, s_okr, s_okN, s_oko, s_oks, s_c1i, s_c1r, s_c1n, s_fi, s_fr, s_fn, s_fl, s_fz, s_rd, s_pt, s_ai, s_lds, s_ldsN, s_al, s_ar, s_cls, s_leni, s_lenz, s_lenr, s_lenN, s_lenl, s_rc0, s_rc1, s_rcv, s_clo, s_clx, s_cln, s_cl1, s_cl2, s_cl3, s_cl4, s_cl5, s_sw1, s_sw2, s_min0, s_min1, s_min2, List.getElem?_cons_zero, List.getElem?_cons_succ, List.take_succ_cons, List.take_zero, List.length_cons, List.length_nil, List.set_cons_zero, List.set_cons_succ, List.cons_append, List.nil_append, Option.toList_some, Option.toList_none, Nat.reduceAdd, Nat.reduceSub, Nat.reduceLeDiff, Nat.reduceLT, Nat.reduceEqDiff, Nat.zero_add, Nat.add_zero, Nat.le_refl, Nat.zero_le, true_and, and_true, true_or, or_true, or_false, false_or, and_self, not_false_eq_true, Nat.one_ne_zero, Nat.zero_ne_one, reduceCtorEq, false_and, and_false, g_ent, lg_sl, List.flatMap_cons, List.flatMap_nil, List.map_cons, List.map_nil, Value.category, ite_true, ite_false, if_true, if_false, if_pos, gEl, Option.isSome_some, s_c12, s_p12, s_c16, s_p16, s_c20, s_p20, s_c30, s_p30, s_c60, s_p60, s_c100, s_p100, s_c500, s_p500, s_c61, s_p61, s_c1952, s_p1952, s_c732, s_p732, s_c1830, s_p1830, s_c2000, s_p2000, not_true_eq_false, true_implies, false_implies, implies_true, hr]
    have hf := hP none ho.symm
    have e1 : g_up (g_up (g_up (g_up σ a1 (g_ia 0 12 (fun j => nI (m_dr none cc dn j)))) a2 (g_ia 0 12 (fun j => nI (m_dr none cc ds j)))) a3 (g_ia 0 12 (fun j => nI (m_dr none cc dl j)))) r (g_ob 2 [.ref a1, .ref a2, .ref a3, .int (nI (m_dc none cc)), .int (nI g)]) = σ := by
      show g_up (g_up (g_up (g_up σ a1 (g_ia 0 12 (fun j => nI (dn j)))) a2 (g_ia 0 12 (fun j => nI (ds j)))) a3 (g_ia 0 12 (fun j => nI (dl j)))) r (g_ob 2 [.ref a1, .ref a2, .ref a3, .int (nI cc), .int (nI g)]) = σ
      rw [g_up_same h1, g_up_same h2, g_up_same h3, g_up_same hr]
    rw [e1] at hf
    exact ⟨fun z => absurd rfl z, fun _ => hf⟩
  | some a =>
    have ha := (m_ix_some _ _ _ ho).2.1
    refine ⟨by simp [lg_sl, Value.category], iv_D_drop σ r a1 a2 a3 cc a x dn ds dl, ⟨200, ?_⟩, ?_⟩
    · simp only [w_aload_0, w_iload_1, w_invokevirtual, w_istore_2, w_iload_2, w_iconst, w_icmp_ne, w_ret, w_istore_3, w_iload_3, w_iadd, w_get, w_icmp_ge, w_iald, w_iast, w_iinc, w_goto, w_dup, w_isub, w_put, go_D_drop_0, go_D_drop_1, go_D_drop_2, go_D_drop_5, go_D_drop_6, go_D_drop_7, go_D_drop_8, go_D_drop_11, go_D_drop_12, go_D_drop_13, go_D_drop_14, go_D_drop_15, go_D_drop_16, go_D_drop_17, go_D_drop_18, go_D_drop_21, go_D_drop_24, go_D_drop_25, go_D_drop_28, go_D_drop_29, go_D_drop_30, go_D_drop_33, go_D_drop_34, go_D_drop_35, go_D_drop_36, go_D_drop_37, go_D_drop_38, go_D_drop_39, go_D_drop_42, go_D_drop_43, go_D_drop_44, go_D_drop_47, go_D_drop_48, go_D_drop_49, go_D_drop_50, go_D_drop_51, go_D_drop_52, go_D_drop_53, go_D_drop_56, go_D_drop_57, go_D_drop_58, go_D_drop_61, go_D_drop_62, go_D_drop_63, go_D_drop_64, go_D_drop_65, go_D_drop_66, go_D_drop_69, go_D_drop_72, go_D_drop_73, go_D_drop_74, go_D_drop_77, go_D_drop_78, go_D_drop_79, go_D_drop_82, at_D_drop_0, at_D_drop_14, tf_D_drop_9, tf_D_drop_15, tf_D_drop_18, tf_D_drop_21, tc_D_drop_28, tm_D_drop_28, s_opt, s_oI, s_oL, s_oA, s_oAN, s_set0, s_set1, s_setn0, s_setn1, s_ok0, s_okn, s_oki, s_okr, s_okN, s_oko, s_oks, s_c1i, s_c1r, s_c1n, s_fi, s_fr, s_fn, s_fl, s_fz, s_rd, s_pt, s_ai, s_lds, s_ldsN, s_al, s_ar, s_cls, s_leni, s_lenz, s_lenr, s_lenN, s_lenl, s_rc0, s_rc1, s_rcv, s_clo, s_clx, s_cln, s_cl1, s_cl2, s_cl3, s_cl4, s_cl5, s_sw1, s_sw2, s_min0, s_min1, s_min2, List.getElem?_cons_zero, List.getElem?_cons_succ, List.take_succ_cons, List.take_zero, List.length_cons, List.length_nil, List.set_cons_zero, List.set_cons_succ, List.cons_append, List.nil_append, Option.toList_some, Option.toList_none, Nat.reduceAdd, Nat.reduceSub, Nat.reduceLeDiff, Nat.reduceLT, Nat.reduceEqDiff, Nat.zero_add, Nat.add_zero, Nat.le_refl, Nat.zero_le, true_and, and_true, true_or, or_true, or_false, false_or, and_self, not_false_eq_true, Nat.one_ne_zero, Nat.zero_ne_one, reduceCtorEq, false_and, and_false, g_ent, lg_sl, List.flatMap_cons, List.flatMap_nil, List.map_cons, List.map_nil, Value.category, ite_true, ite_false, if_true, if_false, if_pos, gEl, Option.isSome_some, s_c12, s_p12, s_c16, s_p16, s_c20, s_p20, s_c30, s_p30, s_c60, s_p60, s_c100, s_p100, s_c500, s_p500, s_c61, s_p61, s_c1952, s_p1952, s_c732, s_p732, s_c1830, s_p1830, s_c2000, s_p2000, not_true_eq_false, true_implies, false_implies, implies_true, hr]
      refine ⟨r, a1, a2, a3, cc, g, dn, ds, dl, x, rfl, hR, hc, ?_⟩
      rw [ho]
      have hoi : oI (some a) = nI a := rfl
      simp only [w_aload_0, w_iload_1, w_invokevirtual, w_istore_2, w_iload_2, w_iconst, w_icmp_ne, w_ret, w_istore_3, w_iload_3, w_iadd, w_get, w_icmp_ge, w_iald, w_iast, w_iinc, w_goto, w_dup, w_isub, w_put, go_D_drop_0, go_D_drop_1, go_D_drop_2, go_D_drop_5, go_D_drop_6, go_D_drop_7, go_D_drop_8, go_D_drop_11, go_D_drop_12, go_D_drop_13, go_D_drop_14, go_D_drop_15, go_D_drop_16, go_D_drop_17, go_D_drop_18, go_D_drop_21, go_D_drop_24, go_D_drop_25, go_D_drop_28, go_D_drop_29, go_D_drop_30, go_D_drop_33, go_D_drop_34, go_D_drop_35, go_D_drop_36, go_D_drop_37, go_D_drop_38, go_D_drop_39, go_D_drop_42, go_D_drop_43, go_D_drop_44, go_D_drop_47, go_D_drop_48, go_D_drop_49, go_D_drop_50, go_D_drop_51, go_D_drop_52, go_D_drop_53, go_D_drop_56, go_D_drop_57, go_D_drop_58, go_D_drop_61, go_D_drop_62, go_D_drop_63, go_D_drop_64, go_D_drop_65, go_D_drop_66, go_D_drop_69, go_D_drop_72, go_D_drop_73, go_D_drop_74, go_D_drop_77, go_D_drop_78, go_D_drop_79, go_D_drop_82, at_D_drop_0, at_D_drop_14, tf_D_drop_9, tf_D_drop_15, tf_D_drop_18, tf_D_drop_21, tc_D_drop_28, tm_D_drop_28, s_opt, s_oI, s_oL, s_oA, s_oAN, s_set0, s_set1, s_setn0, s_setn1, s_ok0, s_okn, s_oki, s_okr, s_okN, s_oko, s_oks, s_c1i, s_c1r, s_c1n, s_fi, s_fr, s_fn, s_fl, s_fz, s_rd, s_pt, s_ai, s_lds, s_ldsN, s_al, s_ar, s_cls, s_leni, s_lenz, s_lenr, s_lenN, s_lenl, s_rc0, s_rc1, s_rcv, s_clo, s_clx, s_cln, s_cl1, s_cl2, s_cl3, s_cl4, s_cl5, s_sw1, s_sw2, s_min0, s_min1, s_min2, List.getElem?_cons_zero, List.getElem?_cons_succ, List.take_succ_cons, List.take_zero, List.length_cons, List.length_nil, List.set_cons_zero, List.set_cons_succ, List.cons_append, List.nil_append, Option.toList_some, Option.toList_none, Nat.reduceAdd, Nat.reduceSub, Nat.reduceLeDiff, Nat.reduceLT, Nat.reduceEqDiff, Nat.zero_add, Nat.add_zero, Nat.le_refl, Nat.zero_le, true_and, and_true, true_or, or_true, or_false, false_or, and_self, not_false_eq_true, Nat.one_ne_zero, Nat.zero_ne_one, reduceCtorEq, false_and, and_false, g_ent, lg_sl, List.flatMap_cons, List.flatMap_nil, List.map_cons, List.map_nil, Value.category, ite_true, ite_false, if_true, if_false, if_pos, gEl, Option.isSome_some, s_c12, s_p12, s_c16, s_p16, s_c20, s_p20, s_c30, s_p30, s_c60, s_p60, s_c100, s_p100, s_c500, s_p500, s_c61, s_p61, s_c1952, s_p1952, s_c732, s_p732, s_c1830, s_p1830, s_c2000, s_p2000, not_true_eq_false, true_implies, false_implies, implies_true, hr, hoi]
      refine ⟨fun _ => ⟨cc - a, a, Nat.le_refl _, by omega, rfl, rfl, rfl, rfl, ?_, rfl, rfl⟩, fun z => absurd (oI_ne (by omega)) z⟩
      rw [m_sh_0, m_sh_0, m_sh_0, g_up_same h1, g_up_same h2, g_up_same h3]
    · rintro k pc lv st σ' c z ⟨i, hai, hi, rfl, rfl, rfl, rfl, rfl, rfl, rfl⟩
      refine ⟨200, ?_⟩
      have hcl : (nI i).toNatClampNeg = i := pk_cl i
      have hcl2 : (nI i + 1).toNatClampNeg = i + 1 := by rw [nI_1]; exact pk_cl (i + 1)
      simp only [w_aload_0, w_iload_1, w_invokevirtual, w_istore_2, w_iload_2, w_iconst, w_icmp_ne, w_ret, w_istore_3, w_iload_3, w_iadd, w_get, w_icmp_ge, w_iald, w_iast, w_iinc, w_goto, w_dup, w_isub, w_put, go_D_drop_0, go_D_drop_1, go_D_drop_2, go_D_drop_5, go_D_drop_6, go_D_drop_7, go_D_drop_8, go_D_drop_11, go_D_drop_12, go_D_drop_13, go_D_drop_14, go_D_drop_15, go_D_drop_16, go_D_drop_17, go_D_drop_18, go_D_drop_21, go_D_drop_24, go_D_drop_25, go_D_drop_28, go_D_drop_29, go_D_drop_30, go_D_drop_33, go_D_drop_34, go_D_drop_35, go_D_drop_36, go_D_drop_37, go_D_drop_38, go_D_drop_39, go_D_drop_42, go_D_drop_43, go_D_drop_44, go_D_drop_47, go_D_drop_48, go_D_drop_49, go_D_drop_50, go_D_drop_51, go_D_drop_52, go_D_drop_53, go_D_drop_56, go_D_drop_57, go_D_drop_58, go_D_drop_61, go_D_drop_62, go_D_drop_63, go_D_drop_64, go_D_drop_65, go_D_drop_66, go_D_drop_69, go_D_drop_72, go_D_drop_73, go_D_drop_74, go_D_drop_77, go_D_drop_78, go_D_drop_79, go_D_drop_82, at_D_drop_0, at_D_drop_14, tf_D_drop_9, tf_D_drop_15, tf_D_drop_18, tf_D_drop_21, tc_D_drop_28, tm_D_drop_28, s_opt, s_oI, s_oL, s_oA, s_oAN, s_set0, s_set1, s_setn0, s_setn1, s_ok0, s_okn, s_oki, s_okr, s_okN, s_oko, s_oks, s_c1i, s_c1r, s_c1n, s_fi, s_fr, s_fn, s_fl, s_fz, s_rd, s_pt, s_ai, s_lds, s_ldsN, s_al, s_ar, s_cls, s_leni, s_lenz, s_lenr, s_lenN, s_lenl, s_rc0, s_rc1, s_rcv, s_clo, s_clx, s_cln, s_cl1, s_cl2, s_cl3, s_cl4, s_cl5, s_sw1, s_sw2, s_min0, s_min1, s_min2, List.getElem?_cons_zero, List.getElem?_cons_succ, List.take_succ_cons, List.take_zero, List.length_cons, List.length_nil, List.set_cons_zero, List.set_cons_succ, List.cons_append, List.nil_append, Option.toList_some, Option.toList_none, Nat.reduceAdd, Nat.reduceSub, Nat.reduceLeDiff, Nat.reduceLT, Nat.reduceEqDiff, Nat.zero_add, Nat.add_zero, Nat.le_refl, Nat.zero_le, true_and, and_true, true_or, or_true, or_false, false_or, and_self, not_false_eq_true, Nat.one_ne_zero, Nat.zero_ne_one, reduceCtorEq, false_and, and_false, g_ent, lg_sl, List.flatMap_cons, List.flatMap_nil, List.map_cons, List.map_nil, Value.category, ite_true, ite_false, if_true, if_false, if_pos, gEl, Option.isSome_some, s_c12, s_p12, s_c16, s_p16, s_c20, s_p20, s_c30, s_p30, s_c60, s_p60, s_c100, s_p100, s_c500, s_p500, s_c61, s_p61, s_c1952, s_p1952, s_c732, s_p732, s_c1830, s_p1830, s_c2000, s_p2000, not_true_eq_false, true_implies, false_implies, implies_true, hr, h1, h2, h3, hcl, hcl2, g_up_s, g_up_n r1, g_up_n r2, g_up_n r3, g_up_n n12, g_up_n n13, g_up_n n23, g_up_n (Ne.symm n12), g_up_n (Ne.symm n13), g_up_n (Ne.symm n23)]
      refine pk_le cc (i + 1) (fun h => ?_) (fun h => ?_) rfl (nI_1 i)
      · have hf := hP (some a) ho.symm
        have e1 : cc - 1 = i := by omega
        have e2 : nI cc - 1 = nI (cc - 1) := pk_sub (a := cc) (b := 1) (by omega)
        rw [e2]
        simp only [m_dr, m_dc, e1] at hf
        rw [e1]
        exact hf
      · have q1 : vp_in (nI i) 12 := pk_in i 12 (by omega)
        have q2 : vp_in (nI i + 1) 12 := by rw [nI_1]; exact pk_in (i + 1) 12 (by omega)
        refine ⟨q2, q1, q2, q1, q2, q1, cc - (i + 1), by omega, i + 1, by omega, by omega, rfl, rfl, by rw [nI_1], rfl, ?_, rfl, rfl⟩
        rw [g_up3 n12 n13 n23, m_sh_at hai, m_sh_at hai, m_sh_at hai, m_updN, m_updN, m_updN, m_sh_s hai, m_sh_s hai, m_sh_s hai]
def sp_D_put : gSpec := fun av σ P => ∃ (r a1 a2 a3 c g n : Nat) (dn ds dl : Nat → Nat) (x : Nat), av = [.ref r, .int (nI x), .int (nI n)] ∧ rDir σ r a1 a2 a3 c g dn ds dl ∧ c ≤ 12 ∧ ∀ o, o = m_ix (fun i => decide (nI (dn i) = nI x)) c 0 → m_dc o c < 12 ∧ P none (g_up (g_up (g_up (g_up σ a1 (g_ia 0 12 (fun j => nI (va_up (m_dr o c dn) (m_dc o c) x j)))) a2 (g_ia 0 12 (fun j => nI (va_up (m_dr o c ds) (m_dc o c) g j)))) a3 (g_ia 0 12 (fun j => nI (va_up (m_dr o c dl) (m_dc o c) n j)))) r (g_ob 2 [.ref a1, .ref a2, .ref a3, .int (nI (m_dc o c + 1)), .int (nI (g + n))]))
def T_D_put : gT := gTT [(9, 2, 0, 1, 2), (15, 2, 1, 1, 2), (18, 2, 2, 1, 2), (21, 2, 3, 0, 1), (25, 2, 4, 0, 1)] [(32, 2, 4, sp_D_drop, 0, 0)] [] [] [] []
theorem tf_D_put_9 : (T_D_put).1 9 = some (2, 0, 1, 2) := rfl
theorem tf_D_put_15 : (T_D_put).1 15 = some (2, 1, 1, 2) := rfl
theorem tf_D_put_18 : (T_D_put).1 18 = some (2, 2, 1, 2) := rfl
theorem tf_D_put_21 : (T_D_put).1 21 = some (2, 3, 0, 1) := rfl
theorem tf_D_put_25 : (T_D_put).1 25 = some (2, 4, 0, 1) := rfl
theorem tc_D_put_32 : (T_D_put).2.1 32 = some (2, 4, sp_D_drop, 0, 0) := rfl
theorem tm_D_put_32 : (T_D_put).2.2.2.2.2 32 = none := rfl
theorem t_D_put (l : Launch) (sc : gX) : g_TOK l sc (gRm 3 0 0) (T_D_put) gEl "DataSets$Directory" gCl gTb gNs gAT gAO := gTT_ok
  (List.forall_mem_cons.mpr ⟨⟨R_D, F_D, 5, t_D 0, rfl, by decide, rfl, by decide +kernel, rfl, by decide, Or.inl ⟨wd122, by decide⟩⟩, List.forall_mem_cons.mpr ⟨⟨R_D, F_D, 5, t_D 1, rfl, by decide, rfl, by decide +kernel, rfl, by decide, Or.inl ⟨wd123, by decide⟩⟩, List.forall_mem_cons.mpr ⟨⟨R_D, F_D, 5, t_D 2, rfl, by decide, rfl, by decide +kernel, rfl, by decide, Or.inl ⟨wd124, by decide⟩⟩, List.forall_mem_cons.mpr ⟨⟨R_D, F_D, 5, t_D 3, rfl, by decide, rfl, by decide +kernel, rfl, by decide, Or.inl ⟨wd125, by decide⟩⟩, List.forall_mem_cons.mpr ⟨⟨R_D, F_D, 5, t_D 4, rfl, by decide, rfl, by decide +kernel, rfl, by decide, Or.inl ⟨wd126, by decide⟩⟩, fun _ h => absurd h List.not_mem_nil⟩⟩⟩⟩⟩)
  (List.forall_mem_cons.mpr ⟨⟨y_D_drop, b_D_drop, 4, _, gRm 2 0 0, k_D_drop l sc, rfl, rfl, by decide, by decide, wd229, wd30, ⟨by decide, by decide⟩, Or.inl wd226, ⟨by decide +kernel, wd228, R_D, F_D, 5, rfl, wd4⟩⟩, fun _ h => absurd h List.not_mem_nil⟩)
  (fun _ h => absurd h List.not_mem_nil)
  (fun _ h => absurd h List.not_mem_nil)
  (fun _ h => absurd h List.not_mem_nil)
  (fun _ h => absurd h List.not_mem_nil)
set_option maxHeartbeats 4000000 in
set_option maxRecDepth 100000 in
theorem k_D_put (l : Launch) (sc : gX) : g_Met l sc gCl gTb gNs gAT gAO y_D_put b_D_put 3 none (gRm 3 0 0) (sp_D_put) 0 0 := by
  refine g_meth (T := (T_D_put)) (el := gEl) (ini := false) (rk := 0) (code := c_D_put) gG_ok (t_D_put l sc) (by decide) (by decide) rfl ⟨rfl, rfl, by decide, by decide⟩ ok_D_put ?_
  intro av σ P hsp
  obtain ⟨r, a1, a2, a3, cc, g, n, dn, ds, dl, x, rfl, hR, hc, hP⟩ := hsp
  obtain ⟨hr, h1, h2, h3, n12, n13, n23⟩ := id hR
  have r1 := g_ne_oi hr h1
  have r2 := g_ne_oi hr h2
  have r3 := g_ne_oi hr h3
  refine ⟨by simp [lg_sl, Value.category], fun _ _ _ _ _ _ _ => False, ⟨200, ?_⟩, fun _ _ _ _ _ _ _ h => h.elim⟩
  simp only [w_aload_0, w_iload_1, w_invokevirtual, w_get, w_bipush, w_icmp_lt, w_ret, w_iast, w_iload_2, w_dup, w_iconst, w_iadd, w_put, go_D_put_0, go_D_put_1, go_D_put_2, go_D_put_5, go_D_put_6, go_D_put_9, go_D_put_11, go_D_put_14, go_D_put_15, go_D_put_16, go_D_put_19, go_D_put_20, go_D_put_23, go_D_put_24, go_D_put_25, go_D_put_26, go_D_put_29, go_D_put_30, go_D_put_33, go_D_put_34, go_D_put_37, go_D_put_38, go_D_put_39, go_D_put_42, go_D_put_43, go_D_put_46, go_D_put_47, go_D_put_48, go_D_put_49, go_D_put_50, go_D_put_53, go_D_put_54, go_D_put_55, go_D_put_58, go_D_put_59, go_D_put_60, go_D_put_63, go_D_put_64, go_D_put_65, go_D_put_68, at_D_put_0, tf_D_put_9, tf_D_put_15, tf_D_put_18, tf_D_put_21, tf_D_put_25, tc_D_put_32, tm_D_put_32, s_opt, s_oI, s_oL, s_oA, s_oAN, s_set0, s_set1, s_setn0, s_setn1, s_ok0, s_okn, s_oki, s_okr, s_okN, s_oko, s_oks, s_c1i, s_c1r, s_c1n, s_fi, s_fr, s_fn, s_fl, s_fz, s_rd, s_pt, s_ai, s_lds, s_ldsN, s_al, s_ar, s_cls, s_leni, s_lenz, s_lenr, s_lenN, s_lenl, s_rc0, s_rc1, s_rcv, s_clo, s_clx, s_cln, s_cl1, s_cl2, s_cl3, s_cl4, s_cl5, s_sw1, s_sw2, s_min0, s_min1, s_min2, List.getElem?_cons_zero, List.getElem?_cons_succ, List.take_succ_cons, List.take_zero, List.length_cons, List.length_nil, List.set_cons_zero, List.set_cons_succ, List.cons_append, List.nil_append, Option.toList_some, Option.toList_none, Nat.reduceAdd, Nat.reduceSub, Nat.reduceLeDiff, Nat.reduceLT, Nat.reduceEqDiff, Nat.zero_add, Nat.add_zero, Nat.le_refl, Nat.zero_le, true_and, and_true, true_or, or_true, or_false, false_or, and_self, not_false_eq_true, Nat.one_ne_zero, Nat.zero_ne_one, reduceCtorEq, false_and, and_false, g_ent, lg_sl, List.flatMap_cons, List.flatMap_nil, List.map_cons, List.map_nil, Value.category, ite_true, ite_false, if_true, if_false, if_pos, gEl, Option.isSome_some, s_c12, s_p12, s_c16, s_p16, s_c20, s_p20, s_c30, s_p30, s_c60, s_p60, s_c100, s_p100, s_c500, s_p500, s_c61, s_p61, s_c1952, s_p1952, s_c732, s_p732, s_c1830, s_p1830, s_c2000, s_p2000, not_true_eq_false, true_implies, false_implies, implies_true, hr]
  refine ⟨r, a1, a2, a3, cc, g, dn, ds, dl, nI x, rfl, hR, hc, fun o ho => ?_⟩
  obtain ⟨hlt, hf⟩ := hP o ho
  have hcl : (nI (m_dc o cc)).toNatClampNeg = m_dc o cc := pk_cl _
  simp only [w_aload_0, w_iload_1, w_invokevirtual, w_get, w_bipush, w_icmp_lt, w_ret, w_iast, w_iload_2, w_dup, w_iconst, w_iadd, w_put, go_D_put_0, go_D_put_1, go_D_put_2, go_D_put_5, go_D_put_6, go_D_put_9, go_D_put_11, go_D_put_14, go_D_put_15, go_D_put_16, go_D_put_19, go_D_put_20, go_D_put_23, go_D_put_24, go_D_put_25, go_D_put_26, go_D_put_29, go_D_put_30, go_D_put_33, go_D_put_34, go_D_put_37, go_D_put_38, go_D_put_39, go_D_put_42, go_D_put_43, go_D_put_46, go_D_put_47, go_D_put_48, go_D_put_49, go_D_put_50, go_D_put_53, go_D_put_54, go_D_put_55, go_D_put_58, go_D_put_59, go_D_put_60, go_D_put_63, go_D_put_64, go_D_put_65, go_D_put_68, at_D_put_0, tf_D_put_9, tf_D_put_15, tf_D_put_18, tf_D_put_21, tf_D_put_25, tc_D_put_32, tm_D_put_32, s_opt, s_oI, s_oL, s_oA, s_oAN, s_set0, s_set1, s_setn0, s_setn1, s_ok0, s_okn, s_oki, s_okr, s_okN, s_oko, s_oks, s_c1i, s_c1r, s_c1n, s_fi, s_fr, s_fn, s_fl, s_fz, s_rd, s_pt, s_ai, s_lds, s_ldsN, s_al, s_ar, s_cls, s_leni, s_lenz, s_lenr, s_lenN, s_lenl, s_rc0, s_rc1, s_rcv, s_clo, s_clx, s_cln, s_cl1, s_cl2, s_cl3, s_cl4, s_cl5, s_sw1, s_sw2, s_min0, s_min1, s_min2, List.getElem?_cons_zero, List.getElem?_cons_succ, List.take_succ_cons, List.take_zero, List.length_cons, List.length_nil, List.set_cons_zero, List.set_cons_succ, List.cons_append, List.nil_append, Option.toList_some, Option.toList_none, Nat.reduceAdd, Nat.reduceSub, Nat.reduceLeDiff, Nat.reduceLT, Nat.reduceEqDiff, Nat.zero_add, Nat.add_zero, Nat.le_refl, Nat.zero_le, true_and, and_true, true_or, or_true, or_false, false_or, and_self, not_false_eq_true, Nat.one_ne_zero, Nat.zero_ne_one, reduceCtorEq, false_and, and_false, g_ent, lg_sl, List.flatMap_cons, List.flatMap_nil, List.map_cons, List.map_nil, Value.category, ite_true, ite_false, if_true, if_false, if_pos, gEl, Option.isSome_some, s_c12, s_p12, s_c16, s_p16, s_c20, s_p20, s_c30, s_p30, s_c60, s_p60, s_c100, s_p100, s_c500, s_p500, s_c61, s_p61, s_c1952, s_p1952, s_c732, s_p732, s_c1830, s_p1830, s_c2000, s_p2000, not_true_eq_false, true_implies, false_implies, implies_true, hr, h1, h2, h3, hcl, g_up_s, g_up_n r1, g_up_n r2, g_up_n r3, g_up_n (Ne.symm r1), g_up_n (Ne.symm r2), g_up_n (Ne.symm r3), g_up_n n12, g_up_n n13, g_up_n n23, g_up_n (Ne.symm n12), g_up_n (Ne.symm n13), g_up_n (Ne.symm n23)]
  refine ⟨fun _ => ⟨pk_in _ 12 hlt, pk_in _ 12 hlt, pk_in _ 12 hlt, ?_⟩, fun z => absurd ((nI_ltI (by omega) (by omega)).mpr hlt) z⟩
  rw [m_updN, m_updN, m_updN, nI_1, nI_add]
  refine cast ?_ hf
  congr 1
  funext w
  by_cases e0 : w = r
  · subst e0; simp [g_up]
  · by_cases e1 : w = a1
    · subst e1; simp [g_up, n12, n13, e0]
    · by_cases e2 : w = a2
      · subst e2; simp [g_up, n23, e0]
      · by_cases e3 : w = a3
        · subst e3; simp [g_up, e0]
        · simp [g_up, e0, e1, e2, e3]
/-- starts one behind the other -/
def m_close (ds dl : Nat → Nat) (i : Nat) : Nat → Nat := fun j => if j < i then m_sum dl j else ds j
def sp_D_closeGaps : gSpec := fun av σ P => ∃ (r a1 a2 a3 c g : Nat) (dn ds dl : Nat → Nat), av = [.ref r] ∧ rDir σ r a1 a2 a3 c g dn ds dl ∧ bDir c g ds dl ∧ P (some (.int (nI g - nI (m_sum dl c)))) (g_up (g_up σ a2 (g_ia 0 12 (fun j => nI (m_close ds dl c j)))) r (g_ob 2 [.ref a1, .ref a2, .ref a3, .int (nI c), .int (nI (m_sum dl c))]))
def iv_D_closeGaps (σ : gS) (r a1 a2 a3 c0 g : Nat) (ds dl : Nat → Nat) : Nat → gK := fun k pc lv st σ' c z => ∃ i, i ≤ c0 ∧ k = c0 - i ∧ pc = 12 ∧ lv = [some (.ref r), some (.int (nI g)), some (.int (nI i))] ∧ st = [] ∧ σ' = g_up (g_up σ a2 (g_ia 0 12 (fun j => nI (m_close ds dl i j)))) r (g_ob 2 [.ref a1, .ref a2, .ref a3, .int (nI c0), .int (nI (m_sum dl i))]) ∧ c = 0 ∧ z = 0
def T_D_closeGaps : gT := gTT [(15, 2, 1, 1, 2), (18, 2, 2, 1, 2), (21, 2, 3, 0, 1), (25, 2, 4, 0, 1)] [] [] [] [] []
theorem tf_D_closeGaps_15 : (T_D_closeGaps).1 15 = some (2, 1, 1, 2) := rfl
theorem tf_D_closeGaps_18 : (T_D_closeGaps).1 18 = some (2, 2, 1, 2) := rfl
theorem tf_D_closeGaps_21 : (T_D_closeGaps).1 21 = some (2, 3, 0, 1) := rfl
theorem tf_D_closeGaps_25 : (T_D_closeGaps).1 25 = some (2, 4, 0, 1) := rfl
theorem t_D_closeGaps (l : Launch) (sc : gX) : g_TOK l sc (gRm 1 0 0) (T_D_closeGaps) gEl "DataSets$Directory" gCl gTb gNs gAT gAO := gTT_ok
  (List.forall_mem_cons.mpr ⟨⟨R_D, F_D, 5, t_D 1, rfl, by decide, rfl, by decide +kernel, rfl, by decide, Or.inl ⟨wd123, by decide⟩⟩, List.forall_mem_cons.mpr ⟨⟨R_D, F_D, 5, t_D 2, rfl, by decide, rfl, by decide +kernel, rfl, by decide, Or.inl ⟨wd124, by decide⟩⟩, List.forall_mem_cons.mpr ⟨⟨R_D, F_D, 5, t_D 3, rfl, by decide, rfl, by decide +kernel, rfl, by decide, Or.inl ⟨wd125, by decide⟩⟩, List.forall_mem_cons.mpr ⟨⟨R_D, F_D, 5, t_D 4, rfl, by decide, rfl, by decide +kernel, rfl, by decide, Or.inl ⟨wd126, by decide⟩⟩, fun _ h => absurd h List.not_mem_nil⟩⟩⟩⟩)
  (fun _ h => absurd h List.not_mem_nil)
  (fun _ h => absurd h List.not_mem_nil)
  (fun _ h => absurd h List.not_mem_nil)
  (fun _ h => absurd h List.not_mem_nil)
  (fun _ h => absurd h List.not_mem_nil)
set_option maxHeartbeats 4000000 in
set_option maxRecDepth 100000 in
theorem k_D_closeGaps (l : Launch) (sc : gX) : g_Met l sc gCl gTb gNs gAT gAO y_D_closeGaps b_D_closeGaps 3 (some .int) (gRm 1 0 0) (sp_D_closeGaps) 0 0 := by
  refine g_meth (T := (T_D_closeGaps)) (el := gEl) (ini := false) (rk := 1) (code := c_D_closeGaps) gG_ok (t_D_closeGaps l sc) (by decide) (by decide) rfl ⟨rfl, rfl, by decide, by decide⟩ ok_D_closeGaps ?_
  intro av σ P hsp
  obtain ⟨r, a1, a2, a3, cc, g, dn, ds, dl, rfl, ⟨hr, h1, h2, h3, n12, n13, n23⟩, ⟨hc, hg, hb⟩, hP⟩ := hsp
  have r1 := g_ne_oi hr h1
  have r2 := g_ne_oi hr h2
  have r3 := g_ne_oi hr h3
  refine ⟨by simp [lg_sl, Value.category], iv_D_closeGaps σ r a1 a2 a3 cc g ds dl, ⟨200, ?_⟩, ?_⟩
  · simp only [w_aload_0, w_get, w_istore_1, w_iconst, w_put, w_istore_2, w_iload_2, w_icmp_ge, w_iast, w_dup, w_iald, w_iadd, w_iinc, w_goto, w_iload_1, w_isub, w_iret, go_D_closeGaps_0, go_D_closeGaps_1, go_D_closeGaps_4, go_D_closeGaps_5, go_D_closeGaps_6, go_D_closeGaps_7, go_D_closeGaps_10, go_D_closeGaps_11, go_D_closeGaps_12, go_D_closeGaps_13, go_D_closeGaps_14, go_D_closeGaps_17, go_D_closeGaps_20, go_D_closeGaps_21, go_D_closeGaps_24, go_D_closeGaps_25, go_D_closeGaps_26, go_D_closeGaps_29, go_D_closeGaps_30, go_D_closeGaps_31, go_D_closeGaps_32, go_D_closeGaps_35, go_D_closeGaps_36, go_D_closeGaps_39, go_D_closeGaps_40, go_D_closeGaps_41, go_D_closeGaps_42, go_D_closeGaps_45, go_D_closeGaps_48, go_D_closeGaps_51, go_D_closeGaps_52, go_D_closeGaps_53, go_D_closeGaps_56, go_D_closeGaps_57, at_D_closeGaps_0, at_D_closeGaps_12, tf_D_closeGaps_15, tf_D_closeGaps_18, tf_D_closeGaps_21, tf_D_closeGaps_25, s_opt, s_oI, s_oL, s_oA, s_oAN, s_set0, s_set1, s_setn0, s_setn1, s_ok0, s_okn, s_oki, s_okr, s_okN, s_oko, s_oks, s_c1i, s_c1r, s_c1n, s_fi, s_fr, s_fn, s_fl, s_fz, s_rd, s_pt, s_ai, s_lds, s_ldsN, s_al, s_ar, s_cls, s_leni, s_lenz, s_lenr, s_lenN, s_lenl, s_rc0, s_rc1, s_rcv, s_clo, s_clx, s_cln, s_cl1, s_cl2, s_cl3, s_cl4, s_cl5, s_sw1, s_sw2, s_min0, s_min1, s_min2, List.getElem?_cons_zero, List.getElem?_cons_succ, List.take_succ_cons, List.take_zero, List.length_cons, List.length_nil, List.set_cons_zero, List.set_cons_succ, List.cons_append, List.nil_append, Option.toList_some, Option.toList_none, Nat.reduceAdd, Nat.reduceSub, Nat.reduceLeDiff, Nat.reduceLT, Nat.reduceEqDiff, Nat.zero_add, Nat.add_zero, Nat.le_refl, Nat.zero_le, true_and, and_true, true_or, or_true, or_false, false_or, and_self, not_false_eq_true, Nat.one_ne_zero, Nat.zero_ne_one, reduceCtorEq, false_and, and_false, g_ent, lg_sl, List.flatMap_cons, List.flatMap_nil, List.map_cons, List.map_nil, Value.category, ite_true, ite_false, if_true, if_false, if_pos, gEl, Option.isSome_some, s_c12, s_p12, s_c16, s_p16, s_c20, s_p20, s_c30, s_p30, s_c60, s_p60, s_c100, s_p100, s_c500, s_p500, s_c61, s_p61, s_c1952, s_p1952, s_c732, s_p732, s_c1830, s_p1830, s_c2000, s_p2000, not_true_eq_false, true_implies, false_implies, implies_true, hr]
    refine ⟨cc, 0, Nat.zero_le _, rfl, rfl, rfl, rfl, ?_, rfl, rfl⟩
    have e1 : (fun j => nI (m_close ds dl 0 j)) = fun j => nI (ds j) := by funext j; simp [m_close]
    rw [e1, g_up_same h2]; rfl
  · rintro k pc lv st σ' c z ⟨i, hi, rfl, rfl, rfl, rfl, rfl, rfl, rfl⟩
    refine ⟨200, ?_⟩
    have hcl : (nI i).toNatClampNeg = i := pk_cl i
    simp only [w_aload_0, w_get, w_istore_1, w_iconst, w_put, w_istore_2, w_iload_2, w_icmp_ge, w_iast, w_dup, w_iald, w_iadd, w_iinc, w_goto, w_iload_1, w_isub, w_iret, go_D_closeGaps_0, go_D_closeGaps_1, go_D_closeGaps_4, go_D_closeGaps_5, go_D_closeGaps_6, go_D_closeGaps_7, go_D_closeGaps_10, go_D_closeGaps_11, go_D_closeGaps_12, go_D_closeGaps_13, go_D_closeGaps_14, go_D_closeGaps_17, go_D_closeGaps_20, go_D_closeGaps_21, go_D_closeGaps_24, go_D_closeGaps_25, go_D_closeGaps_26, go_D_closeGaps_29, go_D_closeGaps_30, go_D_closeGaps_31, go_D_closeGaps_32, go_D_closeGaps_35, go_D_closeGaps_36, go_D_closeGaps_39, go_D_closeGaps_40, go_D_closeGaps_41, go_D_closeGaps_42, go_D_closeGaps_45, go_D_closeGaps_48, go_D_closeGaps_51, go_D_closeGaps_52, go_D_closeGaps_53, go_D_closeGaps_56, go_D_closeGaps_57, at_D_closeGaps_0, at_D_closeGaps_12, tf_D_closeGaps_15, tf_D_closeGaps_18, tf_D_closeGaps_21, tf_D_closeGaps_25, s_opt, s_oI, s_oL, s_oA, s_oAN, s_set0, s_set1, s_setn0, s_setn1, s_ok0, s_okn, s_oki, s_okr, s_okN, s_oko, s_oks, s_c1i, s_c1r, s_c1n, s_fi, s_fr, s_fn, s_fl, s_fz, s_rd, s_pt, s_ai, s_lds, s_ldsN, s_al, s_ar, s_cls, s_leni, s_lenz, s_lenr, s_lenN, s_lenl, s_rc0, s_rc1, s_rcv, s_clo, s_clx, s_cln, s_cl1, s_cl2, s_cl3, s_cl4, s_cl5, s_sw1, s_sw2, s_min0, s_min1, s_min2, List.getElem?_cons_zero, List.getElem?_cons_succ, List.take_succ_cons, List.take_zero, List.length_cons, List.length_nil, List.set_cons_zero, List.set_cons_succ, List.cons_append, List.nil_append, Option.toList_some, Option.toList_none, Nat.reduceAdd, Nat.reduceSub, Nat.reduceLeDiff, Nat.reduceLT, Nat.reduceEqDiff, Nat.zero_add, Nat.add_zero, Nat.le_refl, Nat.zero_le, true_and, and_true, true_or, or_true, or_false, false_or, and_self, not_false_eq_true, Nat.one_ne_zero, Nat.zero_ne_one, reduceCtorEq, false_and, and_false, g_ent, lg_sl, List.flatMap_cons, List.flatMap_nil, List.map_cons, List.map_nil, Value.category, ite_true, ite_false, if_true, if_false, if_pos, gEl, Option.isSome_some, s_c12, s_p12, s_c16, s_p16, s_c20, s_p20, s_c30, s_p30, s_c60, s_p60, s_c100, s_p100, s_c500, s_p500, s_c61, s_p61, s_c1952, s_p1952, s_c732, s_p732, s_c1830, s_p1830, s_c2000, s_p2000, not_true_eq_false, true_implies, false_implies, implies_true, hr, h1, h2, h3, hcl, g_up_s, g_up_n r1, g_up_n r2, g_up_n r3, g_up_n (Ne.symm r1), g_up_n (Ne.symm r2), g_up_n (Ne.symm r3), g_up_n n23, g_up_n (Ne.symm n23)]
    refine pk_le cc i (fun h => ?_) (fun h => ?_)
    · have : i = cc := by omega
      subst this
      exact hP
    · refine ⟨pk_in i 12 (by omega), pk_in i 12 (by omega), cc - (i + 1), by omega, i + 1, by omega, rfl, rfl, by rw [nI_1], rfl, ?_, rfl, rfl⟩
      rw [nI_add, m_updN]
      have e2 : (fun j => nI (va_up (m_close ds dl i) i (m_sum dl i) j)) = fun j => nI (m_close ds dl (i + 1) j) := by
        funext j
        unfold va_up m_close
        by_cases hj : j = i
        · subst hj; rw [if_pos rfl, if_pos (by omega)]
        · rw [if_neg hj]
          by_cases hj2 : j < i
          · simp only [hj2, if_true]; rw [if_pos (by omega)]
          · simp only [hj2, if_false]; rw [if_neg (by omega)]
      rw [e2, g_up_comm (a := r) (b := a2) r2, g_up_up, g_up_up]; rfl
