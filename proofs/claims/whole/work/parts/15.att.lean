def m_nm (x : Int32) : Bool := decide (0 ≤ x) && decide (x < 100)
def m_at (x : Int32) : Bool := decide (0 ≤ x) && decide (x < 10)
def m_jb (x : Int32) : Bool := decide (1 ≤ x) && decide (x ≤ 20)
theorem m_nn {x : Int32} (h : 0 ≤ x) : ∃ j : Nat, j < 2 ^ 31 ∧ x = nI j := nI_of (fun z => by
  rw [Int32.le_iff_toInt_le] at h
  rw [Int32.lt_iff_toInt_lt] at z
  omega)
theorem m_nm_t {x : Int32} (h : m_nm x = true) : ∃ j : Nat, j < 100 ∧ x = nI j := by
  simp only [m_nm, Bool.and_eq_true, decide_eq_true_eq] at h
  obtain ⟨j, hj, rfl⟩ := m_nn h.1
  exact ⟨j, (nI_ltI (b := 100) hj (by decide)).mp h.2, rfl⟩
theorem m_at_t {x : Int32} (h : m_at x = true) : ∃ j : Nat, j < 10 ∧ x = nI j := by
  simp only [m_at, Bool.and_eq_true, decide_eq_true_eq] at h
  obtain ⟨j, hj, rfl⟩ := m_nn h.1
  exact ⟨j, (nI_ltI (b := 10) hj (by decide)).mp h.2, rfl⟩
theorem m_jb_t {x : Int32} (h : m_jb x = true) : ∃ j : Nat, 1 ≤ j ∧ j ≤ 20 ∧ x = nI j := by
  simp only [m_jb, Bool.and_eq_true, decide_eq_true_eq] at h
  have h0 : (0 : Int32) ≤ x := Int32.le_trans (by decide) h.1
  obtain ⟨j, hj, rfl⟩ := m_nn h0
  exact ⟨j, (nI_leI (a := 1) (by decide) hj).mp h.1, (nI_leI (b := 20) hj (by decide)).mp h.2, rfl⟩
theorem m_nm_n {j : Nat} (h : j < 100) : m_nm (nI j) = true := by
  simp only [m_nm, Bool.and_eq_true, decide_eq_true_eq]
  exact ⟨nI_pos' (by omega), nI_lt (b := 100) h (by decide)⟩
theorem m_nlt {x y : Int32} : ¬ x < y ↔ y ≤ x := by
  rw [Int32.le_iff_toInt_le, Int32.lt_iff_toInt_lt]; omega
theorem m_nle {x y : Int32} : ¬ x ≤ y ↔ y < x := by
  rw [Int32.le_iff_toInt_le, Int32.lt_iff_toInt_lt]; omega
def sp_C_isName : gSpec := fun av σ P => ∃ x, av = [.int x] ∧ P (some (.int (b2i (m_nm x)))) σ
def T_C_isName : gT := gTT [] [] [] [] [] []
theorem t_C_isName (l : Launch) (sc : gX) : g_TOK l sc (gRm 1 0 0) (T_C_isName) gEl "DataSets" gCl gTb gNs gAT gAO := gTT_ok
  (fun _ h => absurd h List.not_mem_nil)
  (fun _ h => absurd h List.not_mem_nil)
  (fun _ h => absurd h List.not_mem_nil)
  (fun _ h => absurd h List.not_mem_nil)
  (fun _ h => absurd h List.not_mem_nil)
  (fun _ h => absurd h List.not_mem_nil)
set_option maxHeartbeats 4000000 in
set_option maxRecDepth 100000 in
theorem k_C_isName (l : Launch) (sc : gX) : g_Met l sc gCl gTb gNs gAT gAO y_C_isName b_C_isName 1 (some .boolean) (gRm 1 0 0) (sp_C_isName) 0 0 := by
  refine g_meth (T := (T_C_isName)) (el := gEl) (ini := false) (rk := 2) (code := c_C_isName) gG_ok (t_C_isName l sc) (by decide) (by decide) rfl ⟨rfl, rfl, by decide, by decide⟩ ok_C_isName ?_
  intro av σ P hsp
  obtain ⟨x, rfl, hP⟩ := hsp
  refine ⟨by simp [lg_sl, Value.category], fun _ _ _ _ _ _ _ => False, ⟨200, ?_⟩, fun _ _ _ _ _ _ _ h => h.elim⟩
  simp only [w_iload_0, w_if_lt, w_bipush, w_icmp_ge, w_iconst, w_goto, w_iret, go_C_isName_0, go_C_isName_1, go_C_isName_4, go_C_isName_5, go_C_isName_7, go_C_isName_10, go_C_isName_11, go_C_isName_14, go_C_isName_15, at_C_isName_0, s_opt, s_oI, s_oL, s_oA, s_oAN, s_set0, s_set1, s_setn0, s_setn1, s_ok0, s_okn, s_oki, s_okr, s_okN, s_oko, s_oks, s_c1i, s_c1r, s_c1n, s_fi, s_fr, s_fn, s_fl, s_fz, s_rd, s_pt, s_ai, s_lds, s_ldsN, s_al, s_ar, s_cls, s_leni, s_lenz, s_lenr, s_lenN, s_lenl, s_rc0, s_rc1, s_rcv, s_clo, s_clx, s_cln, s_cl1, s_cl2, s_cl3, s_cl4, s_cl5, s_sw1, s_sw2, s_min0, s_min1, s_min2, List.getElem?_cons_zero, List.getElem?_cons_succ, List.take_succ_cons, List.take_zero, List.length_cons, List.length_nil, List.set_cons_zero, List.set_cons_succ, List.cons_append, List.nil_append, Option.toList_some, Option.toList_none, Nat.reduceAdd, Nat.reduceSub, Nat.reduceLeDiff, Nat.reduceLT, Nat.reduceEqDiff, Nat.zero_add, Nat.add_zero, Nat.le_refl, Nat.zero_le, true_and, and_true, true_or, or_true, or_false, false_or, and_self, not_false_eq_true, Nat.one_ne_zero, Nat.zero_ne_one, reduceCtorEq, false_and, and_false, g_ent, lg_sl, List.flatMap_cons, List.flatMap_nil, List.map_cons, List.map_nil, Value.category, ite_true, ite_false, if_true, if_false, if_pos, gEl, Option.isSome_some, s_c12, s_p12, s_c16, s_p16, s_c20, s_p20, s_c30, s_p30, s_c60, s_p60, s_c100, s_p100, s_c500, s_p500, s_c61, s_p61, s_c1952, s_p1952, s_c732, s_p732, s_c1830, s_p1830, s_c2000, s_p2000, not_true_eq_false, true_implies, false_implies, implies_true]
  unfold m_nm at hP
  refine ⟨fun h => ?_, fun h => ⟨fun h2 => ?_, fun h2 => ?_⟩⟩
  · rw [decide_eq_false (m_nle.mpr h)] at hP; exact hP
  · rw [decide_eq_false (m_nlt.mpr h2)] at hP; simpa [b2i] using hP
  · rw [decide_eq_true (m_nlt.mp h), decide_eq_true (m_nle.mp h2)] at hP; exact hP
def sp_C_isAttribute : gSpec := fun av σ P => ∃ x, av = [.int x] ∧ P (some (.int (b2i (m_at x)))) σ
def T_C_isAttribute : gT := gTT [] [] [] [] [] []
theorem t_C_isAttribute (l : Launch) (sc : gX) : g_TOK l sc (gRm 1 0 0) (T_C_isAttribute) gEl "DataSets" gCl gTb gNs gAT gAO := gTT_ok
  (fun _ h => absurd h List.not_mem_nil)
  (fun _ h => absurd h List.not_mem_nil)
  (fun _ h => absurd h List.not_mem_nil)
  (fun _ h => absurd h List.not_mem_nil)
  (fun _ h => absurd h List.not_mem_nil)
  (fun _ h => absurd h List.not_mem_nil)
set_option maxHeartbeats 4000000 in
set_option maxRecDepth 100000 in
theorem k_C_isAttribute (l : Launch) (sc : gX) : g_Met l sc gCl gTb gNs gAT gAO y_C_isAttribute b_C_isAttribute 1 (some .boolean) (gRm 1 0 0) (sp_C_isAttribute) 0 0 := by
  refine g_meth (T := (T_C_isAttribute)) (el := gEl) (ini := false) (rk := 2) (code := c_C_isAttribute) gG_ok (t_C_isAttribute l sc) (by decide) (by decide) rfl ⟨rfl, rfl, by decide, by decide⟩ ok_C_isAttribute ?_
  intro av σ P hsp
  obtain ⟨x, rfl, hP⟩ := hsp
  refine ⟨by simp [lg_sl, Value.category], fun _ _ _ _ _ _ _ => False, ⟨200, ?_⟩, fun _ _ _ _ _ _ _ h => h.elim⟩
  simp only [w_iload_0, w_if_lt, w_bipush, w_icmp_ge, w_iconst, w_goto, w_iret, go_C_isAttribute_0, go_C_isAttribute_1, go_C_isAttribute_4, go_C_isAttribute_5, go_C_isAttribute_7, go_C_isAttribute_10, go_C_isAttribute_11, go_C_isAttribute_14, go_C_isAttribute_15, at_C_isAttribute_0, s_opt, s_oI, s_oL, s_oA, s_oAN, s_set0, s_set1, s_setn0, s_setn1, s_ok0, s_okn, s_oki, s_okr, s_okN, s_oko, s_oks, s_c1i, s_c1r, s_c1n, s_fi, s_fr, s_fn, s_fl, s_fz, s_rd, s_pt, s_ai, s_lds, s_ldsN, s_al, s_ar, s_cls, s_leni, s_lenz, s_lenr, s_lenN, s_lenl, s_rc0, s_rc1, s_rcv, s_clo, s_clx, s_cln, s_cl1, s_cl2, s_cl3, s_cl4, s_cl5, s_sw1, s_sw2, s_min0, s_min1, s_min2, List.getElem?_cons_zero, List.getElem?_cons_succ, List.take_succ_cons, List.take_zero, List.length_cons, List.length_nil, List.set_cons_zero, List.set_cons_succ, List.cons_append, List.nil_append, Option.toList_some, Option.toList_none, Nat.reduceAdd, Nat.reduceSub, Nat.reduceLeDiff, Nat.reduceLT, Nat.reduceEqDiff, Nat.zero_add, Nat.add_zero, Nat.le_refl, Nat.zero_le, true_and, and_true, true_or, or_true, or_false, false_or, and_self, not_false_eq_true, Nat.one_ne_zero, Nat.zero_ne_one, reduceCtorEq, false_and, and_false, g_ent, lg_sl, List.flatMap_cons, List.flatMap_nil, List.map_cons, List.map_nil, Value.category, ite_true, ite_false, if_true, if_false, if_pos, gEl, Option.isSome_some, s_c12, s_p12, s_c16, s_p16, s_c20, s_p20, s_c30, s_p30, s_c60, s_p60, s_c100, s_p100, s_c500, s_p500, s_c61, s_p61, s_c1952, s_p1952, s_c732, s_p732, s_c1830, s_p1830, s_c2000, s_p2000, not_true_eq_false, true_implies, false_implies, implies_true]
  unfold m_at at hP
  refine ⟨fun h => ?_, fun h => ⟨fun h2 => ?_, fun h2 => ?_⟩⟩
  · rw [decide_eq_false (m_nle.mpr h)] at hP; exact hP
  · rw [decide_eq_false (m_nlt.mpr h2)] at hP; simpa [b2i] using hP
  · rw [decide_eq_true (m_nlt.mp h), decide_eq_true (m_nle.mp h2)] at hP; exact hP
def sp_C_isJob : gSpec := fun av σ P => ∃ x, av = [.int x] ∧ P (some (.int (b2i (m_jb x)))) σ
def T_C_isJob : gT := gTT [] [] [] [] [] []
theorem t_C_isJob (l : Launch) (sc : gX) : g_TOK l sc (gRm 1 0 0) (T_C_isJob) gEl "DataSets" gCl gTb gNs gAT gAO := gTT_ok
  (fun _ h => absurd h List.not_mem_nil)
  (fun _ h => absurd h List.not_mem_nil)
  (fun _ h => absurd h List.not_mem_nil)
  (fun _ h => absurd h List.not_mem_nil)
  (fun _ h => absurd h List.not_mem_nil)
  (fun _ h => absurd h List.not_mem_nil)
set_option maxHeartbeats 4000000 in
set_option maxRecDepth 100000 in
theorem k_C_isJob (l : Launch) (sc : gX) : g_Met l sc gCl gTb gNs gAT gAO y_C_isJob b_C_isJob 1 (some .boolean) (gRm 1 0 0) (sp_C_isJob) 0 0 := by
  refine g_meth (T := (T_C_isJob)) (el := gEl) (ini := false) (rk := 2) (code := c_C_isJob) gG_ok (t_C_isJob l sc) (by decide) (by decide) rfl ⟨rfl, rfl, by decide, by decide⟩ ok_C_isJob ?_
  intro av σ P hsp
  obtain ⟨x, rfl, hP⟩ := hsp
  refine ⟨by simp [lg_sl, Value.category], fun _ _ _ _ _ _ _ => False, ⟨200, ?_⟩, fun _ _ _ _ _ _ _ h => h.elim⟩
  simp only [w_iload_0, w_iconst, w_icmp_lt, w_bipush, w_icmp_gt, w_goto, w_iret, go_C_isJob_0, go_C_isJob_1, go_C_isJob_2, go_C_isJob_5, go_C_isJob_6, go_C_isJob_8, go_C_isJob_11, go_C_isJob_12, go_C_isJob_15, go_C_isJob_16, at_C_isJob_0, s_opt, s_oI, s_oL, s_oA, s_oAN, s_set0, s_set1, s_setn0, s_setn1, s_ok0, s_okn, s_oki, s_okr, s_okN, s_oko, s_oks, s_c1i, s_c1r, s_c1n, s_fi, s_fr, s_fn, s_fl, s_fz, s_rd, s_pt, s_ai, s_lds, s_ldsN, s_al, s_ar, s_cls, s_leni, s_lenz, s_lenr, s_lenN, s_lenl, s_rc0, s_rc1, s_rcv, s_clo, s_clx, s_cln, s_cl1, s_cl2, s_cl3, s_cl4, s_cl5, s_sw1, s_sw2, s_min0, s_min1, s_min2, List.getElem?_cons_zero, List.getElem?_cons_succ, List.take_succ_cons, List.take_zero, List.length_cons, List.length_nil, List.set_cons_zero, List.set_cons_succ, List.cons_append, List.nil_append, Option.toList_some, Option.toList_none, Nat.reduceAdd, Nat.reduceSub, Nat.reduceLeDiff, Nat.reduceLT, Nat.reduceEqDiff, Nat.zero_add, Nat.add_zero, Nat.le_refl, Nat.zero_le, true_and, and_true, true_or, or_true, or_false, false_or, and_self, not_false_eq_true, Nat.one_ne_zero, Nat.zero_ne_one, reduceCtorEq, false_and, and_false, g_ent, lg_sl, List.flatMap_cons, List.flatMap_nil, List.map_cons, List.map_nil, Value.category, ite_true, ite_false, if_true, if_false, if_pos, gEl, Option.isSome_some, s_c12, s_p12, s_c16, s_p16, s_c20, s_p20, s_c30, s_p30, s_c60, s_p60, s_c100, s_p100, s_c500, s_p500, s_c61, s_p61, s_c1952, s_p1952, s_c732, s_p732, s_c1830, s_p1830, s_c2000, s_p2000, not_true_eq_false, true_implies, false_implies, implies_true]
  unfold m_jb at hP
  refine ⟨fun h => ?_, fun h => ⟨fun h2 => ?_, fun h2 => ?_⟩⟩
  · rw [decide_eq_false (m_nle.mpr h)] at hP; exact hP
  · rw [decide_eq_false (m_nle.mpr h2)] at hP; simpa [b2i] using hP
  · rw [decide_eq_true (m_nlt.mp h), decide_eq_true (m_nlt.mp h2)] at hP; exact hP
/-- attributes: the object, told, values -/
def rAtt (σ : gS) (t a1 a2 : Nat) (tt : Nat → Bool) (tv : Nat → Int32) : Prop := σ t = some (g_ob 0 [.ref a1, .ref a2]) ∧ σ a1 = some (g_ia 1 30 (fun j => b2i (tt j))) ∧ σ a2 = some (g_ia 0 30 tv)
def sp_A_init : gSpec := fun av σ P => ∃ (e : Nat), av = [.ref e] ∧ σ e = some (g_ob 0 [.null, .null]) ∧ ∀ q1 q2, σ q1 = none → σ q2 = none → q1 ≠ q2 → P none (g_up (g_up (g_up σ q1 (g_ia 1 30 (fun _ => b2i false))) q2 (g_ia 0 30 (fun _ => 0))) e (g_ob 0 [.ref q1, .ref q2]))
def T_A_init : gT := gTT [(9, 0, 0, 1, 2), (15, 0, 1, 1, 2)] [] [] [] [] [(3, 0)]
theorem tf_A_init_9 : (T_A_init).1 9 = some (0, 0, 1, 2) := rfl
theorem tf_A_init_15 : (T_A_init).1 15 = some (0, 1, 1, 2) := rfl
theorem tm_A_init_3 : (T_A_init).2.2.2.2.2 3 = some 0 := rfl
theorem t_A_init (l : Launch) (sc : gX) : g_TOK l sc (gRm 1 2 60) (T_A_init) gEl "DataSets$Attributes" gCl gTb gNs gAT gAO := gTT_ok
  (List.forall_mem_cons.mpr ⟨⟨R_A, F_A, 2, t_A 0, rfl, by decide, rfl, by decide +kernel, rfl, by decide, Or.inl ⟨wd145, by decide⟩⟩, List.forall_mem_cons.mpr ⟨⟨R_A, F_A, 2, t_A 1, rfl, by decide, rfl, by decide +kernel, rfl, by decide, Or.inl ⟨wd146, by decide⟩⟩, fun _ h => absurd h List.not_mem_nil⟩⟩)
  (fun _ h => absurd h List.not_mem_nil)
  (fun _ h => absurd h List.not_mem_nil)
  (fun _ h => absurd h List.not_mem_nil)
  (fun _ h => absurd h List.not_mem_nil)
  (List.forall_mem_cons.mpr ⟨⟨fun _ => ⟨wd144, wd39, gTb_in 40 (by decide +kernel) rfl⟩, (fun h => by cases h), (fun h => by cases h)⟩, fun _ h => absurd h List.not_mem_nil⟩)
set_option maxHeartbeats 4000000 in
set_option maxRecDepth 100000 in
theorem k_A_init (l : Launch) (sc : gX) : g_Met l sc gCl gTb gNs gAT gAO y_A_init b_A_init 1 none (gRm 1 2 60) (sp_A_init) 2 60 := by
  refine g_meth (T := (T_A_init)) (el := gEl) (ini := true) (rk := 0) (code := c_A_init) gG_ok (t_A_init l sc) (by decide) (by decide) rfl ⟨rfl, rfl, by decide, by decide⟩ ok_A_init ?_
  intro av σ P hsp
  obtain ⟨e, rfl, he, hP⟩ := hsp
  refine ⟨by simp [lg_sl, Value.category], fun _ _ _ _ _ _ _ => False, ⟨200, ?_⟩, fun _ _ _ _ _ _ _ h => h.elim⟩
  simp only [w_aload_0, w_invokespecial, w_bipush, w_newa_boolean, w_put, w_newa_int, w_ret, go_A_init_0, go_A_init_1, go_A_init_4, go_A_init_5, go_A_init_7, go_A_init_9, go_A_init_12, go_A_init_13, go_A_init_15, go_A_init_17, go_A_init_20, at_A_init_0, tf_A_init_9, tf_A_init_15, tm_A_init_3, s_opt, s_oI, s_oL, s_oA, s_oAN, s_set0, s_set1, s_setn0, s_setn1, s_ok0, s_okn, s_oki, s_okr, s_okN, s_oko, s_oks, s_c1i, s_c1r, s_c1n, s_fi, s_fr, s_fn, s_fl, s_fz, s_rd, s_pt, s_ai, s_lds, s_ldsN, s_al, s_ar, s_cls, s_leni, s_lenz, s_lenr, s_lenN, s_lenl, s_rc0, s_rc1, s_rcv, s_clo, s_clx, s_cln, s_cl1, s_cl2, s_cl3, s_cl4, s_cl5, s_sw1, s_sw2, s_min0, s_min1, s_min2, List.getElem?_cons_zero, List.getElem?_cons_succ, List.take_succ_cons, List.take_zero, List.length_cons, List.length_nil, List.set_cons_zero, List.set_cons_succ, List.cons_append, List.nil_append, Option.toList_some, Option.toList_none, Nat.reduceAdd, Nat.reduceSub, Nat.reduceLeDiff, Nat.reduceLT, Nat.reduceEqDiff, Nat.zero_add, Nat.add_zero, Nat.le_refl, Nat.zero_le, true_and, and_true, true_or, or_true, or_false, false_or, and_self, not_false_eq_true, Nat.one_ne_zero, Nat.zero_ne_one, reduceCtorEq, false_and, and_false, g_ent, lg_sl, List.flatMap_cons, List.flatMap_nil, List.map_cons, List.map_nil, Value.category, ite_true, ite_false, if_true, if_false, if_pos, gEl, Option.isSome_some, s_c12, s_p12, s_c16, s_p16, s_c20, s_p20, s_c30, s_p30, s_c60, s_p60, s_c100, s_p100, s_c500, s_p500, s_c61, s_p61, s_c1952, s_p1952, s_c732, s_p732, s_c1830, s_p1830, s_c2000, s_p2000, not_true_eq_false, true_implies, false_implies, implies_true, he]
  refine fun q1 h1 => ?_
  have n1 := g_ne_new he h1
  simp only [w_aload_0, w_invokespecial, w_bipush, w_newa_boolean, w_put, w_newa_int, w_ret, go_A_init_0, go_A_init_1, go_A_init_4, go_A_init_5, go_A_init_7, go_A_init_9, go_A_init_12, go_A_init_13, go_A_init_15, go_A_init_17, go_A_init_20, at_A_init_0, tf_A_init_9, tf_A_init_15, tm_A_init_3, s_opt, s_oI, s_oL, s_oA, s_oAN, s_set0, s_set1, s_setn0, s_setn1, s_ok0, s_okn, s_oki, s_okr, s_okN, s_oko, s_oks, s_c1i, s_c1r, s_c1n, s_fi, s_fr, s_fn, s_fl, s_fz, s_rd, s_pt, s_ai, s_lds, s_ldsN, s_al, s_ar, s_cls, s_leni, s_lenz, s_lenr, s_lenN, s_lenl, s_rc0, s_rc1, s_rcv, s_clo, s_clx, s_cln, s_cl1, s_cl2, s_cl3, s_cl4, s_cl5, s_sw1, s_sw2, s_min0, s_min1, s_min2, List.getElem?_cons_zero, List.getElem?_cons_succ, List.take_succ_cons, List.take_zero, List.length_cons, List.length_nil, List.set_cons_zero, List.set_cons_succ, List.cons_append, List.nil_append, Option.toList_some, Option.toList_none, Nat.reduceAdd, Nat.reduceSub, Nat.reduceLeDiff, Nat.reduceLT, Nat.reduceEqDiff, Nat.zero_add, Nat.add_zero, Nat.le_refl, Nat.zero_le, true_and, and_true, true_or, or_true, or_false, false_or, and_self, not_false_eq_true, Nat.one_ne_zero, Nat.zero_ne_one, reduceCtorEq, false_and, and_false, g_ent, lg_sl, List.flatMap_cons, List.flatMap_nil, List.map_cons, List.map_nil, Value.category, ite_true, ite_false, if_true, if_false, if_pos, gEl, Option.isSome_some, s_c12, s_p12, s_c16, s_p16, s_c20, s_p20, s_c30, s_p30, s_c60, s_p60, s_c100, s_p100, s_c500, s_p500, s_c61, s_p61, s_c1952, s_p1952, s_c732, s_p732, s_c1830, s_p1830, s_c2000, s_p2000, not_true_eq_false, true_implies, false_implies, implies_true, he, g_up_n n1]
  refine fun q2 h2 => ?_
  have n2 : e ≠ q2 := fun z => by rw [← z, g_up_s] at h2; cases h2
  rw [g_up_n (Ne.symm n2)] at h2
  have n12 : q2 ≠ q1 := fun z => by rw [z, g_up_s] at h2; cases h2
  rw [g_up_n n12] at h2
  simp only [w_aload_0, w_invokespecial, w_bipush, w_newa_boolean, w_put, w_newa_int, w_ret, go_A_init_0, go_A_init_1, go_A_init_4, go_A_init_5, go_A_init_7, go_A_init_9, go_A_init_12, go_A_init_13, go_A_init_15, go_A_init_17, go_A_init_20, at_A_init_0, tf_A_init_9, tf_A_init_15, tm_A_init_3, s_opt, s_oI, s_oL, s_oA, s_oAN, s_set0, s_set1, s_setn0, s_setn1, s_ok0, s_okn, s_oki, s_okr, s_okN, s_oko, s_oks, s_c1i, s_c1r, s_c1n, s_fi, s_fr, s_fn, s_fl, s_fz, s_rd, s_pt, s_ai, s_lds, s_ldsN, s_al, s_ar, s_cls, s_leni, s_lenz, s_lenr, s_lenN, s_lenl, s_rc0, s_rc1, s_rcv, s_clo, s_clx, s_cln, s_cl1, s_cl2, s_cl3, s_cl4, s_cl5, s_sw1, s_sw2, s_min0, s_min1, s_min2, List.getElem?_cons_zero, List.getElem?_cons_succ, List.take_succ_cons, List.take_zero, List.length_cons, List.length_nil, List.set_cons_zero, List.set_cons_succ, List.cons_append, List.nil_append, Option.toList_some, Option.toList_none, Nat.reduceAdd, Nat.reduceSub, Nat.reduceLeDiff, Nat.reduceLT, Nat.reduceEqDiff, Nat.zero_add, Nat.add_zero, Nat.le_refl, Nat.zero_le, true_and, and_true, true_or, or_true, or_false, false_or, and_self, not_false_eq_true, Nat.one_ne_zero, Nat.zero_ne_one, reduceCtorEq, false_and, and_false, g_ent, lg_sl, List.flatMap_cons, List.flatMap_nil, List.map_cons, List.map_nil, Value.category, ite_true, ite_false, if_true, if_false, if_pos, gEl, Option.isSome_some, s_c12, s_p12, s_c16, s_p16, s_c20, s_p20, s_c30, s_p30, s_c60, s_p60, s_c100, s_p100, s_c500, s_p500, s_c61, s_p61, s_c1952, s_p1952, s_c732, s_p732, s_c1830, s_p1830, s_c2000, s_p2000, not_true_eq_false, true_implies, false_implies, implies_true, he, g_up_n n1, g_up_n n2, g_up_s]
  have hf := hP q1 q2 h1 h2 (Ne.symm n12)
  refine cast ?_ hf
  congr 1
  funext w
  by_cases e0 : w = e
  · subst e0; simp [g_up]
  · by_cases e1 : w = q1
    · subst e1; simp [g_up, Ne.symm n12, e0, b2i]
    · by_cases e2 : w = q2
      · subst e2; simp [g_up, e0]
      · simp [g_up, e0, e1, e2]
def sp_A_tell : gSpec := fun av σ P => ∃ (t a1 a2 s w : Nat) (v : Int32) (tt : Nat → Bool) (tv : Nat → Int32), av = [.ref t, .int (nI s), .int (nI w), .int v] ∧ rAtt σ t a1 a2 tt tv ∧ s < 3 ∧ w < 10 ∧ P none (g_up (g_up σ a1 (g_ia 1 30 (fun j => b2i (va_up tt (s * 10 + w) true j)))) a2 (g_ia 0 30 (upd tv (s * 10 + w) v)))
def T_A_tell : gT := gTT [(9, 0, 0, 1, 2), (15, 0, 1, 1, 2)] [] [] [] [] []
theorem tf_A_tell_9 : (T_A_tell).1 9 = some (0, 0, 1, 2) := rfl
theorem tf_A_tell_15 : (T_A_tell).1 15 = some (0, 1, 1, 2) := rfl
theorem t_A_tell (l : Launch) (sc : gX) : g_TOK l sc (gRm 1 0 0) (T_A_tell) gEl "DataSets$Attributes" gCl gTb gNs gAT gAO := gTT_ok
  (List.forall_mem_cons.mpr ⟨⟨R_A, F_A, 2, t_A 0, rfl, by decide, rfl, by decide +kernel, rfl, by decide, Or.inl ⟨wd145, by decide⟩⟩, List.forall_mem_cons.mpr ⟨⟨R_A, F_A, 2, t_A 1, rfl, by decide, rfl, by decide +kernel, rfl, by decide, Or.inl ⟨wd146, by decide⟩⟩, fun _ h => absurd h List.not_mem_nil⟩⟩)
  (fun _ h => absurd h List.not_mem_nil)
  (fun _ h => absurd h List.not_mem_nil)
  (fun _ h => absurd h List.not_mem_nil)
  (fun _ h => absurd h List.not_mem_nil)
  (fun _ h => absurd h List.not_mem_nil)
set_option maxHeartbeats 4000000 in
set_option maxRecDepth 100000 in
theorem k_A_tell (l : Launch) (sc : gX) : g_Met l sc gCl gTb gNs gAT gAO y_A_tell b_A_tell 5 none (gRm 1 0 0) (sp_A_tell) 0 0 := by
  refine g_meth (T := (T_A_tell)) (el := gEl) (ini := false) (rk := 0) (code := c_A_tell) gG_ok (t_A_tell l sc) (by decide) (by decide) rfl ⟨rfl, rfl, by decide, by decide⟩ ok_A_tell ?_
  intro av σ P hsp
  obtain ⟨t, a1, a2, s, w, v, tt, tv, rfl, ⟨ht, h1, h2⟩, hs, hw, hP⟩ := hsp
  have n1 := g_ne_oi ht h1
  have n12 : a2 ≠ a1 := g_ne_ii h2 h1 (by decide)
  refine ⟨by simp [lg_sl, Value.category], fun _ _ _ _ _ _ _ => False, ⟨200, ?_⟩, fun _ _ _ _ _ _ _ h => h.elim⟩
  have e10 : (10 : Int32) = nI 10 := rfl
  have hcl : (nI (s * 10 + w)).toNatClampNeg = s * 10 + w := pk_cl _
  simp only [w_iload_1, w_bipush, w_imul, w_iload_2, w_iadd, w_istore, w_iload, w_if_lt, w_aload_0, w_get, w_len, w_icmp_lt, w_ret, w_iconst, w_bast, w_iload_3, w_iast, go_A_tell_0, go_A_tell_1, go_A_tell_3, go_A_tell_4, go_A_tell_5, go_A_tell_6, go_A_tell_8, go_A_tell_10, go_A_tell_13, go_A_tell_15, go_A_tell_16, go_A_tell_19, go_A_tell_20, go_A_tell_23, go_A_tell_24, go_A_tell_25, go_A_tell_28, go_A_tell_30, go_A_tell_31, go_A_tell_32, go_A_tell_33, go_A_tell_36, go_A_tell_38, go_A_tell_39, go_A_tell_40, at_A_tell_0, tf_A_tell_9, tf_A_tell_15, s_opt, s_oI, s_oL, s_oA, s_oAN, s_set0, s_set1, s_setn0, s_setn1, s_ok0, s_okn, s_oki, s_okr, s_okN, s_oko, s_oks, s_c1i, s_c1r, s_c1n, s_fi, s_fr, s_fn, s_fl, s_fz, s_rd, s_pt, s_ai, s_lds, s_ldsN, s_al, s_ar, s_cls, s_leni, s_lenz, s_lenr, s_lenN, s_lenl, s_rc0, s_rc1, s_rcv, s_clo, s_clx, s_cln, s_cl1, s_cl2, s_cl3, s_cl4, s_cl5, s_sw1, s_sw2, s_min0, s_min1, s_min2, List.getElem?_cons_zero, List.getElem?_cons_succ, List.take_succ_cons, List.take_zero, List.length_cons, List.length_nil, List.set_cons_zero, List.set_cons_succ, List.cons_append, List.nil_append, Option.toList_some, Option.toList_none, Nat.reduceAdd, Nat.reduceSub, Nat.reduceLeDiff, Nat.reduceLT, Nat.reduceEqDiff, Nat.zero_add, Nat.add_zero, Nat.le_refl, Nat.zero_le, true_and, and_true, true_or, or_true, or_false, false_or, and_self, not_false_eq_true, Nat.one_ne_zero, Nat.zero_ne_one, reduceCtorEq, false_and, and_false, g_ent, lg_sl, List.flatMap_cons, List.flatMap_nil, List.map_cons, List.map_nil, Value.category, ite_true, ite_false, if_true, if_false, if_pos, gEl, Option.isSome_some, s_c12, s_p12, s_c16, s_p16, s_c20, s_p20, s_c30, s_p30, s_c60, s_p60, s_c100, s_p100, s_c500, s_p500, s_c61, s_p61, s_c1952, s_p1952, s_c732, s_p732, s_c1830, s_p1830, s_c2000, s_p2000, not_true_eq_false, true_implies, false_implies, implies_true, ht, h1, h2, g_up_n n1, g_up_n n12, e10, pk_mul, nI_add, hcl]
  refine pk_lt (s * 10 + w) 0 (fun h => absurd h (by omega)) (fun _ => pk_lt (s * 10 + w) 30 (fun h => ?_) (fun h => absurd h (by omega)))
  refine ⟨pk_in (s * 10 + w) 30 h, pk_in (s * 10 + w) 30 h, ?_⟩
  rw [m_updB1]
  exact hP
def m_ft (tt : Nat → Bool) (tv : Nat → Int32) (w : Nat) : Nat → Nat → Int32
  | 0, _ => -1
  | k + 1, i => if tt (i * 10 + w) then tv (i * 10 + w) else m_ft tt tv w k (i + 1)
def sp_A_firstTold : gSpec := fun av σ P => ∃ (t a1 a2 w : Nat) (tt : Nat → Bool) (tv : Nat → Int32), av = [.ref t, .int (nI w)] ∧ rAtt σ t a1 a2 tt tv ∧ w < 10 ∧ P (some (.int (m_ft tt tv w 3 0))) σ
def iv_A_firstTold (σ : gS) (t w : Nat) (tt : Nat → Bool) (tv : Nat → Int32) : Nat → gK := fun k pc lv st σ' c z => ∃ i, i ≤ 3 ∧ k = 3 - i ∧ pc = 11 ∧ lv = [some (.ref t), some (.int (nI w)), some (.int (nI i))] ∧ st = [] ∧ σ' = σ ∧ c = 0 ∧ z = 0 ∧ m_ft tt tv w (3 - i) i = m_ft tt tv w 3 0
def T_A_firstTold : gT := gTT [(9, 0, 0, 1, 2), (15, 0, 1, 1, 2)] [(19, 1, 0, sp_C_isAttribute, 0, 0)] [] [] [] []
theorem tf_A_firstTold_9 : (T_A_firstTold).1 9 = some (0, 0, 1, 2) := rfl
theorem tf_A_firstTold_15 : (T_A_firstTold).1 15 = some (0, 1, 1, 2) := rfl
theorem tc_A_firstTold_19 : (T_A_firstTold).2.1 19 = some (1, 0, sp_C_isAttribute, 0, 0) := rfl
theorem tm_A_firstTold_19 : (T_A_firstTold).2.2.2.2.2 19 = none := rfl
theorem t_A_firstTold (l : Launch) (sc : gX) : g_TOK l sc (gRm 2 0 0) (T_A_firstTold) gEl "DataSets$Attributes" gCl gTb gNs gAT gAO := gTT_ok
  (List.forall_mem_cons.mpr ⟨⟨R_A, F_A, 2, t_A 0, rfl, by decide, rfl, by decide +kernel, rfl, by decide, Or.inl ⟨wd145, by decide⟩⟩, List.forall_mem_cons.mpr ⟨⟨R_A, F_A, 2, t_A 1, rfl, by decide, rfl, by decide +kernel, rfl, by decide, Or.inl ⟨wd146, by decide⟩⟩, fun _ h => absurd h List.not_mem_nil⟩⟩)
  (List.forall_mem_cons.mpr ⟨⟨y_C_isAttribute, b_C_isAttribute, 1, _, gRm 1 0 0, k_C_isAttribute l sc, rfl, rfl, by decide, by decide, wd273, wd24, ⟨by decide, by decide⟩, Or.inr ⟨_, List.mem_of_getElem? (i := 10) rfl⟩, ⟨by decide +kernel, wd272⟩⟩, fun _ h => absurd h List.not_mem_nil⟩)
  (fun _ h => absurd h List.not_mem_nil)
  (fun _ h => absurd h List.not_mem_nil)
  (fun _ h => absurd h List.not_mem_nil)
  (fun _ h => absurd h List.not_mem_nil)
set_option maxHeartbeats 4000000 in
set_option maxRecDepth 100000 in
theorem k_A_firstTold (l : Launch) (sc : gX) : g_Met l sc gCl gTb gNs gAT gAO y_A_firstTold b_A_firstTold 4 (some .int) (gRm 2 0 0) (sp_A_firstTold) 0 0 := by
  refine g_meth (T := (T_A_firstTold)) (el := gEl) (ini := false) (rk := 1) (code := c_A_firstTold) gG_ok (t_A_firstTold l sc) (by decide) (by decide) rfl ⟨rfl, rfl, by decide, by decide⟩ ok_A_firstTold ?_
  intro av σ P hsp
  obtain ⟨t, a1, a2, w, tt, tv, rfl, ⟨ht, h1, h2⟩, hw, hP⟩ := hsp
  refine ⟨by simp [lg_sl, Value.category], iv_A_firstTold σ t w tt tv, ⟨200, ?_⟩, ?_⟩
  · simp only [w_iload_1, w_invokestatic, w_if_ne, w_iconst, w_iret, w_istore_2, w_iload_2, w_icmp_ge, w_bipush, w_imul, w_iadd, w_istore_3, w_aload_0, w_get, w_iload_3, w_bald, w_if_eq, w_iald, w_iinc, w_goto, go_A_firstTold_0, go_A_firstTold_1, go_A_firstTold_4, go_A_firstTold_7, go_A_firstTold_8, go_A_firstTold_9, go_A_firstTold_10, go_A_firstTold_11, go_A_firstTold_12, go_A_firstTold_13, go_A_firstTold_16, go_A_firstTold_17, go_A_firstTold_19, go_A_firstTold_20, go_A_firstTold_21, go_A_firstTold_22, go_A_firstTold_23, go_A_firstTold_24, go_A_firstTold_27, go_A_firstTold_28, go_A_firstTold_29, go_A_firstTold_32, go_A_firstTold_33, go_A_firstTold_36, go_A_firstTold_37, go_A_firstTold_38, go_A_firstTold_39, go_A_firstTold_42, go_A_firstTold_45, go_A_firstTold_46, at_A_firstTold_0, at_A_firstTold_11, tf_A_firstTold_9, tf_A_firstTold_15, tc_A_firstTold_19, tm_A_firstTold_19, s_opt, s_oI, s_oL, s_oA, s_oAN, s_set0, s_set1, s_setn0, s_setn1, s_ok0, s_okn, s_oki, s_okr, s_okN, s_oko, s_oks, s_c1i, s_c1r, s_c1n, s_fi, s_fr, s_fn, s_fl, s_fz, s_rd, s_pt, s_ai, s_lds, s_ldsN, s_al, s_ar, s_cls, s_leni, s_lenz, s_lenr, s_lenN, s_lenl, s_rc0, s_rc1, s_rcv, s_clo, s_clx, s_cln, s_cl1, s_cl2, s_cl3, s_cl4, s_cl5, s_sw1, s_sw2, s_min0, s_min1, s_min2, List.getElem?_cons_zero, List.getElem?_cons_succ, List.take_succ_cons, List.take_zero, List.length_cons, List.length_nil, List.set_cons_zero, List.set_cons_succ, List.cons_append, List.nil_append, Option.toList_some, Option.toList_none, Nat.reduceAdd, Nat.reduceSub, Nat.reduceLeDiff, Nat.reduceLT, Nat.reduceEqDiff, Nat.zero_add, Nat.add_zero, Nat.le_refl, Nat.zero_le, true_and, and_true, true_or, or_true, or_false, false_or, and_self, not_false_eq_true, Nat.one_ne_zero, Nat.zero_ne_one, reduceCtorEq, false_and, and_false, g_ent, lg_sl, List.flatMap_cons, List.flatMap_nil, List.map_cons, List.map_nil, Value.category, ite_true, ite_false, if_true, if_false, if_pos, gEl, Option.isSome_some, s_c12, s_p12, s_c16, s_p16, s_c20, s_p20, s_c30, s_p30, s_c60, s_p60, s_c100, s_p100, s_c500, s_p500, s_c61, s_p61, s_c1952, s_p1952, s_c732, s_p732, s_c1830, s_p1830, s_c2000, s_p2000, not_true_eq_false, true_implies, false_implies, implies_true]
    refine ⟨nI w, rfl, ?_⟩
    have e1 : m_at (nI w) = true := by
      simp only [m_at, Bool.and_eq_true, decide_eq_true_eq]
      exact ⟨nI_pos' (by omega), nI_lt (b := 10) hw (by decide)⟩
    rw [e1]
    simp only [w_iload_1, w_invokestatic, w_if_ne, w_iconst, w_iret, w_istore_2, w_iload_2, w_icmp_ge, w_bipush, w_imul, w_iadd, w_istore_3, w_aload_0, w_get, w_iload_3, w_bald, w_if_eq, w_iald, w_iinc, w_goto, go_A_firstTold_0, go_A_firstTold_1, go_A_firstTold_4, go_A_firstTold_7, go_A_firstTold_8, go_A_firstTold_9, go_A_firstTold_10, go_A_firstTold_11, go_A_firstTold_12, go_A_firstTold_13, go_A_firstTold_16, go_A_firstTold_17, go_A_firstTold_19, go_A_firstTold_20, go_A_firstTold_21, go_A_firstTold_22, go_A_firstTold_23, go_A_firstTold_24, go_A_firstTold_27, go_A_firstTold_28, go_A_firstTold_29, go_A_firstTold_32, go_A_firstTold_33, go_A_firstTold_36, go_A_firstTold_37, go_A_firstTold_38, go_A_firstTold_39, go_A_firstTold_42, go_A_firstTold_45, go_A_firstTold_46, at_A_firstTold_0, at_A_firstTold_11, tf_A_firstTold_9, tf_A_firstTold_15, tc_A_firstTold_19, tm_A_firstTold_19, s_opt, s_oI, s_oL, s_oA, s_oAN, s_set0, s_set1, s_setn0, s_setn1, s_ok0, s_okn, s_oki, s_okr, s_okN, s_oko, s_oks, s_c1i, s_c1r, s_c1n, s_fi, s_fr, s_fn, s_fl, s_fz, s_rd, s_pt, s_ai, s_lds, s_ldsN, s_al, s_ar, s_cls, s_leni, s_lenz, s_lenr, s_lenN, s_lenl, s_rc0, s_rc1, s_rcv, s_clo, s_clx, s_cln, s_cl1, s_cl2, s_cl3, s_cl4, s_cl5, s_sw1, s_sw2, s_min0, s_min1, s_min2, List.getElem?_cons_zero, List.getElem?_cons_succ, List.take_succ_cons, List.take_zero, List.length_cons, List.length_nil, List.set_cons_zero, List.set_cons_succ, List.cons_append, List.nil_append, Option.toList_some, Option.toList_none, Nat.reduceAdd, Nat.reduceSub, Nat.reduceLeDiff, Nat.reduceLT, Nat.reduceEqDiff, Nat.zero_add, Nat.add_zero, Nat.le_refl, Nat.zero_le, true_and, and_true, true_or, or_true, or_false, false_or, and_self, not_false_eq_true, Nat.one_ne_zero, Nat.zero_ne_one, reduceCtorEq, false_and, and_false, g_ent, lg_sl, List.flatMap_cons, List.flatMap_nil, List.map_cons, List.map_nil, Value.category, ite_true, ite_false, if_true, if_false, if_pos, gEl, Option.isSome_some, s_c12, s_p12, s_c16, s_p16, s_c20, s_p20, s_c30, s_p30, s_c60, s_p60, s_c100, s_p100, s_c500, s_p500, s_c61, s_p61, s_c1952, s_p1952, s_c732, s_p732, s_c1830, s_p1830, s_c2000, s_p2000, not_true_eq_false, true_implies, false_implies, implies_true, b2i_t]
    refine ⟨fun _ => ⟨3, 0, by omega, rfl, rfl, rfl, rfl, rfl, rfl, rfl, rfl⟩, fun z => absurd (by decide) z⟩
  · rintro k pc lv st σ' c z ⟨i, hi, rfl, rfl, rfl, rfl, rfl, rfl, rfl, hans⟩
    refine ⟨200, ?_⟩
    have e10 : (10 : Int32) = nI 10 := rfl
    have hcl : (nI (i * 10 + w)).toNatClampNeg = i * 10 + w := pk_cl _
    simp only [w_iload_1, w_invokestatic, w_if_ne, w_iconst, w_iret, w_istore_2, w_iload_2, w_icmp_ge, w_bipush, w_imul, w_iadd, w_istore_3, w_aload_0, w_get, w_iload_3, w_bald, w_if_eq, w_iald, w_iinc, w_goto, go_A_firstTold_0, go_A_firstTold_1, go_A_firstTold_4, go_A_firstTold_7, go_A_firstTold_8, go_A_firstTold_9, go_A_firstTold_10, go_A_firstTold_11, go_A_firstTold_12, go_A_firstTold_13, go_A_firstTold_16, go_A_firstTold_17, go_A_firstTold_19, go_A_firstTold_20, go_A_firstTold_21, go_A_firstTold_22, go_A_firstTold_23, go_A_firstTold_24, go_A_firstTold_27, go_A_firstTold_28, go_A_firstTold_29, go_A_firstTold_32, go_A_firstTold_33, go_A_firstTold_36, go_A_firstTold_37, go_A_firstTold_38, go_A_firstTold_39, go_A_firstTold_42, go_A_firstTold_45, go_A_firstTold_46, at_A_firstTold_0, at_A_firstTold_11, tf_A_firstTold_9, tf_A_firstTold_15, tc_A_firstTold_19, tm_A_firstTold_19, s_opt, s_oI, s_oL, s_oA, s_oAN, s_set0, s_set1, s_setn0, s_setn1, s_ok0, s_okn, s_oki, s_okr, s_okN, s_oko, s_oks, s_c1i, s_c1r, s_c1n, s_fi, s_fr, s_fn, s_fl, s_fz, s_rd, s_pt, s_ai, s_lds, s_ldsN, s_al, s_ar, s_cls, s_leni, s_lenz, s_lenr, s_lenN, s_lenl, s_rc0, s_rc1, s_rcv, s_clo, s_clx, s_cln, s_cl1, s_cl2, s_cl3, s_cl4, s_cl5, s_sw1, s_sw2, s_min0, s_min1, s_min2, List.getElem?_cons_zero, List.getElem?_cons_succ, List.take_succ_cons, List.take_zero, List.length_cons, List.length_nil, List.set_cons_zero, List.set_cons_succ, List.cons_append, List.nil_append, Option.toList_some, Option.toList_none, Nat.reduceAdd, Nat.reduceSub, Nat.reduceLeDiff, Nat.reduceLT, Nat.reduceEqDiff, Nat.zero_add, Nat.add_zero, Nat.le_refl, Nat.zero_le, true_and, and_true, true_or, or_true, or_false, false_or, and_self, not_false_eq_true, Nat.one_ne_zero, Nat.zero_ne_one, reduceCtorEq, false_and, and_false, g_ent, lg_sl, List.flatMap_cons, List.flatMap_nil, List.map_cons, List.map_nil, Value.category, ite_true, ite_false, if_true, if_false, if_pos, gEl, Option.isSome_some, s_c12, s_p12, s_c16, s_p16, s_c20, s_p20, s_c30, s_p30, s_c60, s_p60, s_c100, s_p100, s_c500, s_p500, s_c61, s_p61, s_c1952, s_p1952, s_c732, s_p732, s_c1830, s_p1830, s_c2000, s_p2000, not_true_eq_false, true_implies, false_implies, implies_true, ht, h1, h2, e10, pk_mul, nI_add, hcl]
    refine pk_le 3 i (fun h => ?_) (fun h => ?_)
    · have : i = 3 := by omega
      subst this
      rw [← hans] at hP
      exact hP
    · have hfr : m_ft tt tv w (3 - i) i = if tt (i * 10 + w) = true then tv (i * 10 + w) else m_ft tt tv w (3 - (i + 1)) (i + 1) := by
        rw [show 3 - i = (3 - (i + 1)) + 1 by omega]
        rfl
      refine ⟨pk_in (i * 10 + w) 30 (by omega), pk_b (tt (i * 10 + w)) (fun hb => ?_) (fun hb => ?_)⟩
      · rw [if_neg (by rw [hb]; decide)] at hfr
        refine ⟨3 - (i + 1), by omega, i + 1, by omega, rfl, rfl, by rw [nI_1], rfl, rfl, rfl, rfl, ?_⟩
        rw [← hans, hfr]
      · rw [if_pos hb] at hfr
        rw [← hans, hfr] at hP
        exact ⟨pk_in (i * 10 + w) 30 (by omega), hP⟩
theorem m_clamp_b (x : Int32) : 1 ≤ m_clamp x ∧ m_clamp x ≤ 500 := by
  unfold m_clamp
  by_cases h1 : x < 1
  · rw [if_pos h1]; omega
  · rw [if_neg h1]
    by_cases h2 : 500 < x
    · rw [if_pos h2]; omega
    · rw [if_neg h2]
      have h3 := m_nlt.mp h1
      have h4 := m_nlt.mp h2
      obtain ⟨j, hj, rfl⟩ := m_nn (Int32.le_trans (by decide) h3)
      rw [pk_cl j]
      exact ⟨(nI_leI (a := 1) (by decide) hj).mp h3, (nI_leI (b := 500) hj (by decide)).mp h4⟩
theorem m_clamp_e (x : Int32) : (if 1 < (if 500 < x then 500 else x) then (if 500 < x then 500 else x) else 1) = nI (m_clamp x) := by
  unfold m_clamp
  by_cases h1 : x < 1
  · have h2 : ¬ 500 < x := fun z => by
      rw [Int32.lt_iff_toInt_lt] at h1 z
      have e1 : (1 : Int32).toInt = 1 := by decide
      have e2 : (500 : Int32).toInt = 500 := by decide
      omega
    have h3 : ¬ 1 < x := fun z => by
      rw [Int32.lt_iff_toInt_lt] at h1 z
      omega
    rw [if_pos h1, if_neg h2, if_neg h3]; rfl
  · rw [if_neg h1]
    by_cases h2 : 500 < x
    · rw [if_pos h2, if_pos h2]; rfl
    · rw [if_neg h2, if_neg h2]
      have h3 := m_nlt.mp h1
      obtain ⟨j, hj, rfl⟩ := m_nn (Int32.le_trans (by decide) h3)
      rw [pk_cl j]
      by_cases h5 : 1 < nI j
      · rw [if_pos h5]
      · rw [if_neg h5]
        have h6 := (nI_leI (a := 1) (by decide) hj).mp h3
        have h7 : ¬ 1 < j := fun z => h5 (nI_lt (a := 1) z hj)
        rw [show j = 1 by omega]; rfl
def sp_V_init : gSpec := fun av σ P => ∃ (v : Nat) (x : Int32), av = [.ref v, .int x] ∧ σ v = some (g_ob 5 [.null]) ∧ ∀ q, σ q = none → P none (g_up (g_up σ q (g_ia 1 (m_clamp x) (fun _ => b2i false))) v (g_ob 5 [.ref q]))
def T_V_init : gT := gTT [(18, 5, 0, 1, 2)] [] [] [] [] [(3, 0), (9, 2), (15, 1)]
theorem tf_V_init_18 : (T_V_init).1 18 = some (5, 0, 1, 2) := rfl
theorem tm_V_init_3 : (T_V_init).2.2.2.2.2 3 = some 0 := rfl
theorem tm_V_init_9 : (T_V_init).2.2.2.2.2 9 = some 2 := rfl
theorem tm_V_init_15 : (T_V_init).2.2.2.2.2 15 = some 1 := rfl
theorem t_V_init (l : Launch) (sc : gX) : g_TOK l sc (gRm 1 1 500) (T_V_init) gEl "DataSets$Volume" gCl gTb gNs gAT gAO := gTT_ok
  (List.forall_mem_cons.mpr ⟨⟨R_V, F_V, 1, t_V 0, rfl, by decide, rfl, by decide +kernel, rfl, by decide, Or.inl ⟨wd53, by decide⟩⟩, fun _ h => absurd h List.not_mem_nil⟩)
  (fun _ h => absurd h List.not_mem_nil)
  (fun _ h => absurd h List.not_mem_nil)
  (fun _ h => absurd h List.not_mem_nil)
  (fun _ h => absurd h List.not_mem_nil)
  (List.forall_mem_cons.mpr ⟨⟨fun _ => ⟨wd46, wd39, gTb_in 40 (by decide +kernel) rfl⟩, (fun h => by cases h), (fun h => by cases h)⟩, List.forall_mem_cons.mpr ⟨⟨(fun h => by cases h), (fun h => by cases h), fun _ => ⟨wd47, wd48, wd26, gTb_in 49 (by decide +kernel) rfl⟩⟩, List.forall_mem_cons.mpr ⟨⟨(fun h => by cases h), fun _ => ⟨wd50, wd51, wd26, gTb_in 52 (by decide +kernel) rfl⟩, (fun h => by cases h)⟩, fun _ h => absurd h List.not_mem_nil⟩⟩⟩)
set_option maxHeartbeats 4000000 in
set_option maxRecDepth 100000 in
theorem k_V_init (l : Launch) (sc : gX) : g_Met l sc gCl gTb gNs gAT gAO y_V_init b_V_init 2 none (gRm 1 1 500) (sp_V_init) 1 500 := by
  refine g_meth (T := (T_V_init)) (el := gEl) (ini := true) (rk := 0) (code := c_V_init) gG_ok (t_V_init l sc) (by decide) (by decide) rfl ⟨rfl, rfl, by decide, by decide⟩ ok_V_init ?_
  intro av σ P hsp
  obtain ⟨v, x, rfl, hv, hP⟩ := hsp
  refine ⟨by simp [lg_sl, Value.category], fun _ _ _ _ _ _ _ => False, ⟨200, ?_⟩, fun _ _ _ _ _ _ _ h => h.elim⟩
  have hb := m_clamp_b x
  have hcl : (nI (m_clamp x)).toNatClampNeg = m_clamp x := pk_cl _
  simp only [w_aload_0, w_invokespecial, w_iconst, w_iload_1, w_sipush, w_invokestatic, w_newa_boolean, w_put, w_ret, go_V_init_0, go_V_init_1, go_V_init_4, go_V_init_5, go_V_init_6, go_V_init_7, go_V_init_10, go_V_init_13, go_V_init_16, go_V_init_18, go_V_init_21, at_V_init_0, tf_V_init_18, tm_V_init_3, tm_V_init_9, tm_V_init_15, s_opt, s_oI, s_oL, s_oA, s_oAN, s_set0, s_set1, s_setn0, s_setn1, s_ok0, s_okn, s_oki, s_okr, s_okN, s_oko, s_oks, s_c1i, s_c1r, s_c1n, s_fi, s_fr, s_fn, s_fl, s_fz, s_rd, s_pt, s_ai, s_lds, s_ldsN, s_al, s_ar, s_cls, s_leni, s_lenz, s_lenr, s_lenN, s_lenl, s_rc0, s_rc1, s_rcv, s_clo, s_clx, s_cln, s_cl1, s_cl2, s_cl3, s_cl4, s_cl5, s_sw1, s_sw2, s_min0, s_min1, s_min2, List.getElem?_cons_zero, List.getElem?_cons_succ, List.take_succ_cons, List.take_zero, List.length_cons, List.length_nil, List.set_cons_zero, List.set_cons_succ, List.cons_append, List.nil_append, Option.toList_some, Option.toList_none, Nat.reduceAdd, Nat.reduceSub, Nat.reduceLeDiff, Nat.reduceLT, Nat.reduceEqDiff, Nat.zero_add, Nat.add_zero, Nat.le_refl, Nat.zero_le, true_and, and_true, true_or, or_true, or_false, false_or, and_self, not_false_eq_true, Nat.one_ne_zero, Nat.zero_ne_one, reduceCtorEq, false_and, and_false, g_ent, lg_sl, List.flatMap_cons, List.flatMap_nil, List.map_cons, List.map_nil, Value.category, ite_true, ite_false, if_true, if_false, if_pos, gEl, Option.isSome_some, s_c12, s_p12, s_c16, s_p16, s_c20, s_p20, s_c30, s_p30, s_c60, s_p60, s_c100, s_p100, s_c500, s_p500, s_c61, s_p61, s_c1952, s_p1952, s_c732, s_p732, s_c1830, s_p1830, s_c2000, s_p2000, not_true_eq_false, true_implies, false_implies, implies_true, hv, m_clamp_e, hcl]
  refine ⟨nI_pos (by omega), by omega, by omega, fun q hq => ?_⟩
  have n1 := g_ne_new hv hq
  simp only [w_aload_0, w_invokespecial, w_iconst, w_iload_1, w_sipush, w_invokestatic, w_newa_boolean, w_put, w_ret, go_V_init_0, go_V_init_1, go_V_init_4, go_V_init_5, go_V_init_6, go_V_init_7, go_V_init_10, go_V_init_13, go_V_init_16, go_V_init_18, go_V_init_21, at_V_init_0, tf_V_init_18, tm_V_init_3, tm_V_init_9, tm_V_init_15, s_opt, s_oI, s_oL, s_oA, s_oAN, s_set0, s_set1, s_setn0, s_setn1, s_ok0, s_okn, s_oki, s_okr, s_okN, s_oko, s_oks, s_c1i, s_c1r, s_c1n, s_fi, s_fr, s_fn, s_fl, s_fz, s_rd, s_pt, s_ai, s_lds, s_ldsN, s_al, s_ar, s_cls, s_leni, s_lenz, s_lenr, s_lenN, s_lenl, s_rc0, s_rc1, s_rcv, s_clo, s_clx, s_cln, s_cl1, s_cl2, s_cl3, s_cl4, s_cl5, s_sw1, s_sw2, s_min0, s_min1, s_min2, List.getElem?_cons_zero, List.getElem?_cons_succ, List.take_succ_cons, List.take_zero, List.length_cons, List.length_nil, List.set_cons_zero, List.set_cons_succ, List.cons_append, List.nil_append, Option.toList_some, Option.toList_none, Nat.reduceAdd, Nat.reduceSub, Nat.reduceLeDiff, Nat.reduceLT, Nat.reduceEqDiff, Nat.zero_add, Nat.add_zero, Nat.le_refl, Nat.zero_le, true_and, and_true, true_or, or_true, or_false, false_or, and_self, not_false_eq_true, Nat.one_ne_zero, Nat.zero_ne_one, reduceCtorEq, false_and, and_false, g_ent, lg_sl, List.flatMap_cons, List.flatMap_nil, List.map_cons, List.map_nil, Value.category, ite_true, ite_false, if_true, if_false, if_pos, gEl, Option.isSome_some, s_c12, s_p12, s_c16, s_p16, s_c20, s_p20, s_c30, s_p30, s_c60, s_p60, s_c100, s_p100, s_c500, s_p500, s_c61, s_p61, s_c1952, s_p1952, s_c732, s_p732, s_c1830, s_p1830, s_c2000, s_p2000, not_true_eq_false, true_implies, false_implies, implies_true, hv, g_up_n n1]
  exact ⟨by omega, hP q hq⟩
