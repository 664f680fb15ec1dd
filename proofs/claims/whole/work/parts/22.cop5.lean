/-- a job goes out of a line: the line, and whether it held (1) -/
def dropL (x : Nat) (L : mL) : mL × Nat := match m_lix L x with
  | none => (L, 0)
  | some a => ((L.1 - 1, m_adm (m_sh L.2.2.2 a (L.1 - 1)) (L.1 - 1) (L.1 - 1 - (if a < L.2.1 then L.2.1 - 1 else L.2.1)) (if a < L.2.1 then L.2.1 - 1 else L.2.1), m_sh L.2.2.1 a (L.1 - 1), m_sh L.2.2.2 a (L.1 - 1)), if a < L.2.1 then 1 else 0)
def dropO (x : Nat) (o : Option mL) : Option mL := o.map (fun L => (dropL x L).1)
def dropC (x : Nat) (o : Option mL) : Nat := match o with
  | none => 0
  | some L => (dropL x L).2
def freeM (M : mM) (x i : Nat) : mM := (M.1, M.2.1, M.2.2.1, M.2.2.2.1, fun n => if n < i then dropO x (M.2.2.2.2 n) else M.2.2.2.2 n)
def x_free (M : mM) (x : Int32) : mM × Int32 := if m_jb x = true then (freeM M x.toNatClampNeg 100, nI (m_sum (fun n => dropC x.toNatClampNeg (M.2.2.2.2 n)) 100)) else (M, -4)
theorem freeM_0 {M : mM} {x : Nat} : freeM M x 0 = M := by
  obtain ⟨a, b, c, d, f⟩ := M
  simp [freeM]
theorem freeM_s {M : mM} {x i : Nat} {L : mL} (h : M.2.2.2.2 i = some L) : setL (freeM M x i) i (dropL x L).1 = freeM M x (i + 1) := by
  unfold setL freeM
  congr 4
  funext n
  unfold va_up
  by_cases hn : n = i
  · subst hn
    simp [dropO, h]
  · simp only [hn, if_false]
    by_cases h2 : n < i
    · simp [h2, show n < i + 1 by omega]
    · simp [h2, show ¬ n < i + 1 by omega]
theorem freeM_n {M : mM} {x i : Nat} (h : M.2.2.2.2 i = none) : freeM M x i = freeM M x (i + 1) := by
  unfold freeM
  congr 4
  funext n
  by_cases hn : n = i
  · subst hn
    simp [dropO, h]
  · by_cases h2 : n < i
    · simp [h2, show n < i + 1 by omega]
    · simp [h2, show ¬ n < i + 1 by omega]
def sp_C_free : gSpec := spC1 x_free
def iv_C_free (d x : Nat) (M : mM) : Nat → gK := fun k pc lv st σ' c z => ∃ i, i ≤ 100 ∧ k = 100 - i ∧ pc = 14 ∧ lv = [some (.ref d), some (.int (nI x)), some (.int (nI (m_sum (fun n => dropC x (M.2.2.2.2 n)) i))), some (.int (nI i))] ∧ st = [] ∧ RepC σ' d (freeM M x i) ∧ c = 0 ∧ z = 0
def T_C_free : gT := gTT [(26, 6, 2, 1, 2)] [(129, 1, 0, sp_C_isJob, 0, 0), (137, 2, 6, sp_L_drop, 0, 0)] [] [] [] []
theorem tf_C_free_26 : (T_C_free).1 26 = some (6, 2, 1, 2) := rfl
theorem tc_C_free_129 : (T_C_free).2.1 129 = some (1, 0, sp_C_isJob, 0, 0) := rfl
theorem tm_C_free_129 : (T_C_free).2.2.2.2.2 129 = none := rfl
theorem tc_C_free_137 : (T_C_free).2.1 137 = some (2, 6, sp_L_drop, 0, 0) := rfl
theorem tm_C_free_137 : (T_C_free).2.2.2.2.2 137 = none := rfl
theorem t_C_free (l : Launch) (sc : gX) : g_TOK l sc (gRm 4 0 0) (T_C_free) gEl "DataSets" gCl gTb gNs gAT gAO := gTT_ok
  (List.forall_mem_cons.mpr ⟨⟨R_C, F_C, 4, t_C 2, rfl, by decide, rfl, by decide +kernel, rfl, by decide, Or.inl ⟨wd64, by decide⟩⟩, fun _ h => absurd h List.not_mem_nil⟩)
  (List.forall_mem_cons.mpr ⟨⟨y_C_isJob, b_C_isJob, 1, _, gRm 1 0 0, k_C_isJob l sc, rfl, rfl, by decide, by decide, wd293, wd24, ⟨by decide, by decide⟩, Or.inl wd291, ⟨by decide +kernel, wd292⟩⟩, List.forall_mem_cons.mpr ⟨⟨y_L_drop, b_L_drop, 5, _, gRm 3 0 0, k_L_drop l sc, rfl, rfl, by decide, by decide, wd337, wd32, ⟨by decide, by decide⟩, Or.inl wd334, ⟨by decide +kernel, wd335, R_L, F_L, 4, rfl, wd336⟩⟩, fun _ h => absurd h List.not_mem_nil⟩⟩)
  (fun _ h => absurd h List.not_mem_nil)
  (fun _ h => absurd h List.not_mem_nil)
  (fun _ h => absurd h List.not_mem_nil)
  (fun _ h => absurd h List.not_mem_nil)
set_option maxHeartbeats 4000000 in
set_option maxRecDepth 100000 in
theorem k_C_free (l : Launch) (sc : gX) : g_Met l sc gCl gTb gNs gAT gAO y_C_free b_C_free 4 (some .int) (gRm 4 0 0) (sp_C_free) 0 0 := by
  refine g_meth (T := (T_C_free)) (el := gEl) (ini := false) (rk := 1) (code := c_C_free) gG_ok (t_C_free l sc) (by decide) (by decide) rfl ⟨rfl, rfl, by decide, by decide⟩ ok_C_free ?_
  intro av σ P hsp
  obtain ⟨d, M, x, rfl, hR, hok, hP⟩ := hsp
  unfold x_free at hP
  by_cases hb : m_jb x = true
  · rw [if_pos hb] at hP
    obtain ⟨xn, hx1, hx2, rfl⟩ := m_jb_t hb
    rw [nI_clamp (n := xn) (by omega)] at hP
    refine ⟨by simp [lg_sl, Value.category], iv_C_free d xn M, ⟨200, ?_⟩, ?_⟩
    · simp only [w_iload_1, w_invokestatic, w_if_ne, w_bipush, w_iret, w_iconst, w_istore_2, w_istore_3, w_iload_3, w_icmp_ge, w_aload_0, w_get, w_aald, w_ifnull, w_ifnullN, w_iload_2, w_invokevirtual, w_iadd, w_iinc, w_goto, go_C_free_0, go_C_free_1, go_C_free_4, go_C_free_7, go_C_free_9, go_C_free_10, go_C_free_11, go_C_free_12, go_C_free_13, go_C_free_14, go_C_free_15, go_C_free_17, go_C_free_20, go_C_free_21, go_C_free_24, go_C_free_25, go_C_free_26, go_C_free_29, go_C_free_30, go_C_free_31, go_C_free_34, go_C_free_35, go_C_free_36, go_C_free_37, go_C_free_40, go_C_free_41, go_C_free_42, go_C_free_45, go_C_free_48, go_C_free_49, at_C_free_0, at_C_free_14, tf_C_free_26, tc_C_free_129, tm_C_free_129, tc_C_free_137, tm_C_free_137, s_opt, s_oI, s_oL, s_oA, s_oAN, s_set0, s_set1, s_setn0, s_setn1, s_ok0, s_okn, s_oki, s_okr, s_okN, s_oko, s_oks, s_c1i, s_c1r, s_c1n, s_fi, s_fr, s_fn, s_fl, s_fz, s_rd, s_pt, s_ai, s_lds, s_ldsN, s_al, s_ar, s_cls, s_leni, s_lenz, s_lenr, s_lenN, s_lenl, s_rc0, s_rc1, s_rcv, s_clo, s_clx, s_cln, s_cl1, s_cl2, s_cl3, s_cl4, s_cl5, s_sw1, s_sw2, s_min0, s_min1, s_min2, List.getElem?_cons_zero, List.getElem?_cons_succ, List.take_succ_cons, List.take_zero, List.length_cons, List.length_nil, List.set_cons_zero, List.set_cons_succ, List.cons_append, List.nil_append, Option.toList_some, Option.toList_none, Nat.reduceAdd, Nat.reduceSub, Nat.reduceLeDiff, Nat.reduceLT, Nat.reduceEqDiff, Nat.zero_add, Nat.add_zero, Nat.le_refl, Nat.zero_le, true_and, and_true, true_or, or_true, or_false, false_or, and_self, not_false_eq_true, Nat.one_ne_zero, Nat.zero_ne_one, reduceCtorEq, false_and, and_false, g_ent, lg_sl, List.flatMap_cons, List.flatMap_nil, List.map_cons, List.map_nil, Value.category, ite_true, ite_false, if_true, if_false, if_pos, gEl, Option.isSome_some, s_c12, s_p12, s_c16, s_p16, s_c20, s_p20, s_c30, s_p30, s_c60, s_p60, s_c100, s_p100, s_c500, s_p500, s_c61, s_p61, s_c1952, s_p1952, s_c732, s_p732, s_c1830, s_p1830, s_c2000, s_p2000, not_true_eq_false, true_implies, false_implies, implies_true]
      refine ⟨nI xn, rfl, ?_⟩
      rw [hb]
      simp only [w_iload_1, w_invokestatic, w_if_ne, w_bipush, w_iret, w_iconst, w_istore_2, w_istore_3, w_iload_3, w_icmp_ge, w_aload_0, w_get, w_aald, w_ifnull, w_ifnullN, w_iload_2, w_invokevirtual, w_iadd, w_iinc, w_goto, go_C_free_0, go_C_free_1, go_C_free_4, go_C_free_7, go_C_free_9, go_C_free_10, go_C_free_11, go_C_free_12, go_C_free_13, go_C_free_14, go_C_free_15, go_C_free_17, go_C_free_20, go_C_free_21, go_C_free_24, go_C_free_25, go_C_free_26, go_C_free_29, go_C_free_30, go_C_free_31, go_C_free_34, go_C_free_35, go_C_free_36, go_C_free_37, go_C_free_40, go_C_free_41, go_C_free_42, go_C_free_45, go_C_free_48, go_C_free_49, at_C_free_0, at_C_free_14, tf_C_free_26, tc_C_free_129, tm_C_free_129, tc_C_free_137, tm_C_free_137, s_opt, s_oI, s_oL, s_oA, s_oAN, s_set0, s_set1, s_setn0, s_setn1, s_ok0, s_okn, s_oki, s_okr, s_okN, s_oko, s_oks, s_c1i, s_c1r, s_c1n, s_fi, s_fr, s_fn, s_fl, s_fz, s_rd, s_pt, s_ai, s_lds, s_ldsN, s_al, s_ar, s_cls, s_leni, s_lenz, s_lenr, s_lenN, s_lenl, s_rc0, s_rc1, s_rcv, s_clo, s_clx, s_cln, s_cl1, s_cl2, s_cl3, s_cl4, s_cl5, s_sw1, s_sw2, s_min0, s_min1, s_min2, List.getElem?_cons_zero, List.getElem?_cons_succ, List.take_succ_cons, List.take_zero, List.length_cons, List.length_nil, List.set_cons_zero, List.set_cons_succ, List.cons_append, List.nil_append, Option.toList_some, Option.toList_none, Nat.reduceAdd, Nat.reduceSub, Nat.reduceLeDiff, Nat.reduceLT, Nat.reduceEqDiff, Nat.zero_add, Nat.add_zero, Nat.le_refl, Nat.zero_le, true_and, and_true, true_or, or_true, or_false, false_or, and_self, not_false_eq_true, Nat.one_ne_zero, Nat.zero_ne_one, reduceCtorEq, false_and, and_false, g_ent, lg_sl, List.flatMap_cons, List.flatMap_nil, List.map_cons, List.map_nil, Value.category, ite_true, ite_false, if_true, if_false, if_pos, gEl, Option.isSome_some, s_c12, s_p12, s_c16, s_p16, s_c20, s_p20, s_c30, s_p30, s_c60, s_p60, s_c100, s_p100, s_c500, s_p500, s_c61, s_p61, s_c1952, s_p1952, s_c732, s_p732, s_c1830, s_p1830, s_c2000, s_p2000, not_true_eq_false, true_implies, false_implies, implies_true, b2i_t]
      refine ⟨fun _ => ⟨100, 0, by omega, rfl, rfl, rfl, rfl, by rw [freeM_0]; exact hR, rfl, rfl⟩, fun z => absurd (by decide) z⟩
    · rintro k pc lv st σ' c z ⟨i, hi, rfl, rfl, rfl, rfl, hRi, rfl, rfl⟩
      refine ⟨200, ?_⟩
      obtain ⟨ow, v, t, sa, la, sets, lines, hC⟩ := id hRi
      have hd := hC.1
      have hla := hC.2.2.2.1
      obtain ⟨oo0, oo1, oo2, oo3, oo4⟩ := hC.2.2.2.2.1
      have hcl : (nI i).toNatClampNeg = i := pk_cl i
      have hsb : m_sum (fun n => dropC xn (M.2.2.2.2 n)) i ≤ i * 1 := m_sum_le i (fun j hj => by
        unfold dropC
        split
        · omega
        · unfold dropL
          split
          · exact Nat.zero_le _
          · dsimp only
            split <;> omega)
      simp only [w_iload_1, w_invokestatic, w_if_ne, w_bipush, w_iret, w_iconst, w_istore_2, w_istore_3, w_iload_3, w_icmp_ge, w_aload_0, w_get, w_aald, w_ifnull, w_ifnullN, w_iload_2, w_invokevirtual, w_iadd, w_iinc, w_goto, go_C_free_0, go_C_free_1, go_C_free_4, go_C_free_7, go_C_free_9, go_C_free_10, go_C_free_11, go_C_free_12, go_C_free_13, go_C_free_14, go_C_free_15, go_C_free_17, go_C_free_20, go_C_free_21, go_C_free_24, go_C_free_25, go_C_free_26, go_C_free_29, go_C_free_30, go_C_free_31, go_C_free_34, go_C_free_35, go_C_free_36, go_C_free_37, go_C_free_40, go_C_free_41, go_C_free_42, go_C_free_45, go_C_free_48, go_C_free_49, at_C_free_0, at_C_free_14, tf_C_free_26, tc_C_free_129, tm_C_free_129, tc_C_free_137, tm_C_free_137, s_opt, s_oI, s_oL, s_oA, s_oAN, s_set0, s_set1, s_setn0, s_setn1, s_ok0, s_okn, s_oki, s_okr, s_okN, s_oko, s_oks, s_c1i, s_c1r, s_c1n, s_fi, s_fr, s_fn, s_fl, s_fz, s_rd, s_pt, s_ai, s_lds, s_ldsN, s_al, s_ar, s_cls, s_leni, s_lenz, s_lenr, s_lenN, s_lenl, s_rc0, s_rc1, s_rcv, s_clo, s_clx, s_cln, s_cl1, s_cl2, s_cl3, s_cl4, s_cl5, s_sw1, s_sw2, s_min0, s_min1, s_min2, List.getElem?_cons_zero, List.getElem?_cons_succ, List.take_succ_cons, List.take_zero, List.length_cons, List.length_nil, List.set_cons_zero, List.set_cons_succ, List.cons_append, List.nil_append, Option.toList_some, Option.toList_none, Nat.reduceAdd, Nat.reduceSub, Nat.reduceLeDiff, Nat.reduceLT, Nat.reduceEqDiff, Nat.zero_add, Nat.add_zero, Nat.le_refl, Nat.zero_le, true_and, and_true, true_or, or_true, or_false, false_or, and_self, not_false_eq_true, Nat.one_ne_zero, Nat.zero_ne_one, reduceCtorEq, false_and, and_false, g_ent, lg_sl, List.flatMap_cons, List.flatMap_nil, List.map_cons, List.map_nil, Value.category, ite_true, ite_false, if_true, if_false, if_pos, gEl, Option.isSome_some, s_c12, s_p12, s_c16, s_p16, s_c20, s_p20, s_c30, s_p30, s_c60, s_p60, s_c100, s_p100, s_c500, s_p500, s_c61, s_p61, s_c1952, s_p1952, s_c732, s_p732, s_c1830, s_p1830, s_c2000, s_p2000, not_true_eq_false, true_implies, false_implies, implies_true, hd, hla, hcl]
      refine pk_le 100 i (fun h => ?_) (fun h => ?_)
      · have : i = 100 := by omega
        subst this
        exact hP σ' hRi
      · have q1 : vp_in (nI i) 100 := pk_in i 100 (by omega)
        have e5 : m_sum (fun n => dropC xn (M.2.2.2.2 n)) (i + 1) = m_sum (fun n => dropC xn (M.2.2.2.2 n)) i + dropC xn (M.2.2.2.2 i) := rfl
        have e6 : (freeM M xn i).2.2.2.2 i = M.2.2.2.2 i := by simp [freeM]
        refine ⟨q1, ?_⟩
        rcases hC.2.2.2.2.2.2 i (by omega) with ⟨e1, e2⟩ | ⟨a, L, e1, e2, j, o, hLn, o0, o1, o2⟩
        · rw [e6] at e2
          refine ar_n e1 ⟨100 - (i + 1), by omega, i + 1, by omega, rfl, rfl, ?_, rfl, by rw [← freeM_n e2]; exact hRi, rfl, rfl⟩
          rw [e5, e2, nI_1]; rfl
        · rw [e6] at e2
          have hbl := hok.2.2.2 i L e2
          have ha := hLn.1
          refine ar_s e1 ⟨q1, ar_s e1 ?_⟩
          simp only [w_iload_1, w_invokestatic, w_if_ne, w_bipush, w_iret, w_iconst, w_istore_2, w_istore_3, w_iload_3, w_icmp_ge, w_aload_0, w_get, w_aald, w_ifnull, w_ifnullN, w_iload_2, w_invokevirtual, w_iadd, w_iinc, w_goto, go_C_free_0, go_C_free_1, go_C_free_4, go_C_free_7, go_C_free_9, go_C_free_10, go_C_free_11, go_C_free_12, go_C_free_13, go_C_free_14, go_C_free_15, go_C_free_17, go_C_free_20, go_C_free_21, go_C_free_24, go_C_free_25, go_C_free_26, go_C_free_29, go_C_free_30, go_C_free_31, go_C_free_34, go_C_free_35, go_C_free_36, go_C_free_37, go_C_free_40, go_C_free_41, go_C_free_42, go_C_free_45, go_C_free_48, go_C_free_49, at_C_free_0, at_C_free_14, tf_C_free_26, tc_C_free_129, tm_C_free_129, tc_C_free_137, tm_C_free_137, s_opt, s_oI, s_oL, s_oA, s_oAN, s_set0, s_set1, s_setn0, s_setn1, s_ok0, s_okn, s_oki, s_okr, s_okN, s_oko, s_oks, s_c1i, s_c1r, s_c1n, s_fi, s_fr, s_fn, s_fl, s_fz, s_rd, s_pt, s_ai, s_lds, s_ldsN, s_al, s_ar, s_cls, s_leni, s_lenz, s_lenr, s_lenN, s_lenl, s_rc0, s_rc1, s_rcv, s_clo, s_clx, s_cln, s_cl1, s_cl2, s_cl3, s_cl4, s_cl5, s_sw1, s_sw2, s_min0, s_min1, s_min2, List.getElem?_cons_zero, List.getElem?_cons_succ, List.take_succ_cons, List.take_zero, List.length_cons, List.length_nil, List.set_cons_zero, List.set_cons_succ, List.cons_append, List.nil_append, Option.toList_some, Option.toList_none, Nat.reduceAdd, Nat.reduceSub, Nat.reduceLeDiff, Nat.reduceLT, Nat.reduceEqDiff, Nat.zero_add, Nat.add_zero, Nat.le_refl, Nat.zero_le, true_and, and_true, true_or, or_true, or_false, false_or, and_self, not_false_eq_true, Nat.one_ne_zero, Nat.zero_ne_one, reduceCtorEq, false_and, and_false, g_ent, lg_sl, List.flatMap_cons, List.flatMap_nil, List.map_cons, List.map_nil, Value.category, ite_true, ite_false, if_true, if_false, if_pos, gEl, Option.isSome_some, s_c12, s_p12, s_c16, s_p16, s_c20, s_p20, s_c30, s_p30, s_c60, s_p60, s_c100, s_p100, s_c500, s_p500, s_c61, s_p61, s_c1952, s_p1952, s_c732, s_p732, s_c1830, s_p1830, s_c2000, s_p2000, not_true_eq_false, true_implies, false_implies, implies_true, ha]
          refine ⟨a, j, o, L.1, L.2.1, xn, L.2.2.1, L.2.2.2, rfl, hLn, hbl, hx2, fun hn => ?_, fun at' hat h1 hh1 h2 hh2 => ?_⟩
          · simp only [w_iload_1, w_invokestatic, w_if_ne, w_bipush, w_iret, w_iconst, w_istore_2, w_istore_3, w_iload_3, w_icmp_ge, w_aload_0, w_get, w_aald, w_ifnull, w_ifnullN, w_iload_2, w_invokevirtual, w_iadd, w_iinc, w_goto, go_C_free_0, go_C_free_1, go_C_free_4, go_C_free_7, go_C_free_9, go_C_free_10, go_C_free_11, go_C_free_12, go_C_free_13, go_C_free_14, go_C_free_15, go_C_free_17, go_C_free_20, go_C_free_21, go_C_free_24, go_C_free_25, go_C_free_26, go_C_free_29, go_C_free_30, go_C_free_31, go_C_free_34, go_C_free_35, go_C_free_36, go_C_free_37, go_C_free_40, go_C_free_41, go_C_free_42, go_C_free_45, go_C_free_48, go_C_free_49, at_C_free_0, at_C_free_14, tf_C_free_26, tc_C_free_129, tm_C_free_129, tc_C_free_137, tm_C_free_137, s_opt, s_oI, s_oL, s_oA, s_oAN, s_set0, s_set1, s_setn0, s_setn1, s_ok0, s_okn, s_oki, s_okr, s_okN, s_oko, s_oks, s_c1i, s_c1r, s_c1n, s_fi, s_fr, s_fn, s_fl, s_fz, s_rd, s_pt, s_ai, s_lds, s_ldsN, s_al, s_ar, s_cls, s_leni, s_lenz, s_lenr, s_lenN, s_lenl, s_rc0, s_rc1, s_rcv, s_clo, s_clx, s_cln, s_cl1, s_cl2, s_cl3, s_cl4, s_cl5, s_sw1, s_sw2, s_min0, s_min1, s_min2, List.getElem?_cons_zero, List.getElem?_cons_succ, List.take_succ_cons, List.take_zero, List.length_cons, List.length_nil, List.set_cons_zero, List.set_cons_succ, List.cons_append, List.nil_append, Option.toList_some, Option.toList_none, Nat.reduceAdd, Nat.reduceSub, Nat.reduceLeDiff, Nat.reduceLT, Nat.reduceEqDiff, Nat.zero_add, Nat.add_zero, Nat.le_refl, Nat.zero_le, true_and, and_true, true_or, or_true, or_false, false_or, and_self, not_false_eq_true, Nat.one_ne_zero, Nat.zero_ne_one, reduceCtorEq, false_and, and_false, g_ent, lg_sl, List.flatMap_cons, List.flatMap_nil, List.map_cons, List.map_nil, Value.category, ite_true, ite_false, if_true, if_false, if_pos, gEl, Option.isSome_some, s_c12, s_p12, s_c16, s_p16, s_c20, s_p20, s_c30, s_p30, s_c60, s_p60, s_c100, s_p100, s_c500, s_p500, s_c61, s_p61, s_c1952, s_p1952, s_c732, s_p732, s_c1830, s_p1830, s_c2000, s_p2000, not_true_eq_false, true_implies, false_implies, implies_true]
            have e7 : dropL xn L = (L, 0) := by
              unfold dropL
              rw [show m_lix L xn = none from hn]
            refine ⟨100 - (i + 1), by omega, i + 1, by omega, rfl, rfl, ?_, rfl, ?_, rfl, rfl⟩
            · rw [e5, e2, nI_1]
              have e8 : dropC xn (some L) = 0 := by show (dropL xn L).2 = 0; rw [e7]
              rw [e8, Int32.add_zero]; rfl
            · rw [← freeM_s e2, e7, setL_same (by rw [e6]; exact e2)]
              exact hRi
          · have e7 : dropL xn L = ((L.1 - 1, h2, m_sh L.2.2.1 at' (L.1 - 1), m_sh L.2.2.2 at' (L.1 - 1)), if at' < L.2.1 then 1 else 0) := by
              unfold dropL
              rw [show m_lix L xn = some at' from hat]
              dsimp only
              rw [← hh1, ← hh2]
            simp only [w_iload_1, w_invokestatic, w_if_ne, w_bipush, w_iret, w_iconst, w_istore_2, w_istore_3, w_iload_3, w_icmp_ge, w_aload_0, w_get, w_aald, w_ifnull, w_ifnullN, w_iload_2, w_invokevirtual, w_iadd, w_iinc, w_goto, go_C_free_0, go_C_free_1, go_C_free_4, go_C_free_7, go_C_free_9, go_C_free_10, go_C_free_11, go_C_free_12, go_C_free_13, go_C_free_14, go_C_free_15, go_C_free_17, go_C_free_20, go_C_free_21, go_C_free_24, go_C_free_25, go_C_free_26, go_C_free_29, go_C_free_30, go_C_free_31, go_C_free_34, go_C_free_35, go_C_free_36, go_C_free_37, go_C_free_40, go_C_free_41, go_C_free_42, go_C_free_45, go_C_free_48, go_C_free_49, at_C_free_0, at_C_free_14, tf_C_free_26, tc_C_free_129, tm_C_free_129, tc_C_free_137, tm_C_free_137, s_opt, s_oI, s_oL, s_oA, s_oAN, s_set0, s_set1, s_setn0, s_setn1, s_ok0, s_okn, s_oki, s_okr, s_okN, s_oko, s_oks, s_c1i, s_c1r, s_c1n, s_fi, s_fr, s_fn, s_fl, s_fz, s_rd, s_pt, s_ai, s_lds, s_ldsN, s_al, s_ar, s_cls, s_leni, s_lenz, s_lenr, s_lenN, s_lenl, s_rc0, s_rc1, s_rcv, s_clo, s_clx, s_cln, s_cl1, s_cl2, s_cl3, s_cl4, s_cl5, s_sw1, s_sw2, s_min0, s_min1, s_min2, List.getElem?_cons_zero, List.getElem?_cons_succ, List.take_succ_cons, List.take_zero, List.length_cons, List.length_nil, List.set_cons_zero, List.set_cons_succ, List.cons_append, List.nil_append, Option.toList_some, Option.toList_none, Nat.reduceAdd, Nat.reduceSub, Nat.reduceLeDiff, Nat.reduceLT, Nat.reduceEqDiff, Nat.zero_add, Nat.add_zero, Nat.le_refl, Nat.zero_le, true_and, and_true, true_or, or_true, or_false, false_or, and_self, not_false_eq_true, Nat.one_ne_zero, Nat.zero_ne_one, reduceCtorEq, false_and, and_false, g_ent, lg_sl, List.flatMap_cons, List.flatMap_nil, List.map_cons, List.map_nil, Value.category, ite_true, ite_false, if_true, if_false, if_pos, gEl, Option.isSome_some, s_c12, s_p12, s_c16, s_p16, s_c20, s_p20, s_c30, s_p30, s_c60, s_p60, s_c100, s_p100, s_c500, s_p500, s_c61, s_p61, s_c1952, s_p1952, s_c732, s_p732, s_c1830, s_p1830, s_c2000, s_p2000, not_true_eq_false, true_implies, false_implies, implies_true]
            refine ⟨100 - (i + 1), by omega, i + 1, by omega, rfl, rfl, ?_, rfl, ⟨ow, v, t, sa, la, sets, lines, ?_⟩, rfl, rfl⟩
            · rw [e5, e2, nI_1]
              have e8 : dropC xn (some L) = (if at' < L.2.1 then 1 else 0) := by show (dropL xn L).2 = _; rw [e7]
              have e9 : b2i (decide (at' < L.2.1)) = nI (if at' < L.2.1 then 1 else 0) := by
                by_cases hq : at' < L.2.1
                · rw [decide_eq_true hq, if_pos hq]; rfl
                · rw [decide_eq_false hq, if_neg hq]; rfl
              rw [e8, e9, nI_add]
            · rw [← freeM_s e2, e7]
              refine rC_line hC (by omega) e1 (fun z hz => ?_) ⟨j, o, ⟨g_up_s, ?_, ?_⟩, o0, o1, o2⟩
              · rw [g_up_n (ow_ne ow (by omega)), g_up_n (ow_ne ow (by omega)), g_up_n (ow_ne ow (by omega))]
              · rw [g_up_n (ow_ne ow (by omega)), g_up_n (ow_ne ow (by omega)), g_up_s]
              · rw [g_up_n (ow_ne ow (by omega)), g_up_s]
  · rw [if_neg hb] at hP
    refine ⟨by simp [lg_sl, Value.category], fun _ _ _ _ _ _ _ => False, ⟨200, ?_⟩, fun _ _ _ _ _ _ _ h => h.elim⟩
    simp only [w_iload_1, w_invokestatic, w_if_ne, w_bipush, w_iret, w_iconst, w_istore_2, w_istore_3, w_iload_3, w_icmp_ge, w_aload_0, w_get, w_aald, w_ifnull, w_ifnullN, w_iload_2, w_invokevirtual, w_iadd, w_iinc, w_goto, go_C_free_0, go_C_free_1, go_C_free_4, go_C_free_7, go_C_free_9, go_C_free_10, go_C_free_11, go_C_free_12, go_C_free_13, go_C_free_14, go_C_free_15, go_C_free_17, go_C_free_20, go_C_free_21, go_C_free_24, go_C_free_25, go_C_free_26, go_C_free_29, go_C_free_30, go_C_free_31, go_C_free_34, go_C_free_35, go_C_free_36, go_C_free_37, go_C_free_40, go_C_free_41, go_C_free_42, go_C_free_45, go_C_free_48, go_C_free_49, at_C_free_0, at_C_free_14, tf_C_free_26, tc_C_free_129, tm_C_free_129, tc_C_free_137, tm_C_free_137, s_opt, s_oI, s_oL, s_oA, s_oAN, s_set0, s_set1, s_setn0, s_setn1, s_ok0, s_okn, s_oki, s_okr, s_okN, s_oko, s_oks, s_c1i, s_c1r, s_c1n, s_fi, s_fr, s_fn, s_fl, s_fz, s_rd, s_pt, s_ai, s_lds, s_ldsN, s_al, s_ar, s_cls, s_leni, s_lenz, s_lenr, s_lenN, s_lenl, s_rc0, s_rc1, s_rcv, s_clo, s_clx, s_cln, s_cl1, s_cl2, s_cl3, s_cl4, s_cl5, s_sw1, s_sw2, s_min0, s_min1, s_min2, List.getElem?_cons_zero, List.getElem?_cons_succ, List.take_succ_cons, List.take_zero, List.length_cons, List.length_nil, List.set_cons_zero, List.set_cons_succ, List.cons_append, List.nil_append, Option.toList_some, Option.toList_none, Nat.reduceAdd, Nat.reduceSub, Nat.reduceLeDiff, Nat.reduceLT, Nat.reduceEqDiff, Nat.zero_add, Nat.add_zero, Nat.le_refl, Nat.zero_le, true_and, and_true, true_or, or_true, or_false, false_or, and_self, not_false_eq_true, Nat.one_ne_zero, Nat.zero_ne_one, reduceCtorEq, false_and, and_false, g_ent, lg_sl, List.flatMap_cons, List.flatMap_nil, List.map_cons, List.map_nil, Value.category, ite_true, ite_false, if_true, if_false, if_pos, gEl, Option.isSome_some, s_c12, s_p12, s_c16, s_p16, s_c20, s_p20, s_c30, s_p30, s_c60, s_p60, s_c100, s_p100, s_c500, s_p500, s_c61, s_p61, s_c1952, s_p1952, s_c732, s_p732, s_c1830, s_p1830, s_c2000, s_p2000, not_true_eq_false, true_implies, false_implies, implies_true]
    refine ⟨x, rfl, ?_⟩
    rw [show m_jb x = false by simpa using hb]
    simp only [w_iload_1, w_invokestatic, w_if_ne, w_bipush, w_iret, w_iconst, w_istore_2, w_istore_3, w_iload_3, w_icmp_ge, w_aload_0, w_get, w_aald, w_ifnull, w_ifnullN, w_iload_2, w_invokevirtual, w_iadd, w_iinc, w_goto, go_C_free_0, go_C_free_1, go_C_free_4, go_C_free_7, go_C_free_9, go_C_free_10, go_C_free_11, go_C_free_12, go_C_free_13, go_C_free_14, go_C_free_15, go_C_free_17, go_C_free_20, go_C_free_21, go_C_free_24, go_C_free_25, go_C_free_26, go_C_free_29, go_C_free_30, go_C_free_31, go_C_free_34, go_C_free_35, go_C_free_36, go_C_free_37, go_C_free_40, go_C_free_41, go_C_free_42, go_C_free_45, go_C_free_48, go_C_free_49, at_C_free_0, at_C_free_14, tf_C_free_26, tc_C_free_129, tm_C_free_129, tc_C_free_137, tm_C_free_137, s_opt, s_oI, s_oL, s_oA, s_oAN, s_set0, s_set1, s_setn0, s_setn1, s_ok0, s_okn, s_oki, s_okr, s_okN, s_oko, s_oks, s_c1i, s_c1r, s_c1n, s_fi, s_fr, s_fn, s_fl, s_fz, s_rd, s_pt, s_ai, s_lds, s_ldsN, s_al, s_ar, s_cls, s_leni, s_lenz, s_lenr, s_lenN, s_lenl, s_rc0, s_rc1, s_rcv, s_clo, s_clx, s_cln, s_cl1, s_cl2, s_cl3, s_cl4, s_cl5, s_sw1, s_sw2, s_min0, s_min1, s_min2, List.getElem?_cons_zero, List.getElem?_cons_succ, List.take_succ_cons, List.take_zero, List.length_cons, List.length_nil, List.set_cons_zero, List.set_cons_succ, List.cons_append, List.nil_append, Option.toList_some, Option.toList_none, Nat.reduceAdd, Nat.reduceSub, Nat.reduceLeDiff, Nat.reduceLT, Nat.reduceEqDiff, Nat.zero_add, Nat.add_zero, Nat.le_refl, Nat.zero_le, true_and, and_true, true_or, or_true, or_false, false_or, and_self, not_false_eq_true, Nat.one_ne_zero, Nat.zero_ne_one, reduceCtorEq, false_and, and_false, g_ent, lg_sl, List.flatMap_cons, List.flatMap_nil, List.map_cons, List.map_nil, Value.category, ite_true, ite_false, if_true, if_false, if_pos, gEl, Option.isSome_some, s_c12, s_p12, s_c16, s_p16, s_c20, s_p20, s_c30, s_p30, s_c60, s_p60, s_c100, s_p100, s_c500, s_p500, s_c61, s_p61, s_c1952, s_p1952, s_c732, s_p732, s_c1830, s_p1830, s_c2000, s_p2000, not_true_eq_false, true_implies, false_implies, implies_true, b2i_f]
    exact hP σ hR
def mM0 (x : Int32) : mM := (m_clamp x, fun _ => false, 0, fun _ => none, fun _ => none)
def sp_C_init : gSpec := fun av σ P => ∃ (d : Nat) (x : Int32), av = [.ref d, .int x] ∧ σ d = some (g_ob 6 [.null, .null, .null, .int 0]) ∧ ∀ σ', RepC σ' d (mM0 x) → P none σ'
def T_C_init : gT := gTT [(12, 6, 0, 1, 2), (20, 6, 1, 1, 2), (26, 6, 2, 1, 2), (30, 6, 3, 0, 1)] [(9, 2, 1, sp_V_init, 1, 500)] [(7, 5, [.null])] [(18, 3), (24, 4)] [] [(1, 0)]
theorem tf_C_init_12 : (T_C_init).1 12 = some (6, 0, 1, 2) := rfl
theorem tf_C_init_20 : (T_C_init).1 20 = some (6, 1, 1, 2) := rfl
theorem tf_C_init_26 : (T_C_init).1 26 = some (6, 2, 1, 2) := rfl
theorem tf_C_init_30 : (T_C_init).1 30 = some (6, 3, 0, 1) := rfl
theorem tc_C_init_9 : (T_C_init).2.1 9 = some (2, 1, sp_V_init, 1, 500) := rfl
theorem tm_C_init_9 : (T_C_init).2.2.2.2.2 9 = none := rfl
theorem tn_C_init_7 : (T_C_init).2.2.1 7 = some (5, [.null]) := rfl
theorem ta_C_init_18 : (T_C_init).2.2.2.1 18 = some 3 := rfl
theorem ta_C_init_24 : (T_C_init).2.2.2.1 24 = some 4 := rfl
theorem tm_C_init_1 : (T_C_init).2.2.2.2.2 1 = some 0 := rfl
theorem t_C_init (l : Launch) (sc : gX) : g_TOK l sc (gRm 2 4 661) (T_C_init) gEl "DataSets" gCl gTb gNs gAT gAO := gTT_ok
  (List.forall_mem_cons.mpr ⟨⟨R_C, F_C, 4, t_C 0, rfl, by decide, rfl, by decide +kernel, rfl, by decide, Or.inl ⟨wd62, by decide⟩⟩, List.forall_mem_cons.mpr ⟨⟨R_C, F_C, 4, t_C 1, rfl, by decide, rfl, by decide +kernel, rfl, by decide, Or.inl ⟨wd63, by decide⟩⟩, List.forall_mem_cons.mpr ⟨⟨R_C, F_C, 4, t_C 2, rfl, by decide, rfl, by decide +kernel, rfl, by decide, Or.inl ⟨wd64, by decide⟩⟩, List.forall_mem_cons.mpr ⟨⟨R_C, F_C, 4, t_C 3, rfl, by decide, rfl, by decide +kernel, rfl, by decide, Or.inl ⟨wd65, by decide⟩⟩, fun _ h => absurd h List.not_mem_nil⟩⟩⟩⟩)
  (List.forall_mem_cons.mpr ⟨⟨y_V_init, b_V_init, 2, _, gRm 1 1 500, k_V_init l sc, rfl, rfl, by decide, by decide, wd45, wd25, ⟨by decide, by decide⟩, Or.inl wd43, ⟨by decide +kernel, rfl, rfl, wd44⟩⟩, fun _ h => absurd h List.not_mem_nil⟩)
  (List.forall_mem_cons.mpr ⟨⟨R_V, F_V, 1, rfl, rfl, wd41, wd42, wd25, t_V, t_V_ok, by decide +kernel⟩, fun _ h => absurd h List.not_mem_nil⟩)
  (List.forall_mem_cons.mpr ⟨⟨_, rfl, wd58, by decide⟩, List.forall_mem_cons.mpr ⟨⟨_, rfl, wd60, by decide⟩, fun _ h => absurd h List.not_mem_nil⟩⟩)
  (fun _ h => absurd h List.not_mem_nil)
  (List.forall_mem_cons.mpr ⟨⟨fun _ => ⟨wd38, wd39, gTb_in 40 (by decide +kernel) rfl⟩, (fun h => by cases h), (fun h => by cases h)⟩, fun _ h => absurd h List.not_mem_nil⟩)
set_option maxHeartbeats 4000000 in
set_option maxRecDepth 100000 in
theorem k_C_init (l : Launch) (sc : gX) : g_Met l sc gCl gTb gNs gAT gAO y_C_init b_C_init 2 none (gRm 2 4 661) (sp_C_init) 4 661 := by
  refine g_meth (T := (T_C_init)) (el := gEl) (ini := true) (rk := 0) (code := c_C_init) gG_ok (t_C_init l sc) (by decide) (by decide) rfl ⟨rfl, rfl, by decide, by decide⟩ ok_C_init ?_
  intro av σ P hsp
  obtain ⟨d, x, rfl, hd, hP⟩ := hsp
  refine ⟨by simp [lg_sl, Value.category], fun _ _ _ _ _ _ _ => False, ⟨200, ?_⟩, fun _ _ _ _ _ _ _ h => h.elim⟩
  simp only [w_aload_0, w_invokespecial, w_new, w_dup, w_iload_1, w_put, w_bipush, w_newr, w_iconst, w_ret, go_C_init_0, go_C_init_1, go_C_init_4, go_C_init_5, go_C_init_8, go_C_init_9, go_C_init_10, go_C_init_13, go_C_init_16, go_C_init_17, go_C_init_19, go_C_init_22, go_C_init_25, go_C_init_26, go_C_init_28, go_C_init_31, go_C_init_34, go_C_init_35, go_C_init_36, go_C_init_39, at_C_init_0, tf_C_init_12, tf_C_init_20, tf_C_init_26, tf_C_init_30, tc_C_init_9, tm_C_init_9, tn_C_init_7, ta_C_init_18, ta_C_init_24, tm_C_init_1, s_opt, s_oI, s_oL, s_oA, s_oAN, s_set0, s_set1, s_setn0, s_setn1, s_ok0, s_okn, s_oki, s_okr, s_okN, s_oko, s_oks, s_c1i, s_c1r, s_c1n, s_fi, s_fr, s_fn, s_fl, s_fz, s_rd, s_pt, s_ai, s_lds, s_ldsN, s_al, s_ar, s_cls, s_leni, s_lenz, s_lenr, s_lenN, s_lenl, s_rc0, s_rc1, s_rcv, s_clo, s_clx, s_cln, s_cl1, s_cl2, s_cl3, s_cl4, s_cl5, s_sw1, s_sw2, s_min0, s_min1, s_min2, List.getElem?_cons_zero, List.getElem?_cons_succ, List.take_succ_cons, List.take_zero, List.length_cons, List.length_nil, List.set_cons_zero, List.set_cons_succ, List.cons_append, List.nil_append, Option.toList_some, Option.toList_none, Nat.reduceAdd, Nat.reduceSub, Nat.reduceLeDiff, Nat.reduceLT, Nat.reduceEqDiff, Nat.zero_add, Nat.add_zero, Nat.le_refl, Nat.zero_le, true_and, and_true, true_or, or_true, or_false, false_or, and_self, not_false_eq_true, Nat.one_ne_zero, Nat.zero_ne_one, reduceCtorEq, false_and, and_false, g_ent, lg_sl, List.flatMap_cons, List.flatMap_nil, List.map_cons, List.map_nil, Value.category, ite_true, ite_false, if_true, if_false, if_pos, gEl, Option.isSome_some, s_c12, s_p12, s_c16, s_p16, s_c20, s_p20, s_c30, s_p30, s_c60, s_p60, s_c100, s_p100, s_c500, s_p500, s_c61, s_p61, s_c1952, s_p1952, s_c732, s_p732, s_c1830, s_p1830, s_c2000, s_p2000, not_true_eq_false, true_implies, false_implies, implies_true, hd]
  refine fun v hv _ => ?_
  have p1 : v ≠ d := Ne.symm (g_ne_new hd hv)
  refine ⟨v, x, rfl, g_up_s, fun t ht => ?_⟩
  have p2 : t ≠ v := fun z => by rw [z, g_up_s] at ht; cases ht
  rw [g_up_n p2] at ht
  have p3 : t ≠ d := Ne.symm (g_ne_new hd ht)
  have hd1 : ∀ E1 E2 E3, g_up (g_up (g_up σ v E1) t E2) v E3 d = some (g_ob 6 [.null, .null, .null, .int 0]) := fun E1 E2 E3 => by rw [g_up_n (Ne.symm p1), g_up_n (Ne.symm p3), g_up_n (Ne.symm p1)]; exact hd
  generalize hσ1 : g_up (g_up (g_up σ v _) t _) v _ = σ1
  have kd : σ1 d = some (g_ob 6 [.null, .null, .null, .int 0]) := by rw [← hσ1]; exact hd1 _ _ _
  have kv : σ1 v = some (g_ob 5 [.ref t]) := by rw [← hσ1, g_up_s]
  have kt : σ1 t = some (g_ia 1 (m_clamp x) (fun _ => b2i false)) := by rw [← hσ1, g_up_n p2, g_up_s]
  clear hσ1
  simp only [w_aload_0, w_invokespecial, w_new, w_dup, w_iload_1, w_put, w_bipush, w_newr, w_iconst, w_ret, go_C_init_0, go_C_init_1, go_C_init_4, go_C_init_5, go_C_init_8, go_C_init_9, go_C_init_10, go_C_init_13, go_C_init_16, go_C_init_17, go_C_init_19, go_C_init_22, go_C_init_25, go_C_init_26, go_C_init_28, go_C_init_31, go_C_init_34, go_C_init_35, go_C_init_36, go_C_init_39, at_C_init_0, tf_C_init_12, tf_C_init_20, tf_C_init_26, tf_C_init_30, tc_C_init_9, tm_C_init_9, tn_C_init_7, ta_C_init_18, ta_C_init_24, tm_C_init_1, s_opt, s_oI, s_oL, s_oA, s_oAN, s_set0, s_set1, s_setn0, s_setn1, s_ok0, s_okn, s_oki, s_okr, s_okN, s_oko, s_oks, s_c1i, s_c1r, s_c1n, s_fi, s_fr, s_fn, s_fl, s_fz, s_rd, s_pt, s_ai, s_lds, s_ldsN, s_al, s_ar, s_cls, s_leni, s_lenz, s_lenr, s_lenN, s_lenl, s_rc0, s_rc1, s_rcv, s_clo, s_clx, s_cln, s_cl1, s_cl2, s_cl3, s_cl4, s_cl5, s_sw1, s_sw2, s_min0, s_min1, s_min2, List.getElem?_cons_zero, List.getElem?_cons_succ, List.take_succ_cons, List.take_zero, List.length_cons, List.length_nil, List.set_cons_zero, List.set_cons_succ, List.cons_append, List.nil_append, Option.toList_some, Option.toList_none, Nat.reduceAdd, Nat.reduceSub, Nat.reduceLeDiff, Nat.reduceLT, Nat.reduceEqDiff, Nat.zero_add, Nat.add_zero, Nat.le_refl, Nat.zero_le, true_and, and_true, true_or, or_true, or_false, false_or, and_self, not_false_eq_true, Nat.one_ne_zero, Nat.zero_ne_one, reduceCtorEq, false_and, and_false, g_ent, lg_sl, List.flatMap_cons, List.flatMap_nil, List.map_cons, List.map_nil, Value.category, ite_true, ite_false, if_true, if_false, if_pos, gEl, Option.isSome_some, s_c12, s_p12, s_c16, s_p16, s_c20, s_p20, s_c30, s_p30, s_c60, s_p60, s_c100, s_p100, s_c500, s_p500, s_c61, s_p61, s_c1952, s_p1952, s_c732, s_p732, s_c1830, s_p1830, s_c2000, s_p2000, not_true_eq_false, true_implies, false_implies, implies_true, kd, g_up_s]
  refine fun sa hsa => ?_
  have p4 : sa ≠ d := fun z => by rw [z, g_up_s] at hsa; cases hsa
  rw [g_up_n p4] at hsa
  have p5 : v ≠ sa := g_ne_new kv hsa
  have p6 : t ≠ sa := g_ne_new kt hsa
  simp only [w_aload_0, w_invokespecial, w_new, w_dup, w_iload_1, w_put, w_bipush, w_newr, w_iconst, w_ret, go_C_init_0, go_C_init_1, go_C_init_4, go_C_init_5, go_C_init_8, go_C_init_9, go_C_init_10, go_C_init_13, go_C_init_16, go_C_init_17, go_C_init_19, go_C_init_22, go_C_init_25, go_C_init_26, go_C_init_28, go_C_init_31, go_C_init_34, go_C_init_35, go_C_init_36, go_C_init_39, at_C_init_0, tf_C_init_12, tf_C_init_20, tf_C_init_26, tf_C_init_30, tc_C_init_9, tm_C_init_9, tn_C_init_7, ta_C_init_18, ta_C_init_24, tm_C_init_1, s_opt, s_oI, s_oL, s_oA, s_oAN, s_set0, s_set1, s_setn0, s_setn1, s_ok0, s_okn, s_oki, s_okr, s_okN, s_oko, s_oks, s_c1i, s_c1r, s_c1n, s_fi, s_fr, s_fn, s_fl, s_fz, s_rd, s_pt, s_ai, s_lds, s_ldsN, s_al, s_ar, s_cls, s_leni, s_lenz, s_lenr, s_lenN, s_lenl, s_rc0, s_rc1, s_rcv, s_clo, s_clx, s_cln, s_cl1, s_cl2, s_cl3, s_cl4, s_cl5, s_sw1, s_sw2, s_min0, s_min1, s_min2, List.getElem?_cons_zero, List.getElem?_cons_succ, List.take_succ_cons, List.take_zero, List.length_cons, List.length_nil, List.set_cons_zero, List.set_cons_succ, List.cons_append, List.nil_append, Option.toList_some, Option.toList_none, Nat.reduceAdd, Nat.reduceSub, Nat.reduceLeDiff, Nat.reduceLT, Nat.reduceEqDiff, Nat.zero_add, Nat.add_zero, Nat.le_refl, Nat.zero_le, true_and, and_true, true_or, or_true, or_false, false_or, and_self, not_false_eq_true, Nat.one_ne_zero, Nat.zero_ne_one, reduceCtorEq, false_and, and_false, g_ent, lg_sl, List.flatMap_cons, List.flatMap_nil, List.map_cons, List.map_nil, Value.category, ite_true, ite_false, if_true, if_false, if_pos, gEl, Option.isSome_some, s_c12, s_p12, s_c16, s_p16, s_c20, s_p20, s_c30, s_p30, s_c60, s_p60, s_c100, s_p100, s_c500, s_p500, s_c61, s_p61, s_c1952, s_p1952, s_c732, s_p732, s_c1830, s_p1830, s_c2000, s_p2000, not_true_eq_false, true_implies, false_implies, implies_true, kd, g_up_s, g_up_n (Ne.symm p4)]
  refine fun la hla => ?_
  have p7 : la ≠ d := fun z => by rw [z, g_up_s] at hla; cases hla
  rw [g_up_n p7] at hla
  have p8 : la ≠ sa := fun z => by rw [z, g_up_s] at hla; cases hla
  rw [g_up_n p8, g_up_n p7] at hla
  have p9 : v ≠ la := g_ne_new kv hla
  have p10 : t ≠ la := g_ne_new kt hla
  simp only [w_aload_0, w_invokespecial, w_new, w_dup, w_iload_1, w_put, w_bipush, w_newr, w_iconst, w_ret, go_C_init_0, go_C_init_1, go_C_init_4, go_C_init_5, go_C_init_8, go_C_init_9, go_C_init_10, go_C_init_13, go_C_init_16, go_C_init_17, go_C_init_19, go_C_init_22, go_C_init_25, go_C_init_26, go_C_init_28, go_C_init_31, go_C_init_34, go_C_init_35, go_C_init_36, go_C_init_39, at_C_init_0, tf_C_init_12, tf_C_init_20, tf_C_init_26, tf_C_init_30, tc_C_init_9, tm_C_init_9, tn_C_init_7, ta_C_init_18, ta_C_init_24, tm_C_init_1, s_opt, s_oI, s_oL, s_oA, s_oAN, s_set0, s_set1, s_setn0, s_setn1, s_ok0, s_okn, s_oki, s_okr, s_okN, s_oko, s_oks, s_c1i, s_c1r, s_c1n, s_fi, s_fr, s_fn, s_fl, s_fz, s_rd, s_pt, s_ai, s_lds, s_ldsN, s_al, s_ar, s_cls, s_leni, s_lenz, s_lenr, s_lenN, s_lenl, s_rc0, s_rc1, s_rcv, s_clo, s_clx, s_cln, s_cl1, s_cl2, s_cl3, s_cl4, s_cl5, s_sw1, s_sw2, s_min0, s_min1, s_min2, List.getElem?_cons_zero, List.getElem?_cons_succ, List.take_succ_cons, List.take_zero, List.length_cons, List.length_nil, List.set_cons_zero, List.set_cons_succ, List.cons_append, List.nil_append, Option.toList_some, Option.toList_none, Nat.reduceAdd, Nat.reduceSub, Nat.reduceLeDiff, Nat.reduceLT, Nat.reduceEqDiff, Nat.zero_add, Nat.add_zero, Nat.le_refl, Nat.zero_le, true_and, and_true, true_or, or_true, or_false, false_or, and_self, not_false_eq_true, Nat.one_ne_zero, Nat.zero_ne_one, reduceCtorEq, false_and, and_false, g_ent, lg_sl, List.flatMap_cons, List.flatMap_nil, List.map_cons, List.map_nil, Value.category, ite_true, ite_false, if_true, if_false, if_pos, gEl, Option.isSome_some, s_c12, s_p12, s_c16, s_p16, s_c20, s_p20, s_c30, s_p30, s_c60, s_p60, s_c100, s_p100, s_c500, s_p500, s_c61, s_p61, s_c1952, s_p1952, s_c732, s_p732, s_c1830, s_p1830, s_c2000, s_p2000, not_true_eq_false, true_implies, false_implies, implies_true, kd, g_up_s, g_up_n (Ne.symm p4), g_up_n (Ne.symm p7)]
  refine hP _ ⟨fun z => if z = d then 0 else if z = v then 1 else if z = t then 2 else if z = sa then 3 else 4, v, t, sa, la, fun _ => none, fun _ => none, ?_, ⟨?_, ?_⟩, ?_, ?_, ⟨by simp, by simp [p1], by simp [p3, p2], by simp [p4, Ne.symm p5, Ne.symm p6], by simp [p7, Ne.symm p9, Ne.symm p10, p8]⟩, fun i hi => Or.inl ⟨rfl, rfl⟩, fun n hn => Or.inl ⟨rfl, rfl⟩⟩
  · rw [g_up_s]; rfl
  · rw [g_up_n p1, g_up_n p1, g_up_n p9, g_up_n p1, g_up_n p5, g_up_n p1]; exact kv
  · rw [g_up_n p3, g_up_n p3, g_up_n p10, g_up_n p3, g_up_n p6, g_up_n p3]; exact kt
  · rw [g_up_n p4, g_up_n p4, g_up_n (Ne.symm p8), g_up_n p4, g_up_s]
  · rw [g_up_n p7, g_up_n p7, g_up_s]
