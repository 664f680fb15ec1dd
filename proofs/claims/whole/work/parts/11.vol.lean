/-- a volume: its object, its array; N places, the taken ones -/
def rVol (σ : gS) (v t N : Nat) (k : Nat → Bool) : Prop := σ v = some (g_ob 5 [.ref t]) ∧ σ t = some (g_ia 1 N (fun j => b2i (k j)))
def sp_V_firstRun : gSpec := fun av σ P => ∃ (v t N n : Nat) (k : Nat → Bool), av = [.ref v, .int (nI n)] ∧ rVol σ v t N k ∧ N ≤ 500 ∧ n ≤ 500 ∧ P (some (.int (oI (m_fr (fun t => !k t) n N 0)))) σ
def iv_V_firstRun (σ : gS) (v N n : Nat) (g : Nat → Bool) : Nat → gK := fun k pc lv st σ' c z => ∃ i, i ≤ N ∧ k = N - i ∧ pc = 4 ∧ lv = [some (.ref v), some (.int (nI n)), some (.int (nI (m_run g i))), some (.int (nI i))] ∧ st = [] ∧ σ' = σ ∧ c = 0 ∧ z = 0 ∧ m_fr g n (N - i) i = m_fr g n N 0
def T_V_firstRun : gT := gTT [(18, 5, 0, 1, 2)] [] [] [] [] []
theorem tf_V_firstRun_18 : (T_V_firstRun).1 18 = some (5, 0, 1, 2) := rfl
theorem t_V_firstRun (l : Launch) (sc : gX) : g_TOK l sc (gRm 1 0 0) (T_V_firstRun) gEl "DataSets$Volume" gCl gTb gNs gAT gAO := gTT_ok
  (List.forall_mem_cons.mpr ⟨⟨R_V, F_V, 1, t_V 0, rfl, by decide, rfl, by decide +kernel, rfl, by decide, Or.inl ⟨wd53, by decide⟩⟩, fun _ h => absurd h List.not_mem_nil⟩)
  (fun _ h => absurd h List.not_mem_nil)
  (fun _ h => absurd h List.not_mem_nil)
  (fun _ h => absurd h List.not_mem_nil)
  (fun _ h => absurd h List.not_mem_nil)
  (fun _ h => absurd h List.not_mem_nil)
set_option maxHeartbeats 4000000 in
set_option maxRecDepth 100000 in
theorem k_V_firstRun (l : Launch) (sc : gX) : g_Met l sc gCl gTb gNs gAT gAO y_V_firstRun b_V_firstRun 4 (some .int) (gRm 1 0 0) (sp_V_firstRun) 0 0 := by
  refine g_meth (T := (T_V_firstRun)) (el := gEl) (ini := false) (rk := 1) (code := c_V_firstRun) gG_ok (t_V_firstRun l sc) (by decide) (by decide) rfl ⟨rfl, rfl, by decide, by decide⟩ ok_V_firstRun ?_
  intro av σ P hsp
  obtain ⟨v, t, N, n, kk, rfl, ⟨hv, ht⟩, hN, hn, hP⟩ := hsp
  refine ⟨by simp [lg_sl, Value.category], iv_V_firstRun σ v N n (fun t => !kk t), ⟨200, ?_⟩, ?_⟩
  · simp only [w_iconst, w_istore_2, w_istore_3, w_iload_3, w_aload_0, w_get, w_len, w_icmp_ge, w_bald, w_if_eq, w_goto, w_iload_2, w_iadd, w_iload_1, w_icmp_ne, w_isub, w_iret, w_iinc, go_V_firstRun_0, go_V_firstRun_1, go_V_firstRun_2, go_V_firstRun_3, go_V_firstRun_4, go_V_firstRun_5, go_V_firstRun_6, go_V_firstRun_9, go_V_firstRun_10, go_V_firstRun_13, go_V_firstRun_14, go_V_firstRun_17, go_V_firstRun_18, go_V_firstRun_19, go_V_firstRun_22, go_V_firstRun_23, go_V_firstRun_26, go_V_firstRun_27, go_V_firstRun_28, go_V_firstRun_29, go_V_firstRun_30, go_V_firstRun_31, go_V_firstRun_32, go_V_firstRun_35, go_V_firstRun_36, go_V_firstRun_37, go_V_firstRun_38, go_V_firstRun_39, go_V_firstRun_40, go_V_firstRun_41, go_V_firstRun_44, go_V_firstRun_47, go_V_firstRun_48, at_V_firstRun_0, at_V_firstRun_4, tf_V_firstRun_18, s_opt, s_oI, s_oL, s_oA, s_oAN, s_set0, s_set1, s_setn0, s_setn1, s_ok0, s_okn, s_oki, s_okr, s_okN, s_oko, s_oks, s_c1i, s_c1r, s_c1n, s_fi, s_fr, s_fn, s_fl, s_fz, s_rd, s_pt, s_ai, s_lds, s_ldsN, s_al, s_ar, s_cls, s_leni, s_lenz, s_lenr, s_lenN, s_lenl, s_rc0, s_rc1, s_rcv, s_clo, s_clx, s_cln, s_cl1, s_cl2, s_cl3, s_cl4, s_cl5, s_sw1, s_sw2, s_min0, s_min1, s_min2, List.getElem?_cons_zero, List.getElem?_cons_succ, List.take_succ_cons, List.take_zero, List.length_cons, List.length_nil, List.set_cons_zero, List.set_cons_succ, List.cons_append, List.nil_append, Option.toList_some, Option.toList_none, Nat.reduceAdd, Nat.reduceSub, Nat.reduceLeDiff, Nat.reduceLT, Nat.reduceEqDiff, Nat.zero_add, Nat.add_zero, Nat.le_refl, Nat.zero_le, true_and, and_true, true_or, or_true, or_false, false_or, and_self, not_false_eq_true, Nat.one_ne_zero, Nat.zero_ne_one, reduceCtorEq, false_and, and_false, g_ent, lg_sl, List.flatMap_cons, List.flatMap_nil, List.map_cons, List.map_nil, Value.category, ite_true, ite_false, if_true, if_false, if_pos, gEl, Option.isSome_some, s_c12, s_p12, s_c16, s_p16, s_c20, s_p20, s_c30, s_p30, s_c60, s_p60, s_c100, s_p100, s_c500, s_p500, s_c61, s_p61, s_c1952, s_p1952, s_c732, s_p732, s_c1830, s_p1830, s_c2000, s_p2000, not_true_eq_false, true_implies, false_implies, implies_true]
    exact ⟨N, 0, Nat.zero_le _, rfl, rfl, rfl, rfl, rfl, rfl, rfl, rfl⟩
  · rintro k pc lv st σ' c z ⟨i, hi, rfl, rfl, rfl, rfl, rfl, rfl, rfl, hans⟩
    refine ⟨200, ?_⟩
    have hc : (nI i).toNatClampNeg = i := pk_cl i
    simp only [w_iconst, w_istore_2, w_istore_3, w_iload_3, w_aload_0, w_get, w_len, w_icmp_ge, w_bald, w_if_eq, w_goto, w_iload_2, w_iadd, w_iload_1, w_icmp_ne, w_isub, w_iret, w_iinc, go_V_firstRun_0, go_V_firstRun_1, go_V_firstRun_2, go_V_firstRun_3, go_V_firstRun_4, go_V_firstRun_5, go_V_firstRun_6, go_V_firstRun_9, go_V_firstRun_10, go_V_firstRun_13, go_V_firstRun_14, go_V_firstRun_17, go_V_firstRun_18, go_V_firstRun_19, go_V_firstRun_22, go_V_firstRun_23, go_V_firstRun_26, go_V_firstRun_27, go_V_firstRun_28, go_V_firstRun_29, go_V_firstRun_30, go_V_firstRun_31, go_V_firstRun_32, go_V_firstRun_35, go_V_firstRun_36, go_V_firstRun_37, go_V_firstRun_38, go_V_firstRun_39, go_V_firstRun_40, go_V_firstRun_41, go_V_firstRun_44, go_V_firstRun_47, go_V_firstRun_48, at_V_firstRun_0, at_V_firstRun_4, tf_V_firstRun_18, s_opt, s_oI, s_oL, s_oA, s_oAN, s_set0, s_set1, s_setn0, s_setn1, s_ok0, s_okn, s_oki, s_okr, s_okN, s_oko, s_oks, s_c1i, s_c1r, s_c1n, s_fi, s_fr, s_fn, s_fl, s_fz, s_rd, s_pt, s_ai, s_lds, s_ldsN, s_al, s_ar, s_cls, s_leni, s_lenz, s_lenr, s_lenN, s_lenl, s_rc0, s_rc1, s_rcv, s_clo, s_clx, s_cln, s_cl1, s_cl2, s_cl3, s_cl4, s_cl5, s_sw1, s_sw2, s_min0, s_min1, s_min2, List.getElem?_cons_zero, List.getElem?_cons_succ, List.take_succ_cons, List.take_zero, List.length_cons, List.length_nil, List.set_cons_zero, List.set_cons_succ, List.cons_append, List.nil_append, Option.toList_some, Option.toList_none, Nat.reduceAdd, Nat.reduceSub, Nat.reduceLeDiff, Nat.reduceLT, Nat.reduceEqDiff, Nat.zero_add, Nat.add_zero, Nat.le_refl, Nat.zero_le, true_and, and_true, true_or, or_true, or_false, false_or, and_self, not_false_eq_true, Nat.one_ne_zero, Nat.zero_ne_one, reduceCtorEq, false_and, and_false, g_ent, lg_sl, List.flatMap_cons, List.flatMap_nil, List.map_cons, List.map_nil, Value.category, ite_true, ite_false, if_true, if_false, if_pos, gEl, Option.isSome_some, s_c12, s_p12, s_c16, s_p16, s_c20, s_p20, s_c30, s_p30, s_c60, s_p60, s_c100, s_p100, s_c500, s_p500, s_c61, s_p61, s_c1952, s_p1952, s_c732, s_p732, s_c1830, s_p1830, s_c2000, s_p2000, not_true_eq_false, true_implies, false_implies, implies_true, hv, ht, hc]
    have hrl := m_run_le (fun t => !kk t) i
    refine pk_le N i (fun h => ?_) (fun h => ?_)
    · have : i = N := by omega
      subst this
      rw [Nat.sub_self] at hans
      have h0 : m_fr (fun t => !kk t) n i 0 = none := hans.symm
      rw [h0] at hP
      exact hP
    · have hfr : m_fr (fun t => !kk t) n (N - i) i = if m_run (fun t => !kk t) (i + 1) = n then some (i + 1 - n) else m_fr (fun t => !kk t) n (N - (i + 1)) (i + 1) := by
        rw [show N - i = (N - (i + 1)) + 1 by omega]
        rfl
      have go : m_run (fun t => !kk t) (i + 1) ≠ n → ∀ x, x = nI (m_run (fun t => !kk t) (i + 1)) → ∃ k', k' < N - i ∧ iv_V_firstRun σ' v N n (fun t => !kk t) k' 4 [some (.ref v), some (.int (nI n)), some (.int x), some (.int (nI i + 1))] [] σ' 0 0 := by
        intro hne x hx
        rw [if_neg hne] at hfr
        refine ⟨N - (i + 1), by omega, i + 1, by omega, rfl, rfl, by rw [hx, nI_1], rfl, rfl, rfl, rfl, ?_⟩
        rw [← hfr]; exact hans
      have hit : m_run (fun t => !kk t) (i + 1) = n → P (some (.int (nI i - nI n + 1))) σ' := by
        intro he
        rw [if_pos he] at hfr
        rw [← hans, hfr] at hP
        have hle := m_run_le (fun t => !kk t) (i + 1)
        have e1 : nI i - nI n + 1 = nI (i + 1 - n) := by
          rw [← pk_sub (by omega), ← nI_1]
          rw [Int32.sub_eq_add_neg, Int32.sub_eq_add_neg, Int32.add_assoc, Int32.add_assoc, Int32.add_comm (-nI n) 1]
        rw [e1]
        exact hP
      refine ⟨pk_in i N h, pk_b (kk i) (fun hb => ?_) (fun hb => ?_)⟩
      · have hr : m_run (fun t => !kk t) (i + 1) = m_run (fun t => !kk t) i + 1 := by
          show (if (!kk i) = true then _ else _) = _
          rw [hb]; rfl
        refine pk_ne (m_run (fun t => !kk t) i + 1) n (fun q => go (by rw [hr]; exact q) _ (by rw [hr, nI_1])) (fun q => hit (by rw [hr]; exact q)) (by rw [nI_1])
      · have hr : m_run (fun t => !kk t) (i + 1) = 0 := by
          show (if (!kk i) = true then _ else _) = _
          rw [hb]; rfl
        exact pk_ne 0 n (fun q => go (by rw [hr]; exact q) _ (by rw [hr]; rfl)) (fun q => hit (by rw [hr]; exact q))
def sp_V_longestRun : gSpec := fun av σ P => ∃ (v t N : Nat) (k : Nat → Bool), av = [.ref v] ∧ rVol σ v t N k ∧ N ≤ 500 ∧ P (some (.int (nI (m_long (fun t => !k t) N)))) σ
def iv_V_longestRun (σ : gS) (v N : Nat) (g : Nat → Bool) : Nat → gK := fun k pc lv st σ' c z => ∃ i, i ≤ N ∧ k = N - i ∧ pc = 6 ∧ lv = [some (.ref v), some (.int (nI (m_long g i))), some (.int (nI (m_run g i))), some (.int (nI i))] ∧ st = [] ∧ σ' = σ ∧ c = 0 ∧ z = 0
def T_V_longestRun : gT := gTT [(18, 5, 0, 1, 2)] [] [] [] [] [(15, 1)]
theorem tf_V_longestRun_18 : (T_V_longestRun).1 18 = some (5, 0, 1, 2) := rfl
theorem tm_V_longestRun_15 : (T_V_longestRun).2.2.2.2.2 15 = some 1 := rfl
theorem t_V_longestRun (l : Launch) (sc : gX) : g_TOK l sc (gRm 1 0 0) (T_V_longestRun) gEl "DataSets$Volume" gCl gTb gNs gAT gAO := gTT_ok
  (List.forall_mem_cons.mpr ⟨⟨R_V, F_V, 1, t_V 0, rfl, by decide, rfl, by decide +kernel, rfl, by decide, Or.inl ⟨wd53, by decide⟩⟩, fun _ h => absurd h List.not_mem_nil⟩)
  (fun _ h => absurd h List.not_mem_nil)
  (fun _ h => absurd h List.not_mem_nil)
  (fun _ h => absurd h List.not_mem_nil)
  (fun _ h => absurd h List.not_mem_nil)
  (List.forall_mem_cons.mpr ⟨⟨(fun h => by cases h), fun _ => ⟨wd50, wd51, wd26, gTb_in 52 (by decide +kernel) rfl⟩, (fun h => by cases h)⟩, fun _ h => absurd h List.not_mem_nil⟩)
set_option maxHeartbeats 4000000 in
set_option maxRecDepth 100000 in
theorem k_V_longestRun (l : Launch) (sc : gX) : g_Met l sc gCl gTb gNs gAT gAO y_V_longestRun b_V_longestRun 4 (some .int) (gRm 1 0 0) (sp_V_longestRun) 0 0 := by
  refine g_meth (T := (T_V_longestRun)) (el := gEl) (ini := false) (rk := 1) (code := c_V_longestRun) gG_ok (t_V_longestRun l sc) (by decide) (by decide) rfl ⟨rfl, rfl, by decide, by decide⟩ ok_V_longestRun ?_
  intro av σ P hsp
  obtain ⟨v, t, N, kk, rfl, ⟨hv, ht⟩, hN, hP⟩ := hsp
  refine ⟨by simp [lg_sl, Value.category], iv_V_longestRun σ v N (fun t => !kk t), ⟨200, ?_⟩, ?_⟩
  · simp only [w_iconst, w_istore_1, w_istore_2, w_istore_3, w_iload_3, w_aload_0, w_get, w_len, w_icmp_ge, w_bald, w_if_eq, w_goto, w_iload_2, w_iadd, w_iload_1, w_invokestatic, w_iinc, w_iret, go_V_longestRun_0, go_V_longestRun_1, go_V_longestRun_2, go_V_longestRun_3, go_V_longestRun_4, go_V_longestRun_5, go_V_longestRun_6, go_V_longestRun_7, go_V_longestRun_8, go_V_longestRun_11, go_V_longestRun_12, go_V_longestRun_15, go_V_longestRun_16, go_V_longestRun_19, go_V_longestRun_20, go_V_longestRun_21, go_V_longestRun_24, go_V_longestRun_25, go_V_longestRun_28, go_V_longestRun_29, go_V_longestRun_30, go_V_longestRun_31, go_V_longestRun_32, go_V_longestRun_33, go_V_longestRun_34, go_V_longestRun_37, go_V_longestRun_38, go_V_longestRun_41, go_V_longestRun_44, go_V_longestRun_45, at_V_longestRun_0, at_V_longestRun_6, tf_V_longestRun_18, tm_V_longestRun_15, s_opt, s_oI, s_oL, s_oA, s_oAN, s_set0, s_set1, s_setn0, s_setn1, s_ok0, s_okn, s_oki, s_okr, s_okN, s_oko, s_oks, s_c1i, s_c1r, s_c1n, s_fi, s_fr, s_fn, s_fl, s_fz, s_rd, s_pt, s_ai, s_lds, s_ldsN, s_al, s_ar, s_cls, s_leni, s_lenz, s_lenr, s_lenN, s_lenl, s_rc0, s_rc1, s_rcv, s_clo, s_clx, s_cln, s_cl1, s_cl2, s_cl3, s_cl4, s_cl5, s_sw1, s_sw2, s_min0, s_min1, s_min2, List.getElem?_cons_zero, List.getElem?_cons_succ, List.take_succ_cons, List.take_zero, List.length_cons, List.length_nil, List.set_cons_zero, List.set_cons_succ, List.cons_append, List.nil_append, Option.toList_some, Option.toList_none, Nat.reduceAdd, Nat.reduceSub, Nat.reduceLeDiff, Nat.reduceLT, Nat.reduceEqDiff, Nat.zero_add, Nat.add_zero, Nat.le_refl, Nat.zero_le, true_and, and_true, true_or, or_true, or_false, false_or, and_self, not_false_eq_true, Nat.one_ne_zero, Nat.zero_ne_one, reduceCtorEq, false_and, and_false, g_ent, lg_sl, List.flatMap_cons, List.flatMap_nil, List.map_cons, List.map_nil, Value.category, ite_true, ite_false, if_true, if_false, if_pos, gEl, Option.isSome_some, s_c12, s_p12, s_c16, s_p16, s_c20, s_p20, s_c30, s_p30, s_c60, s_p60, s_c100, s_p100, s_c500, s_p500, s_c61, s_p61, s_c1952, s_p1952, s_c732, s_p732, s_c1830, s_p1830, s_c2000, s_p2000, not_true_eq_false, true_implies, false_implies, implies_true]
    exact ⟨N, 0, Nat.zero_le _, rfl, rfl, rfl, rfl, rfl, rfl, rfl⟩
  · rintro k pc lv st σ' c z ⟨i, hi, rfl, rfl, rfl, rfl, rfl, rfl, rfl⟩
    refine ⟨200, ?_⟩
    have hc : (nI i).toNatClampNeg = i := pk_cl i
    simp only [w_iconst, w_istore_1, w_istore_2, w_istore_3, w_iload_3, w_aload_0, w_get, w_len, w_icmp_ge, w_bald, w_if_eq, w_goto, w_iload_2, w_iadd, w_iload_1, w_invokestatic, w_iinc, w_iret, go_V_longestRun_0, go_V_longestRun_1, go_V_longestRun_2, go_V_longestRun_3, go_V_longestRun_4, go_V_longestRun_5, go_V_longestRun_6, go_V_longestRun_7, go_V_longestRun_8, go_V_longestRun_11, go_V_longestRun_12, go_V_longestRun_15, go_V_longestRun_16, go_V_longestRun_19, go_V_longestRun_20, go_V_longestRun_21, go_V_longestRun_24, go_V_longestRun_25, go_V_longestRun_28, go_V_longestRun_29, go_V_longestRun_30, go_V_longestRun_31, go_V_longestRun_32, go_V_longestRun_33, go_V_longestRun_34, go_V_longestRun_37, go_V_longestRun_38, go_V_longestRun_41, go_V_longestRun_44, go_V_longestRun_45, at_V_longestRun_0, at_V_longestRun_6, tf_V_longestRun_18, tm_V_longestRun_15, s_opt, s_oI, s_oL, s_oA, s_oAN, s_set0, s_set1, s_setn0, s_setn1, s_ok0, s_okn, s_oki, s_okr, s_okN, s_oko, s_oks, s_c1i, s_c1r, s_c1n, s_fi, s_fr, s_fn, s_fl, s_fz, s_rd, s_pt, s_ai, s_lds, s_ldsN, s_al, s_ar, s_cls, s_leni, s_lenz, s_lenr, s_lenN, s_lenl, s_rc0, s_rc1, s_rcv, s_clo, s_clx, s_cln, s_cl1, s_cl2, s_cl3, s_cl4, s_cl5, s_sw1, s_sw2, s_min0, s_min1, s_min2, List.getElem?_cons_zero, List.getElem?_cons_succ, List.take_succ_cons, List.take_zero, List.length_cons, List.length_nil, List.set_cons_zero, List.set_cons_succ, List.cons_append, List.nil_append, Option.toList_some, Option.toList_none, Nat.reduceAdd, Nat.reduceSub, Nat.reduceLeDiff, Nat.reduceLT, Nat.reduceEqDiff, Nat.zero_add, Nat.add_zero, Nat.le_refl, Nat.zero_le, true_and, and_true, true_or, or_true, or_false, false_or, and_self, not_false_eq_true, Nat.one_ne_zero, Nat.zero_ne_one, reduceCtorEq, false_and, and_false, g_ent, lg_sl, List.flatMap_cons, List.flatMap_nil, List.map_cons, List.map_nil, Value.category, ite_true, ite_false, if_true, if_false, if_pos, gEl, Option.isSome_some, s_c12, s_p12, s_c16, s_p16, s_c20, s_p20, s_c30, s_p30, s_c60, s_p60, s_c100, s_p100, s_c500, s_p500, s_c61, s_p61, s_c1952, s_p1952, s_c732, s_p732, s_c1830, s_p1830, s_c2000, s_p2000, not_true_eq_false, true_implies, false_implies, implies_true, hv, ht, hc]
    have hrl := m_run_le (fun t => !kk t) i
    have hll := m_long_le (fun t => !kk t) i
    refine pk_le N i (fun h => ?_) (fun h => ?_)
    · have : i = N := by omega
      subst this
      exact hP
    · have go : ∀ x, x = nI (m_run (fun t => !kk t) (i + 1)) → ∃ k', k' < N - i ∧ iv_V_longestRun σ' v N (fun t => !kk t) k' 6 [some (.ref v), some (.int (if nI (m_long (fun t => !kk t) i) < x then x else nI (m_long (fun t => !kk t) i))), some (.int x), some (.int (nI i + 1))] [] σ' 0 0 := by
        intro x hx
        have hrl2 := m_run_le (fun t => !kk t) (i + 1)
        refine ⟨N - (i + 1), by omega, i + 1, by omega, rfl, rfl, ?_, rfl, rfl, rfl, rfl⟩
        have e1 : (if nI (m_long (fun t => !kk t) i) < x then x else nI (m_long (fun t => !kk t) i)) = nI (m_long (fun t => !kk t) (i + 1)) := by
          have e2 : m_long (fun t => !kk t) (i + 1) = max (m_long (fun t => !kk t) i) (m_run (fun t => !kk t) (i + 1)) := rfl
          rw [hx, e2]
          by_cases hlt : m_long (fun t => !kk t) i < m_run (fun t => !kk t) (i + 1)
          · rw [if_pos ((nI_ltI (by omega) (by omega)).mpr hlt), Nat.max_eq_right (by omega)]
          · rw [if_neg (fun q => hlt ((nI_ltI (by omega) (by omega)).mp q)), Nat.max_eq_left (by omega)]
        rw [e1, hx, nI_1]
      refine ⟨pk_in i N h, pk_b (kk i) (fun hb => ?_) (fun hb => ?_)⟩
      · have hr : m_run (fun t => !kk t) (i + 1) = m_run (fun t => !kk t) i + 1 := by
          show (if (!kk i) = true then _ else _) = _
          rw [hb]; rfl
        exact go _ (by rw [hr, nI_1])
      · have hr : m_run (fun t => !kk t) (i + 1) = 0 := by
          show (if (!kk i) = true then _ else _) = _
          rw [hb]; rfl
        exact go _ (by rw [hr]; rfl)
def sp_V_freeTracks : gSpec := fun av σ P => ∃ (v t N : Nat) (k : Nat → Bool), av = [.ref v] ∧ rVol σ v t N k ∧ N ≤ 500 ∧ P (some (.int (nI (m_cnt (fun t => !k t) N)))) σ
def iv_V_freeTracks (σ : gS) (v N : Nat) (g : Nat → Bool) : Nat → gK := fun k pc lv st σ' c z => ∃ i, i ≤ N ∧ k = N - i ∧ pc = 4 ∧ lv = [some (.ref v), some (.int (nI (m_cnt g i))), some (.int (nI i))] ∧ st = [] ∧ σ' = σ ∧ c = 0 ∧ z = 0
def T_V_freeTracks : gT := gTT [(18, 5, 0, 1, 2)] [] [] [] [] []
theorem tf_V_freeTracks_18 : (T_V_freeTracks).1 18 = some (5, 0, 1, 2) := rfl
theorem t_V_freeTracks (l : Launch) (sc : gX) : g_TOK l sc (gRm 1 0 0) (T_V_freeTracks) gEl "DataSets$Volume" gCl gTb gNs gAT gAO := gTT_ok
  (List.forall_mem_cons.mpr ⟨⟨R_V, F_V, 1, t_V 0, rfl, by decide, rfl, by decide +kernel, rfl, by decide, Or.inl ⟨wd53, by decide⟩⟩, fun _ h => absurd h List.not_mem_nil⟩)
  (fun _ h => absurd h List.not_mem_nil)
  (fun _ h => absurd h List.not_mem_nil)
  (fun _ h => absurd h List.not_mem_nil)
  (fun _ h => absurd h List.not_mem_nil)
  (fun _ h => absurd h List.not_mem_nil)
set_option maxHeartbeats 4000000 in
set_option maxRecDepth 100000 in
theorem k_V_freeTracks (l : Launch) (sc : gX) : g_Met l sc gCl gTb gNs gAT gAO y_V_freeTracks b_V_freeTracks 3 (some .int) (gRm 1 0 0) (sp_V_freeTracks) 0 0 := by
  refine g_meth (T := (T_V_freeTracks)) (el := gEl) (ini := false) (rk := 1) (code := c_V_freeTracks) gG_ok (t_V_freeTracks l sc) (by decide) (by decide) rfl ⟨rfl, rfl, by decide, by decide⟩ ok_V_freeTracks ?_
  intro av σ P hsp
  obtain ⟨v, t, N, kk, rfl, ⟨hv, ht⟩, hN, hP⟩ := hsp
  refine ⟨by simp [lg_sl, Value.category], iv_V_freeTracks σ v N (fun t => !kk t), ⟨200, ?_⟩, ?_⟩
  · simp only [w_iconst, w_istore_1, w_istore_2, w_iload_2, w_aload_0, w_get, w_len, w_icmp_ge, w_bald, w_if_ne, w_iinc, w_goto, w_iload_1, w_iret, go_V_freeTracks_0, go_V_freeTracks_1, go_V_freeTracks_2, go_V_freeTracks_3, go_V_freeTracks_4, go_V_freeTracks_5, go_V_freeTracks_6, go_V_freeTracks_9, go_V_freeTracks_10, go_V_freeTracks_13, go_V_freeTracks_14, go_V_freeTracks_17, go_V_freeTracks_18, go_V_freeTracks_19, go_V_freeTracks_22, go_V_freeTracks_25, go_V_freeTracks_28, go_V_freeTracks_31, go_V_freeTracks_32, at_V_freeTracks_0, at_V_freeTracks_4, tf_V_freeTracks_18, s_opt, s_oI, s_oL, s_oA, s_oAN, s_set0, s_set1, s_setn0, s_setn1, s_ok0, s_okn, s_oki, s_okr, s_okN, s_oko, s_oks, s_c1i, s_c1r, s_c1n, s_fi, s_fr, s_fn, s_fl, s_fz, s_rd, s_pt, s_ai, s_lds, s_ldsN, s_al, s_ar, s_cls, s_leni, s_lenz, s_lenr, s_lenN, s_lenl, s_rc0, s_rc1, s_rcv, s_clo, s_clx, s_cln, s_cl1, s_cl2, s_cl3, s_cl4, s_cl5, s_sw1, s_sw2, s_min0, s_min1, s_min2, List.getElem?_cons_zero, List.getElem?_cons_succ, List.take_succ_cons, List.take_zero, List.length_cons, List.length_nil, List.set_cons_zero, List.set_cons_succ, List.cons_append, List.nil_append, Option.toList_some, Option.toList_none, Nat.reduceAdd, Nat.reduceSub, Nat.reduceLeDiff, Nat.reduceLT, Nat.reduceEqDiff, Nat.zero_add, Nat.add_zero, Nat.le_refl, Nat.zero_le, true_and, and_true, true_or, or_true, or_false, false_or, and_self, not_false_eq_true, Nat.one_ne_zero, Nat.zero_ne_one, reduceCtorEq, false_and, and_false, g_ent, lg_sl, List.flatMap_cons, List.flatMap_nil, List.map_cons, List.map_nil, Value.category, ite_true, ite_false, if_true, if_false, if_pos, gEl, Option.isSome_some, s_c12, s_p12, s_c16, s_p16, s_c20, s_p20, s_c30, s_p30, s_c60, s_p60, s_c100, s_p100, s_c500, s_p500, s_c61, s_p61, s_c1952, s_p1952, s_c732, s_p732, s_c1830, s_p1830, s_c2000, s_p2000, not_true_eq_false, true_implies, false_implies, implies_true]
    exact ⟨N, 0, Nat.zero_le _, rfl, rfl, rfl, rfl, rfl, rfl, rfl⟩
  · rintro k pc lv st σ' c z ⟨i, hi, rfl, rfl, rfl, rfl, rfl, rfl, rfl⟩
    refine ⟨200, ?_⟩
    have hc : (nI i).toNatClampNeg = i := pk_cl i
    simp only [w_iconst, w_istore_1, w_istore_2, w_iload_2, w_aload_0, w_get, w_len, w_icmp_ge, w_bald, w_if_ne, w_iinc, w_goto, w_iload_1, w_iret, go_V_freeTracks_0, go_V_freeTracks_1, go_V_freeTracks_2, go_V_freeTracks_3, go_V_freeTracks_4, go_V_freeTracks_5, go_V_freeTracks_6, go_V_freeTracks_9, go_V_freeTracks_10, go_V_freeTracks_13, go_V_freeTracks_14, go_V_freeTracks_17, go_V_freeTracks_18, go_V_freeTracks_19, go_V_freeTracks_22, go_V_freeTracks_25, go_V_freeTracks_28, go_V_freeTracks_31, go_V_freeTracks_32, at_V_freeTracks_0, at_V_freeTracks_4, tf_V_freeTracks_18, s_opt, s_oI, s_oL, s_oA, s_oAN, s_set0, s_set1, s_setn0, s_setn1, s_ok0, s_okn, s_oki, s_okr, s_okN, s_oko, s_oks, s_c1i, s_c1r, s_c1n, s_fi, s_fr, s_fn, s_fl, s_fz, s_rd, s_pt, s_ai, s_lds, s_ldsN, s_al, s_ar, s_cls, s_leni, s_lenz, s_lenr, s_lenN, s_lenl, s_rc0, s_rc1, s_rcv, s_clo, s_clx, s_cln, s_cl1, s_cl2, s_cl3, s_cl4, s_cl5, s_sw1, s_sw2, s_min0, s_min1, s_min2, List.getElem?_cons_zero, List.getElem?_cons_succ, List.take_succ_cons, List.take_zero, List.length_cons, List.length_nil, List.set_cons_zero, List.set_cons_succ, List.cons_append, List.nil_append, Option.toList_some, Option.toList_none, Nat.reduceAdd, Nat.reduceSub, Nat.reduceLeDiff, Nat.reduceLT, Nat.reduceEqDiff, Nat.zero_add, Nat.add_zero, Nat.le_refl, Nat.zero_le, true_and, and_true, true_or, or_true, or_false, false_or, and_self, not_false_eq_true, Nat.one_ne_zero, Nat.zero_ne_one, reduceCtorEq, false_and, and_false, g_ent, lg_sl, List.flatMap_cons, List.flatMap_nil, List.map_cons, List.map_nil, Value.category, ite_true, ite_false, if_true, if_false, if_pos, gEl, Option.isSome_some, s_c12, s_p12, s_c16, s_p16, s_c20, s_p20, s_c30, s_p30, s_c60, s_p60, s_c100, s_p100, s_c500, s_p500, s_c61, s_p61, s_c1952, s_p1952, s_c732, s_p732, s_c1830, s_p1830, s_c2000, s_p2000, not_true_eq_false, true_implies, false_implies, implies_true, hv, ht, hc]
    refine pk_le N i (fun h => ?_) (fun h => ?_)
    · have : i = N := by omega
      subst this
      exact hP
    · have go : ∀ x, x = nI (m_cnt (fun t => !kk t) (i + 1)) → ∃ k', k' < N - i ∧ iv_V_freeTracks σ' v N (fun t => !kk t) k' 4 [some (.ref v), some (.int x), some (.int (nI i + 1))] [] σ' 0 0 := by
        intro x hx
        exact ⟨N - (i + 1), by omega, i + 1, by omega, rfl, rfl, by rw [hx, nI_1], rfl, rfl, rfl, rfl⟩
      refine ⟨pk_in i N h, pk_bn (kk i) (fun hb => ?_) (fun hb => ?_)⟩
      · have hr : m_cnt (fun t => !kk t) (i + 1) = m_cnt (fun t => !kk t) i := by
          show _ + (if (!kk i) = true then _ else _) = _
          rw [hb]; rfl
        exact go _ (by rw [hr])
      · have hr : m_cnt (fun t => !kk t) (i + 1) = m_cnt (fun t => !kk t) i + 1 := by
          show _ + (if (!kk i) = true then _ else _) = _
          rw [hb]; rfl
        exact go _ (by rw [hr, nI_1])
def sp_V_mark : gSpec := fun av σ P => ∃ (v t N a n : Nat) (k : Nat → Bool) (b : Bool), av = [.ref v, .int (nI a), .int (nI n), .int (b2i b)] ∧ rVol σ v t N k ∧ N ≤ 500 ∧ a + n ≤ N ∧ P none (g_up σ t (g_ia 1 N (fun j => b2i (m_fill k a n b j))))
def iv_V_mark (σ : gS) (v t N a n : Nat) (kk : Nat → Bool) (b : Bool) : Nat → gK := fun k pc lv st σ' c z => ∃ i, i ≤ n ∧ k = n - i ∧ pc = 20 ∧ lv = [some (.ref v), some (.int (nI a)), some (.int (nI n)), some (.int (b2i b)), some (.int (nI (a + n))), some (.int (nI (a + i)))] ∧ st = [] ∧ σ' = g_up σ t (g_ia 1 N (fun j => b2i (m_fill kk a i b j))) ∧ c = 0 ∧ z = 0
def T_V_mark : gT := gTT [(18, 5, 0, 1, 2)] [] [] [] [] [(9, 2), (15, 1)]
theorem tf_V_mark_18 : (T_V_mark).1 18 = some (5, 0, 1, 2) := rfl
theorem tm_V_mark_9 : (T_V_mark).2.2.2.2.2 9 = some 2 := rfl
theorem tm_V_mark_15 : (T_V_mark).2.2.2.2.2 15 = some 1 := rfl
theorem t_V_mark (l : Launch) (sc : gX) : g_TOK l sc (gRm 1 0 0) (T_V_mark) gEl "DataSets$Volume" gCl gTb gNs gAT gAO := gTT_ok
  (List.forall_mem_cons.mpr ⟨⟨R_V, F_V, 1, t_V 0, rfl, by decide, rfl, by decide +kernel, rfl, by decide, Or.inl ⟨wd53, by decide⟩⟩, fun _ h => absurd h List.not_mem_nil⟩)
  (fun _ h => absurd h List.not_mem_nil)
  (fun _ h => absurd h List.not_mem_nil)
  (fun _ h => absurd h List.not_mem_nil)
  (fun _ h => absurd h List.not_mem_nil)
  (List.forall_mem_cons.mpr ⟨⟨(fun h => by cases h), (fun h => by cases h), fun _ => ⟨wd47, wd48, wd26, gTb_in 49 (by decide +kernel) rfl⟩⟩, List.forall_mem_cons.mpr ⟨⟨(fun h => by cases h), fun _ => ⟨wd50, wd51, wd26, gTb_in 52 (by decide +kernel) rfl⟩, (fun h => by cases h)⟩, fun _ h => absurd h List.not_mem_nil⟩⟩)
set_option maxHeartbeats 4000000 in
set_option maxRecDepth 100000 in
theorem k_V_mark (l : Launch) (sc : gX) : g_Met l sc gCl gTb gNs gAT gAO y_V_mark b_V_mark 6 none (gRm 1 0 0) (sp_V_mark) 0 0 := by
  refine g_meth (T := (T_V_mark)) (el := gEl) (ini := false) (rk := 0) (code := c_V_mark) gG_ok (t_V_mark l sc) (by decide) (by decide) rfl ⟨rfl, rfl, by decide, by decide⟩ ok_V_mark ?_
  intro av σ P hsp
  obtain ⟨v, t, N, a, n, kk, b, rfl, ⟨hv, ht⟩, hN, han, hP⟩ := hsp
  have hvt := g_ne_oi hv ht
  refine ⟨by simp [lg_sl, Value.category], iv_V_mark σ v t N a n kk b, ⟨200, ?_⟩, ?_⟩
  · simp only [w_iload_1, w_iload_2, w_iadd, w_aload_0, w_get, w_len, w_invokestatic, w_istore, w_iconst, w_iload, w_icmp_ge, w_iload_3, w_bast, w_iinc, w_goto, w_ret, go_V_mark_0, go_V_mark_1, go_V_mark_2, go_V_mark_3, go_V_mark_4, go_V_mark_7, go_V_mark_8, go_V_mark_11, go_V_mark_13, go_V_mark_14, go_V_mark_15, go_V_mark_18, go_V_mark_20, go_V_mark_22, go_V_mark_24, go_V_mark_27, go_V_mark_28, go_V_mark_31, go_V_mark_33, go_V_mark_34, go_V_mark_35, go_V_mark_38, go_V_mark_41, at_V_mark_0, at_V_mark_20, tf_V_mark_18, tm_V_mark_9, tm_V_mark_15, s_opt, s_oI, s_oL, s_oA, s_oAN, s_set0, s_set1, s_setn0, s_setn1, s_ok0, s_okn, s_oki, s_okr, s_okN, s_oko, s_oks, s_c1i, s_c1r, s_c1n, s_fi, s_fr, s_fn, s_fl, s_fz, s_rd, s_pt, s_ai, s_lds, s_ldsN, s_al, s_ar, s_cls, s_leni, s_lenz, s_lenr, s_lenN, s_lenl, s_rc0, s_rc1, s_rcv, s_clo, s_clx, s_cln, s_cl1, s_cl2, s_cl3, s_cl4, s_cl5, s_sw1, s_sw2, s_min0, s_min1, s_min2, List.getElem?_cons_zero, List.getElem?_cons_succ, List.take_succ_cons, List.take_zero, List.length_cons, List.length_nil, List.set_cons_zero, List.set_cons_succ, List.cons_append, List.nil_append, Option.toList_some, Option.toList_none, Nat.reduceAdd, Nat.reduceSub, Nat.reduceLeDiff, Nat.reduceLT, Nat.reduceEqDiff, Nat.zero_add, Nat.add_zero, Nat.le_refl, Nat.zero_le, true_and, and_true, true_or, or_true, or_false, false_or, and_self, not_false_eq_true, Nat.one_ne_zero, Nat.zero_ne_one, reduceCtorEq, false_and, and_false, g_ent, lg_sl, List.flatMap_cons, List.flatMap_nil, List.map_cons, List.map_nil, Value.category, ite_true, ite_false, if_true, if_false, if_pos, gEl, Option.isSome_some, s_c12, s_p12, s_c16, s_p16, s_c20, s_p20, s_c30, s_p30, s_c60, s_p60, s_c100, s_p100, s_c500, s_p500, s_c61, s_p61, s_c1952, s_p1952, s_c732, s_p732, s_c1830, s_p1830, s_c2000, s_p2000, not_true_eq_false, true_implies, false_implies, implies_true, hv, ht]
    have e1 : (if nI N < nI a + nI n then nI N else nI a + nI n) = nI (a + n) := by
      rw [nI_add, if_neg (fun q => by have := (nI_ltI (by omega) (by omega)).mp q; omega)]
    have e2 : (if nI a < 0 then (0 : Int32) else nI a) = nI (a + 0) := by
      rw [if_neg (nI_pos (by omega))]; rfl
    rw [e1, e2]
    exact ⟨n, 0, Nat.zero_le _, rfl, rfl, rfl, rfl, by rw [m_fill_0]; exact (g_up_same ht).symm, rfl, rfl⟩
  · rintro k pc lv st σ' c z ⟨i, hi, rfl, rfl, rfl, rfl, rfl, rfl, rfl⟩
    refine ⟨200, ?_⟩
    have hc : (nI (a + i)).toNatClampNeg = a + i := pk_cl (a + i)
    simp only [w_iload_1, w_iload_2, w_iadd, w_aload_0, w_get, w_len, w_invokestatic, w_istore, w_iconst, w_iload, w_icmp_ge, w_iload_3, w_bast, w_iinc, w_goto, w_ret, go_V_mark_0, go_V_mark_1, go_V_mark_2, go_V_mark_3, go_V_mark_4, go_V_mark_7, go_V_mark_8, go_V_mark_11, go_V_mark_13, go_V_mark_14, go_V_mark_15, go_V_mark_18, go_V_mark_20, go_V_mark_22, go_V_mark_24, go_V_mark_27, go_V_mark_28, go_V_mark_31, go_V_mark_33, go_V_mark_34, go_V_mark_35, go_V_mark_38, go_V_mark_41, at_V_mark_0, at_V_mark_20, tf_V_mark_18, tm_V_mark_9, tm_V_mark_15, s_opt, s_oI, s_oL, s_oA, s_oAN, s_set0, s_set1, s_setn0, s_setn1, s_ok0, s_okn, s_oki, s_okr, s_okN, s_oko, s_oks, s_c1i, s_c1r, s_c1n, s_fi, s_fr, s_fn, s_fl, s_fz, s_rd, s_pt, s_ai, s_lds, s_ldsN, s_al, s_ar, s_cls, s_leni, s_lenz, s_lenr, s_lenN, s_lenl, s_rc0, s_rc1, s_rcv, s_clo, s_clx, s_cln, s_cl1, s_cl2, s_cl3, s_cl4, s_cl5, s_sw1, s_sw2, s_min0, s_min1, s_min2, List.getElem?_cons_zero, List.getElem?_cons_succ, List.take_succ_cons, List.take_zero, List.length_cons, List.length_nil, List.set_cons_zero, List.set_cons_succ, List.cons_append, List.nil_append, Option.toList_some, Option.toList_none, Nat.reduceAdd, Nat.reduceSub, Nat.reduceLeDiff, Nat.reduceLT, Nat.reduceEqDiff, Nat.zero_add, Nat.add_zero, Nat.le_refl, Nat.zero_le, true_and, and_true, true_or, or_true, or_false, false_or, and_self, not_false_eq_true, Nat.one_ne_zero, Nat.zero_ne_one, reduceCtorEq, false_and, and_false, g_ent, lg_sl, List.flatMap_cons, List.flatMap_nil, List.map_cons, List.map_nil, Value.category, ite_true, ite_false, if_true, if_false, if_pos, gEl, Option.isSome_some, s_c12, s_p12, s_c16, s_p16, s_c20, s_p20, s_c30, s_p30, s_c60, s_p60, s_c100, s_p100, s_c500, s_p500, s_c61, s_p61, s_c1952, s_p1952, s_c732, s_p732, s_c1830, s_p1830, s_c2000, s_p2000, not_true_eq_false, true_implies, false_implies, implies_true, hv, ht, hc, g_up_n hvt, g_up_s]
    refine pk_le (a + n) (a + i) (fun h => ?_) (fun h => ?_)
    · have : i = n := by omega
      subst this
      exact hP
    · refine ⟨b2i_01 b, pk_in (a + i) N (by omega), n - (i + 1), by omega, i + 1, by omega, rfl, rfl, by rw [nI_1]; rfl, rfl, ?_, rfl, rfl⟩
      rw [g_up_up, m_updB, ← m_fill_s]
def sp_V_take : gSpec := fun av σ P => ∃ (v t N a n : Nat) (k : Nat → Bool), av = [.ref v, .int (nI a), .int (nI n)] ∧ rVol σ v t N k ∧ N ≤ 500 ∧ a + n ≤ N ∧ P none (g_up σ t (g_ia 1 N (fun j => b2i (m_fill k a n true j))))
def T_V_take : gT := gTT [] [(24, 4, 7, sp_V_mark, 0, 0)] [] [] [] []
theorem tc_V_take_24 : (T_V_take).2.1 24 = some (4, 7, sp_V_mark, 0, 0) := rfl
theorem tm_V_take_24 : (T_V_take).2.2.2.2.2 24 = none := rfl
theorem t_V_take (l : Launch) (sc : gX) : g_TOK l sc (gRm 2 0 0) (T_V_take) gEl "DataSets$Volume" gCl gTb gNs gAT gAO := gTT_ok
  (fun _ h => absurd h List.not_mem_nil)
  (List.forall_mem_cons.mpr ⟨⟨y_V_mark, b_V_mark, 6, _, gRm 1 0 0, k_V_mark l sc, rfl, rfl, by decide, by decide, wd184, wd25, ⟨by decide, by decide⟩, Or.inl wd181, ⟨by decide +kernel, wd183, R_V, F_V, 1, rfl, wd1⟩⟩, fun _ h => absurd h List.not_mem_nil⟩)
  (fun _ h => absurd h List.not_mem_nil)
  (fun _ h => absurd h List.not_mem_nil)
  (fun _ h => absurd h List.not_mem_nil)
  (fun _ h => absurd h List.not_mem_nil)
set_option maxHeartbeats 4000000 in
set_option maxRecDepth 100000 in
theorem k_V_take (l : Launch) (sc : gX) : g_Met l sc gCl gTb gNs gAT gAO y_V_take b_V_take 3 none (gRm 2 0 0) (sp_V_take) 0 0 := by
  refine g_meth (T := (T_V_take)) (el := gEl) (ini := false) (rk := 0) (code := c_V_take) gG_ok (t_V_take l sc) (by decide) (by decide) rfl ⟨rfl, rfl, by decide, by decide⟩ ok_V_take ?_
  intro av σ P hsp
  obtain ⟨v, t, N, a, n, kk, rfl, ⟨hv, ht⟩, hN, han, hP⟩ := hsp
  refine ⟨by simp [lg_sl, Value.category], fun _ _ _ _ _ _ _ => False, ⟨200, ?_⟩, fun _ _ _ _ _ _ _ h => h.elim⟩
  simp only [w_aload_0, w_iload_1, w_iload_2, w_iconst, w_invokevirtual, w_ret, go_V_take_0, go_V_take_1, go_V_take_2, go_V_take_3, go_V_take_4, go_V_take_7, at_V_take_0, tc_V_take_24, tm_V_take_24, s_opt, s_oI, s_oL, s_oA, s_oAN, s_set0, s_set1, s_setn0, s_setn1, s_ok0, s_okn, s_oki, s_okr, s_okN, s_oko, s_oks, s_c1i, s_c1r, s_c1n, s_fi, s_fr, s_fn, s_fl, s_fz, s_rd, s_pt, s_ai, s_lds, s_ldsN, s_al, s_ar, s_cls, s_leni, s_lenz, s_lenr, s_lenN, s_lenl, s_rc0, s_rc1, s_rcv, s_clo, s_clx, s_cln, s_cl1, s_cl2, s_cl3, s_cl4, s_cl5, s_sw1, s_sw2, s_min0, s_min1, s_min2, List.getElem?_cons_zero, List.getElem?_cons_succ, List.take_succ_cons, List.take_zero, List.length_cons, List.length_nil, List.set_cons_zero, List.set_cons_succ, List.cons_append, List.nil_append, Option.toList_some, Option.toList_none, Nat.reduceAdd, Nat.reduceSub, Nat.reduceLeDiff, Nat.reduceLT, Nat.reduceEqDiff, Nat.zero_add, Nat.add_zero, Nat.le_refl, Nat.zero_le, true_and, and_true, true_or, or_true, or_false, false_or, and_self, not_false_eq_true, Nat.one_ne_zero, Nat.zero_ne_one, reduceCtorEq, false_and, and_false, g_ent, lg_sl, List.flatMap_cons, List.flatMap_nil, List.map_cons, List.map_nil, Value.category, ite_true, ite_false, if_true, if_false, if_pos, gEl, Option.isSome_some, s_c12, s_p12, s_c16, s_p16, s_c20, s_p20, s_c30, s_p30, s_c60, s_p60, s_c100, s_p100, s_c500, s_p500, s_c61, s_p61, s_c1952, s_p1952, s_c732, s_p732, s_c1830, s_p1830, s_c2000, s_p2000, not_true_eq_false, true_implies, false_implies, implies_true, hv, ht]
  refine ⟨v, t, N, a, n, kk, true, rfl, ⟨hv, ht⟩, hN, han, ?_⟩
  simp only [w_aload_0, w_iload_1, w_iload_2, w_iconst, w_invokevirtual, w_ret, go_V_take_0, go_V_take_1, go_V_take_2, go_V_take_3, go_V_take_4, go_V_take_7, at_V_take_0, tc_V_take_24, tm_V_take_24, s_opt, s_oI, s_oL, s_oA, s_oAN, s_set0, s_set1, s_setn0, s_setn1, s_ok0, s_okn, s_oki, s_okr, s_okN, s_oko, s_oks, s_c1i, s_c1r, s_c1n, s_fi, s_fr, s_fn, s_fl, s_fz, s_rd, s_pt, s_ai, s_lds, s_ldsN, s_al, s_ar, s_cls, s_leni, s_lenz, s_lenr, s_lenN, s_lenl, s_rc0, s_rc1, s_rcv, s_clo, s_clx, s_cln, s_cl1, s_cl2, s_cl3, s_cl4, s_cl5, s_sw1, s_sw2, s_min0, s_min1, s_min2, List.getElem?_cons_zero, List.getElem?_cons_succ, List.take_succ_cons, List.take_zero, List.length_cons, List.length_nil, List.set_cons_zero, List.set_cons_succ, List.cons_append, List.nil_append, Option.toList_some, Option.toList_none, Nat.reduceAdd, Nat.reduceSub, Nat.reduceLeDiff, Nat.reduceLT, Nat.reduceEqDiff, Nat.zero_add, Nat.add_zero, Nat.le_refl, Nat.zero_le, true_and, and_true, true_or, or_true, or_false, false_or, and_self, not_false_eq_true, Nat.one_ne_zero, Nat.zero_ne_one, reduceCtorEq, false_and, and_false, g_ent, lg_sl, List.flatMap_cons, List.flatMap_nil, List.map_cons, List.map_nil, Value.category, ite_true, ite_false, if_true, if_false, if_pos, gEl, Option.isSome_some, s_c12, s_p12, s_c16, s_p16, s_c20, s_p20, s_c30, s_p30, s_c60, s_p60, s_c100, s_p100, s_c500, s_p500, s_c61, s_p61, s_c1952, s_p1952, s_c732, s_p732, s_c1830, s_p1830, s_c2000, s_p2000, not_true_eq_false, true_implies, false_implies, implies_true]
  exact hP
def sp_V_giveBack : gSpec := fun av σ P => ∃ (v t N a n : Nat) (k : Nat → Bool), av = [.ref v, .int (nI a), .int (nI n)] ∧ rVol σ v t N k ∧ N ≤ 500 ∧ a + n ≤ N ∧ P none (g_up σ t (g_ia 1 N (fun j => b2i (m_fill k a n false j))))
def T_V_giveBack : gT := gTT [] [(24, 4, 7, sp_V_mark, 0, 0)] [] [] [] []
theorem tc_V_giveBack_24 : (T_V_giveBack).2.1 24 = some (4, 7, sp_V_mark, 0, 0) := rfl
theorem tm_V_giveBack_24 : (T_V_giveBack).2.2.2.2.2 24 = none := rfl
theorem t_V_giveBack (l : Launch) (sc : gX) : g_TOK l sc (gRm 2 0 0) (T_V_giveBack) gEl "DataSets$Volume" gCl gTb gNs gAT gAO := gTT_ok
  (fun _ h => absurd h List.not_mem_nil)
  (List.forall_mem_cons.mpr ⟨⟨y_V_mark, b_V_mark, 6, _, gRm 1 0 0, k_V_mark l sc, rfl, rfl, by decide, by decide, wd184, wd25, ⟨by decide, by decide⟩, Or.inl wd181, ⟨by decide +kernel, wd183, R_V, F_V, 1, rfl, wd1⟩⟩, fun _ h => absurd h List.not_mem_nil⟩)
  (fun _ h => absurd h List.not_mem_nil)
  (fun _ h => absurd h List.not_mem_nil)
  (fun _ h => absurd h List.not_mem_nil)
  (fun _ h => absurd h List.not_mem_nil)
set_option maxHeartbeats 4000000 in
set_option maxRecDepth 100000 in
theorem k_V_giveBack (l : Launch) (sc : gX) : g_Met l sc gCl gTb gNs gAT gAO y_V_giveBack b_V_giveBack 3 none (gRm 2 0 0) (sp_V_giveBack) 0 0 := by
  refine g_meth (T := (T_V_giveBack)) (el := gEl) (ini := false) (rk := 0) (code := c_V_giveBack) gG_ok (t_V_giveBack l sc) (by decide) (by decide) rfl ⟨rfl, rfl, by decide, by decide⟩ ok_V_giveBack ?_
  intro av σ P hsp
  obtain ⟨v, t, N, a, n, kk, rfl, ⟨hv, ht⟩, hN, han, hP⟩ := hsp
  refine ⟨by simp [lg_sl, Value.category], fun _ _ _ _ _ _ _ => False, ⟨200, ?_⟩, fun _ _ _ _ _ _ _ h => h.elim⟩
  simp only [w_aload_0, w_iload_1, w_iload_2, w_iconst, w_invokevirtual, w_ret, go_V_giveBack_0, go_V_giveBack_1, go_V_giveBack_2, go_V_giveBack_3, go_V_giveBack_4, go_V_giveBack_7, at_V_giveBack_0, tc_V_giveBack_24, tm_V_giveBack_24, s_opt, s_oI, s_oL, s_oA, s_oAN, s_set0, s_set1, s_setn0, s_setn1, s_ok0, s_okn, s_oki, s_okr, s_okN, s_oko, s_oks, s_c1i, s_c1r, s_c1n, s_fi, s_fr, s_fn, s_fl, s_fz, s_rd, s_pt, s_ai, s_lds, s_ldsN, s_al, s_ar, s_cls, s_leni, s_lenz, s_lenr, s_lenN, s_lenl, s_rc0, s_rc1, s_rcv, s_clo, s_clx, s_cln, s_cl1, s_cl2, s_cl3, s_cl4, s_cl5, s_sw1, s_sw2, s_min0, s_min1, s_min2, List.getElem?_cons_zero, List.getElem?_cons_succ, List.take_succ_cons, List.take_zero, List.length_cons, List.length_nil, List.set_cons_zero, List.set_cons_succ, List.cons_append, List.nil_append, Option.toList_some, Option.toList_none, Nat.reduceAdd, Nat.reduceSub, Nat.reduceLeDiff, Nat.reduceLT, Nat.reduceEqDiff, Nat.zero_add, Nat.add_zero, Nat.le_refl, Nat.zero_le, true_and, and_true, true_or, or_true, or_false, false_or, and_self, not_false_eq_true, Nat.one_ne_zero, Nat.zero_ne_one, reduceCtorEq, false_and, and_false, g_ent, lg_sl, List.flatMap_cons, List.flatMap_nil, List.map_cons, List.map_nil, Value.category, ite_true, ite_false, if_true, if_false, if_pos, gEl, Option.isSome_some, s_c12, s_p12, s_c16, s_p16, s_c20, s_p20, s_c30, s_p30, s_c60, s_p60, s_c100, s_p100, s_c500, s_p500, s_c61, s_p61, s_c1952, s_p1952, s_c732, s_p732, s_c1830, s_p1830, s_c2000, s_p2000, not_true_eq_false, true_implies, false_implies, implies_true, hv, ht]
  refine ⟨v, t, N, a, n, kk, false, rfl, ⟨hv, ht⟩, hN, han, ?_⟩
  simp only [w_aload_0, w_iload_1, w_iload_2, w_iconst, w_invokevirtual, w_ret, go_V_giveBack_0, go_V_giveBack_1, go_V_giveBack_2, go_V_giveBack_3, go_V_giveBack_4, go_V_giveBack_7, at_V_giveBack_0, tc_V_giveBack_24, tm_V_giveBack_24, s_opt, s_oI, s_oL, s_oA, s_oAN, s_set0, s_set1, s_setn0, s_setn1, s_ok0, s_okn, s_oki, s_okr, s_okN, s_oko, s_oks, s_c1i, s_c1r, s_c1n, s_fi, s_fr, s_fn, s_fl, s_fz, s_rd, s_pt, s_ai, s_lds, s_ldsN, s_al, s_ar, s_cls, s_leni, s_lenz, s_lenr, s_lenN, s_lenl, s_rc0, s_rc1, s_rcv, s_clo, s_clx, s_cln, s_cl1, s_cl2, s_cl3, s_cl4, s_cl5, s_sw1, s_sw2, s_min0, s_min1, s_min2, List.getElem?_cons_zero, List.getElem?_cons_succ, List.take_succ_cons, List.take_zero, List.length_cons, List.length_nil, List.set_cons_zero, List.set_cons_succ, List.cons_append, List.nil_append, Option.toList_some, Option.toList_none, Nat.reduceAdd, Nat.reduceSub, Nat.reduceLeDiff, Nat.reduceLT, Nat.reduceEqDiff, Nat.zero_add, Nat.add_zero, Nat.le_refl, Nat.zero_le, true_and, and_true, true_or, or_true, or_false, false_or, and_self, not_false_eq_true, Nat.one_ne_zero, Nat.zero_ne_one, reduceCtorEq, false_and, and_false, g_ent, lg_sl, List.flatMap_cons, List.flatMap_nil, List.map_cons, List.map_nil, Value.category, ite_true, ite_false, if_true, if_false, if_pos, gEl, Option.isSome_some, s_c12, s_p12, s_c16, s_p16, s_c20, s_p20, s_c30, s_p30, s_c60, s_p60, s_c100, s_p100, s_c500, s_p500, s_c61, s_p61, s_c1952, s_p1952, s_c732, s_p732, s_c1830, s_p1830, s_c2000, s_p2000, not_true_eq_false, true_implies, false_implies, implies_true]
  exact hP
