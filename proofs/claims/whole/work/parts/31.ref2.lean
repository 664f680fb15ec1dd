def sO (R : mR) (f : Nat → Nat) : mR := ((rN R, f, rS R, rG R, rNm R, rFu R, rGv R, rMy R, rEx R, rGd R), R.2)
def sS (R : mR) (n : Nat) : mR := ((rN R, rO R, n, rG R, rNm R, rFu R, rGv R, rMy R, rEx R, rGd R), R.2)
def sG (R : mR) (f : Nat → Bool) : mR := ((rN R, rO R, rS R, f, rNm R, rFu R, rGv R, rMy R, rEx R, rGd R), R.2)
def sNm (R : mR) (f : Nat → Nat) : mR := ((rN R, rO R, rS R, rG R, f, rFu R, rGv R, rMy R, rEx R, rGd R), R.2)
def sFu (R : mR) (f : Nat → Nat) : mR := ((rN R, rO R, rS R, rG R, rNm R, f, rGv R, rMy R, rEx R, rGd R), R.2)
def sGv (R : mR) (f : Nat → Nat) : mR := ((rN R, rO R, rS R, rG R, rNm R, rFu R, f, rMy R, rEx R, rGd R), R.2)
def sMy (R : mR) (f : Nat → Nat) : mR := ((rN R, rO R, rS R, rG R, rNm R, rFu R, rGv R, f, rEx R, rGd R), R.2)
def sEx (R : mR) (f : Nat → Nat) : mR := ((rN R, rO R, rS R, rG R, rNm R, rFu R, rGv R, rMy R, f, rGd R), R.2)
def sGd (R : mR) (f : Nat → Int64) : mR := ((rN R, rO R, rS R, rG R, rNm R, rFu R, rGv R, rMy R, rEx R, f), R.2)
def sMem (R : mR) (mn : Nat → Option Nat) (mf ms : Nat → Nat) : mR := (R.1, (mn, mf, ms), R.2.2)
def sAt (R : mR) (v : Nat → Int32) (t : Nat → Bool) : mR := (R.1, R.2.1, (v, t), R.2.2.2)
def sAsk (R : mR) (an aj : Nat → Nat) (aa aw : Nat → Bool) (k : Nat) : mR := (R.1, R.2.1, R.2.2.1, (an, aj, aa, aw, k))
def takeR (R : mR) (s a n : Nat) : mR := sMy (sEx (sO R (m_fill (rO R) a n s)) (va_up (va_up (rEx R) (32 * s + 2 * rMy R s) a) (32 * s + 2 * rMy R s + 1) n)) (va_up (rMy R) s (rMy R s + 1))
def sp_M_take : gSpec := fun av σ P => ∃ (m : Nat) (A : Nat → Nat) (cd : Int32) (R : mR) (s a n : Nat), av = [.ref m, .int (nI s), .int (nI a), .int (nI n)] ∧ rR σ m A cd R ∧ s ≤ 60 ∧ rMy R s < 16 ∧ a + n ≤ 500 ∧ ∀ σ', rR σ' m A cd (takeR R s a n) → P none σ'
def iv_M_take (σ : gS) (m : Nat) (A : Nat → Nat) (R : mR) (s a n : Nat) : Nat → gK := fun k pc lv st σ' c z => ∃ i, i ≤ n ∧ k = n - i ∧ pc = 3 ∧ lv = [some (.ref m), some (.int (nI s)), some (.int (nI a)), some (.int (nI n)), some (.int (nI (a + i)))] ∧ st = [] ∧ σ' = g_up σ (A 0) (g_ia 0 500 (fun j => nI (m_fill (rO R) a i s j))) ∧ c = 0 ∧ z = 0
def T_M_take : gT := gTT [(7, 7, 2, 1, 2), (26, 7, 8, 1, 2), (29, 7, 9, 1, 2)] [] [] [] [] []
theorem tf_M_take_7 : (T_M_take).1 7 = some (7, 2, 1, 2) := rfl
theorem tf_M_take_26 : (T_M_take).1 26 = some (7, 8, 1, 2) := rfl
theorem tf_M_take_29 : (T_M_take).1 29 = some (7, 9, 1, 2) := rfl
theorem t_M_take (l : Launch) (sc : gX) : g_TOK l sc (gRm 1 0 0) (T_M_take) gEl "DataSetsModel" gCl gTb gNs gAT gAO := gTT_ok
  (List.forall_mem_cons.mpr ⟨⟨R_M, F_M, 21, t_M 2, rfl, by decide, rfl, by decide +kernel, rfl, by decide, Or.inl ⟨wd394, by decide⟩⟩, List.forall_mem_cons.mpr ⟨⟨R_M, F_M, 21, t_M 8, rfl, by decide, rfl, by decide +kernel, rfl, by decide, Or.inl ⟨wd400, by decide⟩⟩, List.forall_mem_cons.mpr ⟨⟨R_M, F_M, 21, t_M 9, rfl, by decide, rfl, by decide +kernel, rfl, by decide, Or.inl ⟨wd401, by decide⟩⟩, fun _ h => absurd h List.not_mem_nil⟩⟩⟩)
  (fun _ h => absurd h List.not_mem_nil)
  (fun _ h => absurd h List.not_mem_nil)
  (fun _ h => absurd h List.not_mem_nil)
  (fun _ h => absurd h List.not_mem_nil)
  (fun _ h => absurd h List.not_mem_nil)
set_option maxHeartbeats 4000000 in
set_option maxRecDepth 100000 in
theorem k_M_take (l : Launch) (sc : gX) : g_Met l sc gCl gTb gNs gAT gAO y_M_take b_M_take 5 none (gRm 1 0 0) (sp_M_take) 0 0 := by
  refine g_meth (T := (T_M_take)) (el := gEl) (ini := false) (rk := 0) (code := c_M_take) gG_ok (t_M_take l sc) (by decide) (by decide) rfl ⟨rfl, rfl, by decide, by decide⟩ ok_M_take ?_
  intro av σ P hsp
  obtain ⟨m, A, cd, R, s, a, n, rfl, hR, hs, hmy, han, hP⟩ := hsp
  obtain ⟨hm, h0, h1, h2, h3, h4, h5, h6, h7, h8, h9, h10, h11, h12, h13, h14, h15, h16, hA⟩ := id hR
  have gA := gA_of hA
  have gM := gM_of hA
  have gN := gN_of hA
  refine ⟨by simp [lg_sl, Value.category], iv_M_take σ m A R s a n, ⟨200, ?_⟩, ?_⟩
  · simp only [w_iload_2, w_istore, w_iload, w_iload_3, w_iadd, w_icmp_ge, w_aload_0, w_get, w_iload_1, w_iast, w_iinc, w_goto, w_bipush, w_imul, w_iconst, w_iald, w_dup2, w_ret, go_M_take_0, go_M_take_1, go_M_take_3, go_M_take_5, go_M_take_6, go_M_take_7, go_M_take_8, go_M_take_11, go_M_take_12, go_M_take_15, go_M_take_17, go_M_take_18, go_M_take_19, go_M_take_22, go_M_take_25, go_M_take_26, go_M_take_29, go_M_take_31, go_M_take_32, go_M_take_33, go_M_take_34, go_M_take_35, go_M_take_38, go_M_take_39, go_M_take_40, go_M_take_41, go_M_take_42, go_M_take_43, go_M_take_44, go_M_take_45, go_M_take_48, go_M_take_50, go_M_take_51, go_M_take_52, go_M_take_53, go_M_take_54, go_M_take_57, go_M_take_58, go_M_take_59, go_M_take_60, go_M_take_61, go_M_take_62, go_M_take_63, go_M_take_64, go_M_take_65, go_M_take_66, go_M_take_69, go_M_take_70, go_M_take_71, go_M_take_72, go_M_take_73, go_M_take_74, go_M_take_75, at_M_take_0, at_M_take_3, tf_M_take_7, tf_M_take_26, tf_M_take_29, s_opt, s_oI, s_oL, s_oA, s_oAN, s_set0, s_set1, s_setn0, s_setn1, s_ok0, s_okn, s_oki, s_okr, s_okN, s_oko, s_oks, s_c1i, s_c1r, s_c1n, s_fi, s_fr, s_fn, s_fl, s_fz, s_rd, s_pt, s_ai, s_lds, s_ldsN, s_al, s_ar, s_cls, s_leni, s_lenz, s_lenr, s_lenN, s_lenl, s_rc0, s_rc1, s_rcv, s_clo, s_clx, s_cln, s_cl1, s_cl2, s_cl3, s_cl4, s_cl5, s_sw1, s_sw2, s_min0, s_min1, s_min2, List.getElem?_cons_zero, List.getElem?_cons_succ, List.take_succ_cons, List.take_zero, List.length_cons, List.length_nil, List.set_cons_zero, List.set_cons_succ, List.cons_append, List.nil_append, Option.toList_some, Option.toList_none, Nat.reduceAdd, Nat.reduceSub, Nat.reduceLeDiff, Nat.reduceLT, Nat.reduceEqDiff, Nat.zero_add, Nat.add_zero, Nat.le_refl, Nat.zero_le, true_and, and_true, true_or, or_true, or_false, false_or, and_self, not_false_eq_true, Nat.one_ne_zero, Nat.zero_ne_one, reduceCtorEq, false_and, and_false, g_ent, lg_sl, List.flatMap_cons, List.flatMap_nil, List.map_cons, List.map_nil, Value.category, ite_true, ite_false, if_true, if_false, if_pos, gEl, Option.isSome_some, s_c12, s_p12, s_c16, s_p16, s_c20, s_p20, s_c30, s_p30, s_c60, s_p60, s_c100, s_p100, s_c500, s_p500, s_c61, s_p61, s_c1952, s_p1952, s_c732, s_p732, s_c1830, s_p1830, s_c2000, s_p2000, not_true_eq_false, true_implies, false_implies, implies_true]
    exact ⟨n, 0, Nat.zero_le _, rfl, rfl, rfl, rfl, by rw [m_fill_0]; exact (g_up_same h0).symm, rfl, rfl⟩
  · rintro k pc lv st σ' c z ⟨i, hi, rfl, rfl, rfl, rfl, rfl, rfl, rfl⟩
    refine ⟨200, ?_⟩
    have hcl : (nI (a + i)).toNatClampNeg = a + i := pk_cl (a + i)
    have hcs : (nI s).toNatClampNeg = s := pk_cl s
    have e32 : (32 : Int32) = nI 32 := rfl
    have e2 : (2 : Int32) = nI 2 := rfl
    have hc1 : (nI (32 * s + 2 * rMy R s)).toNatClampNeg = 32 * s + 2 * rMy R s := pk_cl _
    have hc2 : (nI (32 * s + 2 * rMy R s + 1)).toNatClampNeg = 32 * s + 2 * rMy R s + 1 := pk_cl _
    simp only [w_iload_2, w_istore, w_iload, w_iload_3, w_iadd, w_icmp_ge, w_aload_0, w_get, w_iload_1, w_iast, w_iinc, w_goto, w_bipush, w_imul, w_iconst, w_iald, w_dup2, w_ret, go_M_take_0, go_M_take_1, go_M_take_3, go_M_take_5, go_M_take_6, go_M_take_7, go_M_take_8, go_M_take_11, go_M_take_12, go_M_take_15, go_M_take_17, go_M_take_18, go_M_take_19, go_M_take_22, go_M_take_25, go_M_take_26, go_M_take_29, go_M_take_31, go_M_take_32, go_M_take_33, go_M_take_34, go_M_take_35, go_M_take_38, go_M_take_39, go_M_take_40, go_M_take_41, go_M_take_42, go_M_take_43, go_M_take_44, go_M_take_45, go_M_take_48, go_M_take_50, go_M_take_51, go_M_take_52, go_M_take_53, go_M_take_54, go_M_take_57, go_M_take_58, go_M_take_59, go_M_take_60, go_M_take_61, go_M_take_62, go_M_take_63, go_M_take_64, go_M_take_65, go_M_take_66, go_M_take_69, go_M_take_70, go_M_take_71, go_M_take_72, go_M_take_73, go_M_take_74, go_M_take_75, at_M_take_0, at_M_take_3, tf_M_take_7, tf_M_take_26, tf_M_take_29, s_opt, s_oI, s_oL, s_oA, s_oAN, s_set0, s_set1, s_setn0, s_setn1, s_ok0, s_okn, s_oki, s_okr, s_okN, s_oko, s_oks, s_c1i, s_c1r, s_c1n, s_fi, s_fr, s_fn, s_fl, s_fz, s_rd, s_pt, s_ai, s_lds, s_ldsN, s_al, s_ar, s_cls, s_leni, s_lenz, s_lenr, s_lenN, s_lenl, s_rc0, s_rc1, s_rcv, s_clo, s_clx, s_cln, s_cl1, s_cl2, s_cl3, s_cl4, s_cl5, s_sw1, s_sw2, s_min0, s_min1, s_min2, List.getElem?_cons_zero, List.getElem?_cons_succ, List.take_succ_cons, List.take_zero, List.length_cons, List.length_nil, List.set_cons_zero, List.set_cons_succ, List.cons_append, List.nil_append, Option.toList_some, Option.toList_none, Nat.reduceAdd, Nat.reduceSub, Nat.reduceLeDiff, Nat.reduceLT, Nat.reduceEqDiff, Nat.zero_add, Nat.add_zero, Nat.le_refl, Nat.zero_le, true_and, and_true, true_or, or_true, or_false, false_or, and_self, not_false_eq_true, Nat.one_ne_zero, Nat.zero_ne_one, reduceCtorEq, false_and, and_false, g_ent, lg_sl, List.flatMap_cons, List.flatMap_nil, List.map_cons, List.map_nil, Value.category, ite_true, ite_false, if_true, if_false, if_pos, gEl, Option.isSome_some, s_c12, s_p12, s_c16, s_p16, s_c20, s_p20, s_c30, s_p30, s_c60, s_p60, s_c100, s_p100, s_c500, s_p500, s_c61, s_p61, s_c1952, s_p1952, s_c732, s_p732, s_c1830, s_p1830, s_c2000, s_p2000, not_true_eq_false, true_implies, false_implies, implies_true, hm, h0, h1, h2, h3, h4, h5, h6, h7, h8, h9, h10, h11, h12, h13, h14, h15, h16, gA, gM, gN, g_up_s, ne_eq, Nat.reduceEqDiff, hcl, hcs, e32, e2, pk_mul, nI_add, nI_1, hc1, hc2]
    refine pk_le (a + n) (a + i) (fun h => ?_) (fun h => ?_)
    · have : i = n := by omega
      subst this
      refine ⟨pk_in s 61 (by omega), pk_in (32 * s + 2 * rMy R s) 1952 (by omega), pk_in s 61 (by omega), pk_in (32 * s + 2 * rMy R s + 1) 1952 (by omega), pk_in s 61 (by omega), pk_in s 61 (by omega), hP _ ?_⟩
      (refine ⟨?_, ?_, ?_, ?_, ?_, ?_, ?_, ?_, ?_, ?_, ?_, ?_, ?_, ?_, ?_, ?_, ?_, ?_, hA⟩ <;> simp only [hm, h0, h1, h2, h3, h4, h5, h6, h7, h8, h9, h10, h11, h12, h13, h14, h15, h16, gA, gM, gN, g_up_s, g_up_up, ne_eq, Nat.reduceEqDiff, Nat.reduceLT, not_false_eq_true, Nat.reduceLeDiff, Nat.one_ne_zero, Nat.zero_ne_one, m_updN, m_updB, m_updB1, m_updB0, reduceCtorEq, rN, rO, rS, rG, rNm, rFu, rGv, rMy, rEx, rGd, rMn, rMf, rMz, rAv, rTl, rAn, rAj, rAa, rAw, rK, takeR, sMy, sEx, sO])
    · refine ⟨pk_in (a + i) 500 (by omega), n - (i + 1), by omega, i + 1, by omega, rfl, rfl, rfl, rfl, ?_, rfl, rfl⟩
      rw [g_up_up, m_updN, ← m_fill_s]
/-- lengths of a set's extents -/
def r_len (R : mR) (s : Nat) : Nat → Nat := fun i => rEx R (32 * s + 2 * i + 1)
def r_fst (R : mR) (s : Nat) : Nat → Nat := fun i => rEx R (32 * s + 2 * i)
def bR (R : mR) (s : Nat) : Prop := rMy R s ≤ 16 ∧ ∀ i, i < rMy R s → r_fst R s i ≤ 500 ∧ r_len R s i ≤ 500
def sp_M_tracksOf : gSpec := fun av σ P => ∃ (m : Nat) (A : Nat → Nat) (cd : Int32) (R : mR) (s : Nat), av = [.ref m, .int (nI s)] ∧ rR σ m A cd R ∧ s ≤ 60 ∧ bR R s ∧ P (some (.int (nI (m_sum (r_len R s) (rMy R s))))) σ
def iv_M_tracksOf (σ : gS) (m s : Nat) (R : mR) : Nat → gK := fun k pc lv st σ' c z => ∃ i, i ≤ rMy R s ∧ k = rMy R s - i ∧ pc = 4 ∧ lv = [some (.ref m), some (.int (nI s)), some (.int (nI (m_sum (r_len R s) i))), some (.int (nI i))] ∧ st = [] ∧ σ' = σ ∧ c = 0 ∧ z = 0
def T_M_tracksOf : gT := gTT [(26, 7, 8, 1, 2), (29, 7, 9, 1, 2)] [] [] [] [] []
theorem tf_M_tracksOf_26 : (T_M_tracksOf).1 26 = some (7, 8, 1, 2) := rfl
theorem tf_M_tracksOf_29 : (T_M_tracksOf).1 29 = some (7, 9, 1, 2) := rfl
theorem t_M_tracksOf (l : Launch) (sc : gX) : g_TOK l sc (gRm 1 0 0) (T_M_tracksOf) gEl "DataSetsModel" gCl gTb gNs gAT gAO := gTT_ok
  (List.forall_mem_cons.mpr ⟨⟨R_M, F_M, 21, t_M 8, rfl, by decide, rfl, by decide +kernel, rfl, by decide, Or.inl ⟨wd400, by decide⟩⟩, List.forall_mem_cons.mpr ⟨⟨R_M, F_M, 21, t_M 9, rfl, by decide, rfl, by decide +kernel, rfl, by decide, Or.inl ⟨wd401, by decide⟩⟩, fun _ h => absurd h List.not_mem_nil⟩⟩)
  (fun _ h => absurd h List.not_mem_nil)
  (fun _ h => absurd h List.not_mem_nil)
  (fun _ h => absurd h List.not_mem_nil)
  (fun _ h => absurd h List.not_mem_nil)
  (fun _ h => absurd h List.not_mem_nil)
set_option maxHeartbeats 4000000 in
set_option maxRecDepth 100000 in
theorem k_M_tracksOf (l : Launch) (sc : gX) : g_Met l sc gCl gTb gNs gAT gAO y_M_tracksOf b_M_tracksOf 4 (some .int) (gRm 1 0 0) (sp_M_tracksOf) 0 0 := by
  refine g_meth (T := (T_M_tracksOf)) (el := gEl) (ini := false) (rk := 1) (code := c_M_tracksOf) gG_ok (t_M_tracksOf l sc) (by decide) (by decide) rfl ⟨rfl, rfl, by decide, by decide⟩ ok_M_tracksOf ?_
  intro av σ P hsp
  obtain ⟨m, A, cd, R, s, rfl, hR, hs, ⟨hmy, hb⟩, hP⟩ := hsp
  obtain ⟨hm, h0, h1, h2, h3, h4, h5, h6, h7, h8, h9, h10, h11, h12, h13, h14, h15, h16, hA⟩ := id hR
  have gA := gA_of hA
  have gM := gM_of hA
  have gN := gN_of hA
  refine ⟨by simp [lg_sl, Value.category], iv_M_tracksOf σ m s R, ⟨200, ?_⟩, ?_⟩
  · simp only [w_iconst, w_istore_2, w_istore_3, w_iload_3, w_aload_0, w_get, w_iload_1, w_iald, w_icmp_ge, w_iload_2, w_bipush, w_imul, w_iadd, w_iinc, w_goto, w_iret, go_M_tracksOf_0, go_M_tracksOf_1, go_M_tracksOf_2, go_M_tracksOf_3, go_M_tracksOf_4, go_M_tracksOf_5, go_M_tracksOf_6, go_M_tracksOf_9, go_M_tracksOf_10, go_M_tracksOf_11, go_M_tracksOf_14, go_M_tracksOf_15, go_M_tracksOf_16, go_M_tracksOf_19, go_M_tracksOf_21, go_M_tracksOf_22, go_M_tracksOf_23, go_M_tracksOf_24, go_M_tracksOf_25, go_M_tracksOf_26, go_M_tracksOf_27, go_M_tracksOf_28, go_M_tracksOf_29, go_M_tracksOf_30, go_M_tracksOf_31, go_M_tracksOf_32, go_M_tracksOf_35, go_M_tracksOf_38, go_M_tracksOf_39, at_M_tracksOf_0, at_M_tracksOf_4, tf_M_tracksOf_26, tf_M_tracksOf_29, s_opt, s_oI, s_oL, s_oA, s_oAN, s_set0, s_set1, s_setn0, s_setn1, s_ok0, s_okn, s_oki, s_okr, s_okN, s_oko, s_oks, s_c1i, s_c1r, s_c1n, s_fi, s_fr, s_fn, s_fl, s_fz, s_rd, s_pt, s_ai, s_lds, s_ldsN, s_al, s_ar, s_cls, s_leni, s_lenz, s_lenr, s_lenN, s_lenl, s_rc0, s_rc1, s_rcv, s_clo, s_clx, s_cln, s_cl1, s_cl2, s_cl3, s_cl4, s_cl5, s_sw1, s_sw2, s_min0, s_min1, s_min2, List.getElem?_cons_zero, List.getElem?_cons_succ, List.take_succ_cons, List.take_zero, List.length_cons, List.length_nil, List.set_cons_zero, List.set_cons_succ, List.cons_append, List.nil_append, Option.toList_some, Option.toList_none, Nat.reduceAdd, Nat.reduceSub, Nat.reduceLeDiff, Nat.reduceLT, Nat.reduceEqDiff, Nat.zero_add, Nat.add_zero, Nat.le_refl, Nat.zero_le, true_and, and_true, true_or, or_true, or_false, false_or, and_self, not_false_eq_true, Nat.one_ne_zero, Nat.zero_ne_one, reduceCtorEq, false_and, and_false, g_ent, lg_sl, List.flatMap_cons, List.flatMap_nil, List.map_cons, List.map_nil, Value.category, ite_true, ite_false, if_true, if_false, if_pos, gEl, Option.isSome_some, s_c12, s_p12, s_c16, s_p16, s_c20, s_p20, s_c30, s_p30, s_c60, s_p60, s_c100, s_p100, s_c500, s_p500, s_c61, s_p61, s_c1952, s_p1952, s_c732, s_p732, s_c1830, s_p1830, s_c2000, s_p2000, not_true_eq_false, true_implies, false_implies, implies_true]
    exact ⟨rMy R s, 0, Nat.zero_le _, rfl, rfl, rfl, rfl, rfl, rfl, rfl⟩
  · rintro k pc lv st σ' c z ⟨i, hi, rfl, rfl, rfl, rfl, rfl, rfl, rfl⟩
    refine ⟨200, ?_⟩
    have hcs : (nI s).toNatClampNeg = s := pk_cl s
    have e32 : (32 : Int32) = nI 32 := rfl
    have e2 : (2 : Int32) = nI 2 := rfl
    have hc2 : (nI (32 * s + 2 * i + 1)).toNatClampNeg = 32 * s + 2 * i + 1 := pk_cl _
    simp only [w_iconst, w_istore_2, w_istore_3, w_iload_3, w_aload_0, w_get, w_iload_1, w_iald, w_icmp_ge, w_iload_2, w_bipush, w_imul, w_iadd, w_iinc, w_goto, w_iret, go_M_tracksOf_0, go_M_tracksOf_1, go_M_tracksOf_2, go_M_tracksOf_3, go_M_tracksOf_4, go_M_tracksOf_5, go_M_tracksOf_6, go_M_tracksOf_9, go_M_tracksOf_10, go_M_tracksOf_11, go_M_tracksOf_14, go_M_tracksOf_15, go_M_tracksOf_16, go_M_tracksOf_19, go_M_tracksOf_21, go_M_tracksOf_22, go_M_tracksOf_23, go_M_tracksOf_24, go_M_tracksOf_25, go_M_tracksOf_26, go_M_tracksOf_27, go_M_tracksOf_28, go_M_tracksOf_29, go_M_tracksOf_30, go_M_tracksOf_31, go_M_tracksOf_32, go_M_tracksOf_35, go_M_tracksOf_38, go_M_tracksOf_39, at_M_tracksOf_0, at_M_tracksOf_4, tf_M_tracksOf_26, tf_M_tracksOf_29, s_opt, s_oI, s_oL, s_oA, s_oAN, s_set0, s_set1, s_setn0, s_setn1, s_ok0, s_okn, s_oki, s_okr, s_okN, s_oko, s_oks, s_c1i, s_c1r, s_c1n, s_fi, s_fr, s_fn, s_fl, s_fz, s_rd, s_pt, s_ai, s_lds, s_ldsN, s_al, s_ar, s_cls, s_leni, s_lenz, s_lenr, s_lenN, s_lenl, s_rc0, s_rc1, s_rcv, s_clo, s_clx, s_cln, s_cl1, s_cl2, s_cl3, s_cl4, s_cl5, s_sw1, s_sw2, s_min0, s_min1, s_min2, List.getElem?_cons_zero, List.getElem?_cons_succ, List.take_succ_cons, List.take_zero, List.length_cons, List.length_nil, List.set_cons_zero, List.set_cons_succ, List.cons_append, List.nil_append, Option.toList_some, Option.toList_none, Nat.reduceAdd, Nat.reduceSub, Nat.reduceLeDiff, Nat.reduceLT, Nat.reduceEqDiff, Nat.zero_add, Nat.add_zero, Nat.le_refl, Nat.zero_le, true_and, and_true, true_or, or_true, or_false, false_or, and_self, not_false_eq_true, Nat.one_ne_zero, Nat.zero_ne_one, reduceCtorEq, false_and, and_false, g_ent, lg_sl, List.flatMap_cons, List.flatMap_nil, List.map_cons, List.map_nil, Value.category, ite_true, ite_false, if_true, if_false, if_pos, gEl, Option.isSome_some, s_c12, s_p12, s_c16, s_p16, s_c20, s_p20, s_c30, s_p30, s_c60, s_p60, s_c100, s_p100, s_c500, s_p500, s_c61, s_p61, s_c1952, s_p1952, s_c732, s_p732, s_c1830, s_p1830, s_c2000, s_p2000, not_true_eq_false, true_implies, false_implies, implies_true, hm, h0, h1, h2, h3, h4, h5, h6, h7, h8, h9, h10, h11, h12, h13, h14, h15, h16, gA, gM, gN, g_up_s, ne_eq, Nat.reduceEqDiff, hcs, e32, e2, pk_mul, nI_add, nI_1, hc2]
    refine ⟨pk_in s 61 (by omega), pk_le (rMy R s) i (fun h => ?_) (fun h => ?_)⟩
    · have e0 : i = rMy R s := by omega
      rw [e0]
      exact hP
    · exact ⟨pk_in (32 * s + 2 * i + 1) 1952 (by omega), rMy R s - (i + 1), by omega, i + 1, by omega, rfl, rfl, rfl, rfl, rfl, rfl, rfl⟩
/-- the last of the k places from b on that has p -/
def m_lst (p : Nat → Bool) (b : Nat) : Nat → Option Nat
  | 0 => none
  | j + 1 => if p (b + j) then some (b + j) else m_lst p b j
def r_mp (R : mR) (x : Int32) (k : Nat) : Bool := m_nm x && decide (oI (rMn R k) = x)
def sp_M_memberOf : gSpec := fun av σ P => ∃ (m : Nat) (A : Nat → Nat) (cd : Int32) (R : mR) (s : Nat) (x : Int32), av = [.ref m, .int (nI s), .int x] ∧ rR σ m A cd R ∧ s ≤ 60 ∧ P (some (.int (oI (m_lst (r_mp R x) (12 * s) 12)))) σ
def iv_M_memberOf (σ : gS) (m s : Nat) (R : mR) (x : Int32) : Nat → gK := fun k pc lv st σ' c z => ∃ i, i ≤ 12 ∧ k = 12 - i ∧ pc = 8 ∧ lv = [some (.ref m), some (.int (nI s)), some (.int x), some (.int (oI (m_lst (r_mp R x) (12 * s) i))), some (.int (nI (12 * s + i)))] ∧ st = [] ∧ σ' = σ ∧ c = 0 ∧ z = 0
def T_M_memberOf : gT := gTT [(36, 7, 11, 1, 2)] [(73, 1, 0, sp_M_isName, 0, 0)] [] [] [] []
theorem tf_M_memberOf_36 : (T_M_memberOf).1 36 = some (7, 11, 1, 2) := rfl
theorem tc_M_memberOf_73 : (T_M_memberOf).2.1 73 = some (1, 0, sp_M_isName, 0, 0) := rfl
theorem tm_M_memberOf_73 : (T_M_memberOf).2.2.2.2.2 73 = none := rfl
theorem t_M_memberOf (l : Launch) (sc : gX) : g_TOK l sc (gRm 2 0 0) (T_M_memberOf) gEl "DataSetsModel" gCl gTb gNs gAT gAO := gTT_ok
  (List.forall_mem_cons.mpr ⟨⟨R_M, F_M, 21, t_M 11, rfl, by decide, rfl, by decide +kernel, rfl, by decide, Or.inl ⟨wd403, by decide⟩⟩, fun _ h => absurd h List.not_mem_nil⟩)
  (List.forall_mem_cons.mpr ⟨⟨y_M_isName, b_M_isName, 1, _, gRm 1 0 0, k_M_isName l sc, rfl, rfl, by decide, by decide, wd463, wd27, ⟨by decide, by decide⟩, Or.inl wd461, ⟨by decide +kernel, wd462⟩⟩, fun _ h => absurd h List.not_mem_nil⟩)
  (fun _ h => absurd h List.not_mem_nil)
  (fun _ h => absurd h List.not_mem_nil)
  (fun _ h => absurd h List.not_mem_nil)
  (fun _ h => absurd h List.not_mem_nil)
set_option maxHeartbeats 4000000 in
set_option maxRecDepth 100000 in
theorem k_M_memberOf (l : Launch) (sc : gX) : g_Met l sc gCl gTb gNs gAT gAO y_M_memberOf b_M_memberOf 5 (some .int) (gRm 2 0 0) (sp_M_memberOf) 0 0 := by
  refine g_meth (T := (T_M_memberOf)) (el := gEl) (ini := false) (rk := 1) (code := c_M_memberOf) gG_ok (t_M_memberOf l sc) (by decide) (by decide) rfl ⟨rfl, rfl, by decide, by decide⟩ ok_M_memberOf ?_
  intro av σ P hsp
  obtain ⟨m, A, cd, R, s, x, rfl, hR, hs, hP⟩ := hsp
  obtain ⟨hm, h0, h1, h2, h3, h4, h5, h6, h7, h8, h9, h10, h11, h12, h13, h14, h15, h16, hA⟩ := id hR
  have gA := gA_of hA
  have gM := gM_of hA
  have gN := gN_of hA
  have e12 : (12 : Int32) = nI 12 := rfl
  refine ⟨by simp [lg_sl, Value.category], iv_M_memberOf σ m s R x, ⟨200, ?_⟩, ?_⟩
  · simp only [w_iconst, w_istore_3, w_bipush, w_iload_1, w_imul, w_istore, w_iload, w_iadd, w_icmp_ge, w_iload_2, w_invokestatic, w_if_eq, w_aload_0, w_get, w_iald, w_icmp_ne, w_goto, w_iload_3, w_iinc, w_iret, go_M_memberOf_0, go_M_memberOf_1, go_M_memberOf_2, go_M_memberOf_4, go_M_memberOf_5, go_M_memberOf_6, go_M_memberOf_8, go_M_memberOf_10, go_M_memberOf_12, go_M_memberOf_13, go_M_memberOf_14, go_M_memberOf_16, go_M_memberOf_17, go_M_memberOf_20, go_M_memberOf_21, go_M_memberOf_24, go_M_memberOf_27, go_M_memberOf_28, go_M_memberOf_31, go_M_memberOf_33, go_M_memberOf_34, go_M_memberOf_35, go_M_memberOf_38, go_M_memberOf_40, go_M_memberOf_43, go_M_memberOf_44, go_M_memberOf_45, go_M_memberOf_48, go_M_memberOf_51, go_M_memberOf_52, at_M_memberOf_0, at_M_memberOf_8, tf_M_memberOf_36, tc_M_memberOf_73, tm_M_memberOf_73, s_opt, s_oI, s_oL, s_oA, s_oAN, s_set0, s_set1, s_setn0, s_setn1, s_ok0, s_okn, s_oki, s_okr, s_okN, s_oko, s_oks, s_c1i, s_c1r, s_c1n, s_fi, s_fr, s_fn, s_fl, s_fz, s_rd, s_pt, s_ai, s_lds, s_ldsN, s_al, s_ar, s_cls, s_leni, s_lenz, s_lenr, s_lenN, s_lenl, s_rc0, s_rc1, s_rcv, s_clo, s_clx, s_cln, s_cl1, s_cl2, s_cl3, s_cl4, s_cl5, s_sw1, s_sw2, s_min0, s_min1, s_min2, List.getElem?_cons_zero, List.getElem?_cons_succ, List.take_succ_cons, List.take_zero, List.length_cons, List.length_nil, List.set_cons_zero, List.set_cons_succ, List.cons_append, List.nil_append, Option.toList_some, Option.toList_none, Nat.reduceAdd, Nat.reduceSub, Nat.reduceLeDiff, Nat.reduceLT, Nat.reduceEqDiff, Nat.zero_add, Nat.add_zero, Nat.le_refl, Nat.zero_le, true_and, and_true, true_or, or_true, or_false, false_or, and_self, not_false_eq_true, Nat.one_ne_zero, Nat.zero_ne_one, reduceCtorEq, false_and, and_false, g_ent, lg_sl, List.flatMap_cons, List.flatMap_nil, List.map_cons, List.map_nil, Value.category, ite_true, ite_false, if_true, if_false, if_pos, gEl, Option.isSome_some, s_c12, s_p12, s_c16, s_p16, s_c20, s_p20, s_c30, s_p30, s_c60, s_p60, s_c100, s_p100, s_c500, s_p500, s_c61, s_p61, s_c1952, s_p1952, s_c732, s_p732, s_c1830, s_p1830, s_c2000, s_p2000, not_true_eq_false, true_implies, false_implies, implies_true, e12, pk_mul]
    exact ⟨12, 0, Nat.zero_le _, rfl, rfl, rfl, rfl, rfl, rfl, rfl⟩
  · rintro k pc lv st σ' c z ⟨i, hi, rfl, rfl, rfl, rfl, rfl, rfl, rfl⟩
    refine ⟨200, ?_⟩
    have hcl : (nI (12 * s + i)).toNatClampNeg = 12 * s + i := pk_cl _
    simp only [w_iconst, w_istore_3, w_bipush, w_iload_1, w_imul, w_istore, w_iload, w_iadd, w_icmp_ge, w_iload_2, w_invokestatic, w_if_eq, w_aload_0, w_get, w_iald, w_icmp_ne, w_goto, w_iload_3, w_iinc, w_iret, go_M_memberOf_0, go_M_memberOf_1, go_M_memberOf_2, go_M_memberOf_4, go_M_memberOf_5, go_M_memberOf_6, go_M_memberOf_8, go_M_memberOf_10, go_M_memberOf_12, go_M_memberOf_13, go_M_memberOf_14, go_M_memberOf_16, go_M_memberOf_17, go_M_memberOf_20, go_M_memberOf_21, go_M_memberOf_24, go_M_memberOf_27, go_M_memberOf_28, go_M_memberOf_31, go_M_memberOf_33, go_M_memberOf_34, go_M_memberOf_35, go_M_memberOf_38, go_M_memberOf_40, go_M_memberOf_43, go_M_memberOf_44, go_M_memberOf_45, go_M_memberOf_48, go_M_memberOf_51, go_M_memberOf_52, at_M_memberOf_0, at_M_memberOf_8, tf_M_memberOf_36, tc_M_memberOf_73, tm_M_memberOf_73, s_opt, s_oI, s_oL, s_oA, s_oAN, s_set0, s_set1, s_setn0, s_setn1, s_ok0, s_okn, s_oki, s_okr, s_okN, s_oko, s_oks, s_c1i, s_c1r, s_c1n, s_fi, s_fr, s_fn, s_fl, s_fz, s_rd, s_pt, s_ai, s_lds, s_ldsN, s_al, s_ar, s_cls, s_leni, s_lenz, s_lenr, s_lenN, s_lenl, s_rc0, s_rc1, s_rcv, s_clo, s_clx, s_cln, s_cl1, s_cl2, s_cl3, s_cl4, s_cl5, s_sw1, s_sw2, s_min0, s_min1, s_min2, List.getElem?_cons_zero, List.getElem?_cons_succ, List.take_succ_cons, List.take_zero, List.length_cons, List.length_nil, List.set_cons_zero, List.set_cons_succ, List.cons_append, List.nil_append, Option.toList_some, Option.toList_none, Nat.reduceAdd, Nat.reduceSub, Nat.reduceLeDiff, Nat.reduceLT, Nat.reduceEqDiff, Nat.zero_add, Nat.add_zero, Nat.le_refl, Nat.zero_le, true_and, and_true, true_or, or_true, or_false, false_or, and_self, not_false_eq_true, Nat.one_ne_zero, Nat.zero_ne_one, reduceCtorEq, false_and, and_false, g_ent, lg_sl, List.flatMap_cons, List.flatMap_nil, List.map_cons, List.map_nil, Value.category, ite_true, ite_false, if_true, if_false, if_pos, gEl, Option.isSome_some, s_c12, s_p12, s_c16, s_p16, s_c20, s_p20, s_c30, s_p30, s_c60, s_p60, s_c100, s_p100, s_c500, s_p500, s_c61, s_p61, s_c1952, s_p1952, s_c732, s_p732, s_c1830, s_p1830, s_c2000, s_p2000, not_true_eq_false, true_implies, false_implies, implies_true, hm, h0, h1, h2, h3, h4, h5, h6, h7, h8, h9, h10, h11, h12, h13, h14, h15, h16, gA, gM, gN, g_up_s, ne_eq, Nat.reduceEqDiff, hcl, e12, pk_mul, nI_add]
    refine pk_le (12 * s + 12) (12 * s + i) (fun h => ?_) (fun h => ⟨x, rfl, ?_⟩)
    · have e0 : i = 12 := by omega
      rw [e0]
      exact hP
    · simp only [w_iconst, w_istore_3, w_bipush, w_iload_1, w_imul, w_istore, w_iload, w_iadd, w_icmp_ge, w_iload_2, w_invokestatic, w_if_eq, w_aload_0, w_get, w_iald, w_icmp_ne, w_goto, w_iload_3, w_iinc, w_iret, go_M_memberOf_0, go_M_memberOf_1, go_M_memberOf_2, go_M_memberOf_4, go_M_memberOf_5, go_M_memberOf_6, go_M_memberOf_8, go_M_memberOf_10, go_M_memberOf_12, go_M_memberOf_13, go_M_memberOf_14, go_M_memberOf_16, go_M_memberOf_17, go_M_memberOf_20, go_M_memberOf_21, go_M_memberOf_24, go_M_memberOf_27, go_M_memberOf_28, go_M_memberOf_31, go_M_memberOf_33, go_M_memberOf_34, go_M_memberOf_35, go_M_memberOf_38, go_M_memberOf_40, go_M_memberOf_43, go_M_memberOf_44, go_M_memberOf_45, go_M_memberOf_48, go_M_memberOf_51, go_M_memberOf_52, at_M_memberOf_0, at_M_memberOf_8, tf_M_memberOf_36, tc_M_memberOf_73, tm_M_memberOf_73, s_opt, s_oI, s_oL, s_oA, s_oAN, s_set0, s_set1, s_setn0, s_setn1, s_ok0, s_okn, s_oki, s_okr, s_okN, s_oko, s_oks, s_c1i, s_c1r, s_c1n, s_fi, s_fr, s_fn, s_fl, s_fz, s_rd, s_pt, s_ai, s_lds, s_ldsN, s_al, s_ar, s_cls, s_leni, s_lenz, s_lenr, s_lenN, s_lenl, s_rc0, s_rc1, s_rcv, s_clo, s_clx, s_cln, s_cl1, s_cl2, s_cl3, s_cl4, s_cl5, s_sw1, s_sw2, s_min0, s_min1, s_min2, List.getElem?_cons_zero, List.getElem?_cons_succ, List.take_succ_cons, List.take_zero, List.length_cons, List.length_nil, List.set_cons_zero, List.set_cons_succ, List.cons_append, List.nil_append, Option.toList_some, Option.toList_none, Nat.reduceAdd, Nat.reduceSub, Nat.reduceLeDiff, Nat.reduceLT, Nat.reduceEqDiff, Nat.zero_add, Nat.add_zero, Nat.le_refl, Nat.zero_le, true_and, and_true, true_or, or_true, or_false, false_or, and_self, not_false_eq_true, Nat.one_ne_zero, Nat.zero_ne_one, reduceCtorEq, false_and, and_false, g_ent, lg_sl, List.flatMap_cons, List.flatMap_nil, List.map_cons, List.map_nil, Value.category, ite_true, ite_false, if_true, if_false, if_pos, gEl, Option.isSome_some, s_c12, s_p12, s_c16, s_p16, s_c20, s_p20, s_c30, s_p30, s_c60, s_p60, s_c100, s_p100, s_c500, s_p500, s_c61, s_p61, s_c1952, s_p1952, s_c732, s_p732, s_c1830, s_p1830, s_c2000, s_p2000, not_true_eq_false, true_implies, false_implies, implies_true, hm, h0, h1, h2, h3, h4, h5, h6, h7, h8, h9, h10, h11, h12, h13, h14, h15, h16, gA, gM, gN, g_up_s, ne_eq, Nat.reduceEqDiff, hcl, e12, pk_mul, nI_add]
      have e5 : m_lst (r_mp R x) (12 * s) (i + 1) = if r_mp R x (12 * s + i) = true then some (12 * s + i) else m_lst (r_mp R x) (12 * s) i := rfl
      have go : ∀ y, y = oI (m_lst (r_mp R x) (12 * s) (i + 1)) → ∃ k', k' < 12 - i ∧ iv_M_memberOf σ' m s R x k' 8 [some (.ref m), some (.int (nI s)), some (.int x), some (.int y), some (.int (nI (12 * s + i) + 1))] [] σ' 0 0 := by
        intro y hy
        exact ⟨12 - (i + 1), by omega, i + 1, by omega, rfl, rfl, by rw [hy, nI_1]; rfl, rfl, rfl, rfl, rfl⟩
      refine pk_b (m_nm x) (fun hb => ?_) (fun hb => ⟨pk_in (12 * s + i) 732 (by omega), fun hne => ?_, fun he => ?_⟩)
      · exact go _ (by rw [e5, if_neg (by simp [r_mp, hb])])
      · exact go _ (by rw [e5, if_neg (by simp [r_mp, hne])])
      · exact go _ (by rw [e5, if_pos (by simp [r_mp, hb, Classical.byContradiction he])]; rfl)
def m_any (p : Nat → Bool) : Nat → Bool
  | 0 => false
  | k + 1 => m_any p k || p k
theorem m_any_t {p : Nat → Bool} : ∀ {n : Nat}, m_any p n = true ↔ ∃ j, j < n ∧ p j = true
  | 0 => by simp [m_any]
  | n + 1 => by
    unfold m_any
    rw [Bool.or_eq_true, m_any_t]
    constructor
    · rintro (⟨j, h1, h2⟩ | h)
      · exact ⟨j, by omega, h2⟩
      · exact ⟨n, by omega, h⟩
    · rintro ⟨j, h1, h2⟩
      by_cases hj : j = n
      · subst hj; exact Or.inr h2
      · exact Or.inl ⟨j, by omega, h2⟩
def bK (R : mR) : Prop := rK R ≤ 2000 ∧ ∀ k, k < rK R → rAn R k < 100 ∧ rAj R k ≤ 20
def iv_M_any (σ : gS) (K : Nat) (l0 : gL) (f : Nat → Bool) (pc0 : Nat) : Nat → gK := fun k pc lv st σ' c z => ∃ i, i ≤ K ∧ k = K - i ∧ pc = pc0 ∧ lv = l0 ++ [some (.int (b2i (f i))), some (.int (nI i))] ∧ st = [] ∧ σ' = σ ∧ c = 0 ∧ z = 0
def sp_M_isAsked : gSpec := fun av σ P => ∃ (m : Nat) (A : Nat → Nat) (cd : Int32) (R : mR) (x : Int32), av = [.ref m, .int x] ∧ rR σ m A cd R ∧ bK R ∧ P (some (.int (b2i (m_any (fun k => decide (nI (rAn R k) = x)) (rK R))))) σ
def T_M_isAsked : gT := gTT [(51, 7, 16, 1, 2), (100, 7, 20, 0, 1)] [] [] [] [] []
theorem tf_M_isAsked_51 : (T_M_isAsked).1 51 = some (7, 16, 1, 2) := rfl
theorem tf_M_isAsked_100 : (T_M_isAsked).1 100 = some (7, 20, 0, 1) := rfl
theorem t_M_isAsked (l : Launch) (sc : gX) : g_TOK l sc (gRm 1 0 0) (T_M_isAsked) gEl "DataSetsModel" gCl gTb gNs gAT gAO := gTT_ok
  (List.forall_mem_cons.mpr ⟨⟨R_M, F_M, 21, t_M 16, rfl, by decide, rfl, by decide +kernel, rfl, by decide, Or.inl ⟨wd408, by decide⟩⟩, List.forall_mem_cons.mpr ⟨⟨R_M, F_M, 21, t_M 20, rfl, by decide, rfl, by decide +kernel, rfl, by decide, Or.inl ⟨wd412, by decide⟩⟩, fun _ h => absurd h List.not_mem_nil⟩⟩)
  (fun _ h => absurd h List.not_mem_nil)
  (fun _ h => absurd h List.not_mem_nil)
  (fun _ h => absurd h List.not_mem_nil)
  (fun _ h => absurd h List.not_mem_nil)
  (fun _ h => absurd h List.not_mem_nil)
set_option maxHeartbeats 4000000 in
set_option maxRecDepth 100000 in
theorem k_M_isAsked (l : Launch) (sc : gX) : g_Met l sc gCl gTb gNs gAT gAO y_M_isAsked b_M_isAsked 4 (some .boolean) (gRm 1 0 0) (sp_M_isAsked) 0 0 := by
  refine g_meth (T := (T_M_isAsked)) (el := gEl) (ini := false) (rk := 2) (code := c_M_isAsked) gG_ok (t_M_isAsked l sc) (by decide) (by decide) rfl ⟨rfl, rfl, by decide, by decide⟩ ok_M_isAsked ?_
  intro av σ P hsp
  obtain ⟨m, A, cd, R, x, rfl, hR, ⟨hk, hb⟩, hP⟩ := hsp
  obtain ⟨hm, h0, h1, h2, h3, h4, h5, h6, h7, h8, h9, h10, h11, h12, h13, h14, h15, h16, hA⟩ := id hR
  have gA := gA_of hA
  have gM := gM_of hA
  have gN := gN_of hA
  refine ⟨by simp [lg_sl, Value.category], iv_M_any σ (rK R) [some (.ref m), some (.int x)] (m_any (fun k => decide (nI (rAn R k) = x))) 4, ⟨200, ?_⟩, ?_⟩
  · simp only [w_iconst, w_istore_2, w_istore_3, w_iload_3, w_aload_0, w_get, w_icmp_ge, w_iload_2, w_if_ne, w_iald, w_iload_1, w_icmp_ne, w_goto, w_iinc, w_iret, go_M_isAsked_0, go_M_isAsked_1, go_M_isAsked_2, go_M_isAsked_3, go_M_isAsked_4, go_M_isAsked_5, go_M_isAsked_6, go_M_isAsked_9, go_M_isAsked_12, go_M_isAsked_13, go_M_isAsked_16, go_M_isAsked_17, go_M_isAsked_20, go_M_isAsked_21, go_M_isAsked_22, go_M_isAsked_23, go_M_isAsked_26, go_M_isAsked_27, go_M_isAsked_30, go_M_isAsked_31, go_M_isAsked_32, go_M_isAsked_35, go_M_isAsked_38, go_M_isAsked_39, at_M_isAsked_0, at_M_isAsked_4, tf_M_isAsked_51, tf_M_isAsked_100, s_opt, s_oI, s_oL, s_oA, s_oAN, s_set0, s_set1, s_setn0, s_setn1, s_ok0, s_okn, s_oki, s_okr, s_okN, s_oko, s_oks, s_c1i, s_c1r, s_c1n, s_fi, s_fr, s_fn, s_fl, s_fz, s_rd, s_pt, s_ai, s_lds, s_ldsN, s_al, s_ar, s_cls, s_leni, s_lenz, s_lenr, s_lenN, s_lenl, s_rc0, s_rc1, s_rcv, s_clo, s_clx, s_cln, s_cl1, s_cl2, s_cl3, s_cl4, s_cl5, s_sw1, s_sw2, s_min0, s_min1, s_min2, List.getElem?_cons_zero, List.getElem?_cons_succ, List.take_succ_cons, List.take_zero, List.length_cons, List.length_nil, List.set_cons_zero, List.set_cons_succ, List.cons_append, List.nil_append, Option.toList_some, Option.toList_none, Nat.reduceAdd, Nat.reduceSub, Nat.reduceLeDiff, Nat.reduceLT, Nat.reduceEqDiff, Nat.zero_add, Nat.add_zero, Nat.le_refl, Nat.zero_le, true_and, and_true, true_or, or_true, or_false, false_or, and_self, not_false_eq_true, Nat.one_ne_zero, Nat.zero_ne_one, reduceCtorEq, false_and, and_false, g_ent, lg_sl, List.flatMap_cons, List.flatMap_nil, List.map_cons, List.map_nil, Value.category, ite_true, ite_false, if_true, if_false, if_pos, gEl, Option.isSome_some, s_c12, s_p12, s_c16, s_p16, s_c20, s_p20, s_c30, s_p30, s_c60, s_p60, s_c100, s_p100, s_c500, s_p500, s_c61, s_p61, s_c1952, s_p1952, s_c732, s_p732, s_c1830, s_p1830, s_c2000, s_p2000, not_true_eq_false, true_implies, false_implies, implies_true]
    exact ⟨rK R, 0, Nat.zero_le _, rfl, rfl, rfl, rfl, rfl, rfl, rfl⟩
  · rintro k pc lv st σ' c z ⟨i, hi, rfl, rfl, rfl, rfl, rfl, rfl, rfl⟩
    refine ⟨200, ?_⟩
    have hcl : (nI i).toNatClampNeg = i := pk_cl i
    simp only [w_iconst, w_istore_2, w_istore_3, w_iload_3, w_aload_0, w_get, w_icmp_ge, w_iload_2, w_if_ne, w_iald, w_iload_1, w_icmp_ne, w_goto, w_iinc, w_iret, go_M_isAsked_0, go_M_isAsked_1, go_M_isAsked_2, go_M_isAsked_3, go_M_isAsked_4, go_M_isAsked_5, go_M_isAsked_6, go_M_isAsked_9, go_M_isAsked_12, go_M_isAsked_13, go_M_isAsked_16, go_M_isAsked_17, go_M_isAsked_20, go_M_isAsked_21, go_M_isAsked_22, go_M_isAsked_23, go_M_isAsked_26, go_M_isAsked_27, go_M_isAsked_30, go_M_isAsked_31, go_M_isAsked_32, go_M_isAsked_35, go_M_isAsked_38, go_M_isAsked_39, at_M_isAsked_0, at_M_isAsked_4, tf_M_isAsked_51, tf_M_isAsked_100, s_opt, s_oI, s_oL, s_oA, s_oAN, s_set0, s_set1, s_setn0, s_setn1, s_ok0, s_okn, s_oki, s_okr, s_okN, s_oko, s_oks, s_c1i, s_c1r, s_c1n, s_fi, s_fr, s_fn, s_fl, s_fz, s_rd, s_pt, s_ai, s_lds, s_ldsN, s_al, s_ar, s_cls, s_leni, s_lenz, s_lenr, s_lenN, s_lenl, s_rc0, s_rc1, s_rcv, s_clo, s_clx, s_cln, s_cl1, s_cl2, s_cl3, s_cl4, s_cl5, s_sw1, s_sw2, s_min0, s_min1, s_min2, List.getElem?_cons_zero, List.getElem?_cons_succ, List.take_succ_cons, List.take_zero, List.length_cons, List.length_nil, List.set_cons_zero, List.set_cons_succ, List.cons_append, List.nil_append, Option.toList_some, Option.toList_none, Nat.reduceAdd, Nat.reduceSub, Nat.reduceLeDiff, Nat.reduceLT, Nat.reduceEqDiff, Nat.zero_add, Nat.add_zero, Nat.le_refl, Nat.zero_le, true_and, and_true, true_or, or_true, or_false, false_or, and_self, not_false_eq_true, Nat.one_ne_zero, Nat.zero_ne_one, reduceCtorEq, false_and, and_false, g_ent, lg_sl, List.flatMap_cons, List.flatMap_nil, List.map_cons, List.map_nil, Value.category, ite_true, ite_false, if_true, if_false, if_pos, gEl, Option.isSome_some, s_c12, s_p12, s_c16, s_p16, s_c20, s_p20, s_c30, s_p30, s_c60, s_p60, s_c100, s_p100, s_c500, s_p500, s_c61, s_p61, s_c1952, s_p1952, s_c732, s_p732, s_c1830, s_p1830, s_c2000, s_p2000, not_true_eq_false, true_implies, false_implies, implies_true, hm, h0, h1, h2, h3, h4, h5, h6, h7, h8, h9, h10, h11, h12, h13, h14, h15, h16, gA, gM, gN, g_up_s, ne_eq, Nat.reduceEqDiff, hcl]
    refine pk_le (rK R) i (fun h => ?_) (fun h => ?_)
    · have e0 : i = rK R := by omega
      rw [e0]
      exact ⟨b2i_01 _, hP⟩
    · have e5 : m_any (fun k => decide (nI (rAn R k) = x)) (i + 1) = (m_any (fun k => decide (nI (rAn R k) = x)) i || decide (nI (rAn R i) = x)) := rfl
      have go : ∀ y, y = b2i (m_any (fun k => decide (nI (rAn R k) = x)) (i + 1)) → ∃ k', k' < rK R - i ∧ iv_M_any σ' (rK R) [some (.ref m), some (.int x)] (m_any (fun k => decide (nI (rAn R k) = x))) 4 k' 4 [some (.ref m), some (.int x), some (.int y), some (.int (nI i + 1))] [] σ' 0 0 := by
        intro y hy
        exact ⟨rK R - (i + 1), by omega, i + 1, by omega, rfl, rfl, by rw [hy, nI_1]; rfl, rfl, rfl, rfl, rfl⟩
      refine pk_bn (m_any (fun k => decide (nI (rAn R k) = x)) i) (fun hb => ?_) (fun hb => ⟨pk_in i 2000 (by omega), fun hne => ?_, fun he => ?_⟩)
      · exact go _ (by rw [e5, hb]; rfl)
      · exact go _ (by rw [e5, hb, decide_eq_false hne]; rfl)
      · exact go _ (by rw [e5, decide_eq_true (Classical.byContradiction he), Bool.or_true]; rfl)
def r_pw (an : Nat → Nat) (aw : Nat → Bool) (x k : Nat) : Bool := decide (an k = x) && aw k
def sp_M_isAwaited : gSpec := fun av σ P => ∃ (m : Nat) (A : Nat → Nat) (cd : Int32) (R : mR) (x : Nat), av = [.ref m, .int (nI x)] ∧ rR σ m A cd R ∧ bK R ∧ x < 100 ∧ P (some (.int (b2i (m_any (r_pw (rAn R) (rAw R) x) (rK R))))) σ
def T_M_isAwaited : gT := gTT [(51, 7, 16, 1, 2), (60, 7, 19, 1, 2), (100, 7, 20, 0, 1)] [] [] [] [] []
theorem tf_M_isAwaited_51 : (T_M_isAwaited).1 51 = some (7, 16, 1, 2) := rfl
theorem tf_M_isAwaited_60 : (T_M_isAwaited).1 60 = some (7, 19, 1, 2) := rfl
theorem tf_M_isAwaited_100 : (T_M_isAwaited).1 100 = some (7, 20, 0, 1) := rfl
theorem t_M_isAwaited (l : Launch) (sc : gX) : g_TOK l sc (gRm 1 0 0) (T_M_isAwaited) gEl "DataSetsModel" gCl gTb gNs gAT gAO := gTT_ok
  (List.forall_mem_cons.mpr ⟨⟨R_M, F_M, 21, t_M 16, rfl, by decide, rfl, by decide +kernel, rfl, by decide, Or.inl ⟨wd408, by decide⟩⟩, List.forall_mem_cons.mpr ⟨⟨R_M, F_M, 21, t_M 19, rfl, by decide, rfl, by decide +kernel, rfl, by decide, Or.inl ⟨wd411, by decide⟩⟩, List.forall_mem_cons.mpr ⟨⟨R_M, F_M, 21, t_M 20, rfl, by decide, rfl, by decide +kernel, rfl, by decide, Or.inl ⟨wd412, by decide⟩⟩, fun _ h => absurd h List.not_mem_nil⟩⟩⟩)
  (fun _ h => absurd h List.not_mem_nil)
  (fun _ h => absurd h List.not_mem_nil)
  (fun _ h => absurd h List.not_mem_nil)
  (fun _ h => absurd h List.not_mem_nil)
  (fun _ h => absurd h List.not_mem_nil)
set_option maxHeartbeats 4000000 in
set_option maxRecDepth 100000 in
theorem k_M_isAwaited (l : Launch) (sc : gX) : g_Met l sc gCl gTb gNs gAT gAO y_M_isAwaited b_M_isAwaited 4 (some .boolean) (gRm 1 0 0) (sp_M_isAwaited) 0 0 := by
  refine g_meth (T := (T_M_isAwaited)) (el := gEl) (ini := false) (rk := 2) (code := c_M_isAwaited) gG_ok (t_M_isAwaited l sc) (by decide) (by decide) rfl ⟨rfl, rfl, by decide, by decide⟩ ok_M_isAwaited ?_
  intro av σ P hsp
  obtain ⟨m, A, cd, R, x, rfl, hR, ⟨hk, hb⟩, hx, hP⟩ := hsp
  obtain ⟨hm, h0, h1, h2, h3, h4, h5, h6, h7, h8, h9, h10, h11, h12, h13, h14, h15, h16, hA⟩ := id hR
  have gA := gA_of hA
  have gM := gM_of hA
  have gN := gN_of hA
  refine ⟨by simp [lg_sl, Value.category], iv_M_any σ (rK R) [some (.ref m), some (.int (nI x))] (m_any (r_pw (rAn R) (rAw R) x)) 4, ⟨200, ?_⟩, ?_⟩
  · simp only [w_iconst, w_istore_2, w_istore_3, w_iload_3, w_aload_0, w_get, w_icmp_ge, w_iload_2, w_if_ne, w_iald, w_iload_1, w_icmp_ne, w_bald, w_if_eq, w_goto, w_iinc, w_iret, go_M_isAwaited_0, go_M_isAwaited_1, go_M_isAwaited_2, go_M_isAwaited_3, go_M_isAwaited_4, go_M_isAwaited_5, go_M_isAwaited_6, go_M_isAwaited_9, go_M_isAwaited_12, go_M_isAwaited_13, go_M_isAwaited_16, go_M_isAwaited_17, go_M_isAwaited_20, go_M_isAwaited_21, go_M_isAwaited_22, go_M_isAwaited_23, go_M_isAwaited_26, go_M_isAwaited_27, go_M_isAwaited_30, go_M_isAwaited_31, go_M_isAwaited_32, go_M_isAwaited_35, go_M_isAwaited_36, go_M_isAwaited_39, go_M_isAwaited_40, go_M_isAwaited_41, go_M_isAwaited_44, go_M_isAwaited_47, go_M_isAwaited_48, at_M_isAwaited_0, at_M_isAwaited_4, tf_M_isAwaited_51, tf_M_isAwaited_60, tf_M_isAwaited_100, s_opt, s_oI, s_oL, s_oA, s_oAN, s_set0, s_set1, s_setn0, s_setn1, s_ok0, s_okn, s_oki, s_okr, s_okN, s_oko, s_oks, s_c1i, s_c1r, s_c1n, s_fi, s_fr, s_fn, s_fl, s_fz, s_rd, s_pt, s_ai, s_lds, s_ldsN, s_al, s_ar, s_cls, s_leni, s_lenz, s_lenr, s_lenN, s_lenl, s_rc0, s_rc1, s_rcv, s_clo, s_clx, s_cln, s_cl1, s_cl2, s_cl3, s_cl4, s_cl5, s_sw1, s_sw2, s_min0, s_min1, s_min2, List.getElem?_cons_zero, List.getElem?_cons_succ, List.take_succ_cons, List.take_zero, List.length_cons, List.length_nil, List.set_cons_zero, List.set_cons_succ, List.cons_append, List.nil_append, Option.toList_some, Option.toList_none, Nat.reduceAdd, Nat.reduceSub, Nat.reduceLeDiff, Nat.reduceLT, Nat.reduceEqDiff, Nat.zero_add, Nat.add_zero, Nat.le_refl, Nat.zero_le, true_and, and_true, true_or, or_true, or_false, false_or, and_self, not_false_eq_true, Nat.one_ne_zero, Nat.zero_ne_one, reduceCtorEq, false_and, and_false, g_ent, lg_sl, List.flatMap_cons, List.flatMap_nil, List.map_cons, List.map_nil, Value.category, ite_true, ite_false, if_true, if_false, if_pos, gEl, Option.isSome_some, s_c12, s_p12, s_c16, s_p16, s_c20, s_p20, s_c30, s_p30, s_c60, s_p60, s_c100, s_p100, s_c500, s_p500, s_c61, s_p61, s_c1952, s_p1952, s_c732, s_p732, s_c1830, s_p1830, s_c2000, s_p2000, not_true_eq_false, true_implies, false_implies, implies_true]
    exact ⟨rK R, 0, Nat.zero_le _, rfl, rfl, rfl, rfl, rfl, rfl, rfl⟩
  · rintro k pc lv st σ' c z ⟨i, hi, rfl, rfl, rfl, rfl, rfl, rfl, rfl⟩
    refine ⟨200, ?_⟩
    have hcl : (nI i).toNatClampNeg = i := pk_cl i
    simp only [w_iconst, w_istore_2, w_istore_3, w_iload_3, w_aload_0, w_get, w_icmp_ge, w_iload_2, w_if_ne, w_iald, w_iload_1, w_icmp_ne, w_bald, w_if_eq, w_goto, w_iinc, w_iret, go_M_isAwaited_0, go_M_isAwaited_1, go_M_isAwaited_2, go_M_isAwaited_3, go_M_isAwaited_4, go_M_isAwaited_5, go_M_isAwaited_6, go_M_isAwaited_9, go_M_isAwaited_12, go_M_isAwaited_13, go_M_isAwaited_16, go_M_isAwaited_17, go_M_isAwaited_20, go_M_isAwaited_21, go_M_isAwaited_22, go_M_isAwaited_23, go_M_isAwaited_26, go_M_isAwaited_27, go_M_isAwaited_30, go_M_isAwaited_31, go_M_isAwaited_32, go_M_isAwaited_35, go_M_isAwaited_36, go_M_isAwaited_39, go_M_isAwaited_40, go_M_isAwaited_41, go_M_isAwaited_44, go_M_isAwaited_47, go_M_isAwaited_48, at_M_isAwaited_0, at_M_isAwaited_4, tf_M_isAwaited_51, tf_M_isAwaited_60, tf_M_isAwaited_100, s_opt, s_oI, s_oL, s_oA, s_oAN, s_set0, s_set1, s_setn0, s_setn1, s_ok0, s_okn, s_oki, s_okr, s_okN, s_oko, s_oks, s_c1i, s_c1r, s_c1n, s_fi, s_fr, s_fn, s_fl, s_fz, s_rd, s_pt, s_ai, s_lds, s_ldsN, s_al, s_ar, s_cls, s_leni, s_lenz, s_lenr, s_lenN, s_lenl, s_rc0, s_rc1, s_rcv, s_clo, s_clx, s_cln, s_cl1, s_cl2, s_cl3, s_cl4, s_cl5, s_sw1, s_sw2, s_min0, s_min1, s_min2, List.getElem?_cons_zero, List.getElem?_cons_succ, List.take_succ_cons, List.take_zero, List.length_cons, List.length_nil, List.set_cons_zero, List.set_cons_succ, List.cons_append, List.nil_append, Option.toList_some, Option.toList_none, Nat.reduceAdd, Nat.reduceSub, Nat.reduceLeDiff, Nat.reduceLT, Nat.reduceEqDiff, Nat.zero_add, Nat.add_zero, Nat.le_refl, Nat.zero_le, true_and, and_true, true_or, or_true, or_false, false_or, and_self, not_false_eq_true, Nat.one_ne_zero, Nat.zero_ne_one, reduceCtorEq, false_and, and_false, g_ent, lg_sl, List.flatMap_cons, List.flatMap_nil, List.map_cons, List.map_nil, Value.category, ite_true, ite_false, if_true, if_false, if_pos, gEl, Option.isSome_some, s_c12, s_p12, s_c16, s_p16, s_c20, s_p20, s_c30, s_p30, s_c60, s_p60, s_c100, s_p100, s_c500, s_p500, s_c61, s_p61, s_c1952, s_p1952, s_c732, s_p732, s_c1830, s_p1830, s_c2000, s_p2000, not_true_eq_false, true_implies, false_implies, implies_true, hm, h0, h1, h2, h3, h4, h5, h6, h7, h8, h9, h10, h11, h12, h13, h14, h15, h16, gA, gM, gN, g_up_s, ne_eq, Nat.reduceEqDiff, hcl]
    refine pk_le (rK R) i (fun h => ?_) (fun h => ?_)
    · have e0 : i = rK R := by omega
      rw [e0]
      exact ⟨b2i_01 _, hP⟩
    · have hbi := hb i h
      have e5 : m_any (r_pw (rAn R) (rAw R) x) (i + 1) = (m_any (r_pw (rAn R) (rAw R) x) i || r_pw (rAn R) (rAw R) x i) := rfl
      have go : ∀ y, y = b2i (m_any (r_pw (rAn R) (rAw R) x) (i + 1)) → ∃ k', k' < rK R - i ∧ iv_M_any σ' (rK R) [some (.ref m), some (.int (nI x))] (m_any (r_pw (rAn R) (rAw R) x)) 4 k' 4 [some (.ref m), some (.int (nI x)), some (.int y), some (.int (nI i + 1))] [] σ' 0 0 := by
        intro y hy
        exact ⟨rK R - (i + 1), by omega, i + 1, by omega, rfl, rfl, by rw [hy, nI_1]; rfl, rfl, rfl, rfl, rfl⟩
      refine pk_bn (m_any (r_pw (rAn R) (rAw R) x) i) (fun hb => ?_) (fun hb => ⟨pk_in i 2000 (by omega), pk_ne (rAn R i) x (fun hne => ?_) (fun he => ⟨pk_in i 2000 (by omega), pk_b (rAw R i) (fun hw => ?_) (fun hw => ?_)⟩)⟩)
      · exact go _ (by rw [e5, hb]; rfl)
      · exact go _ (by rw [e5, hb]; simp [r_pw, hne, b2i])
      · exact go _ (by rw [e5, hb]; simp [r_pw, hw, b2i])
      · exact go _ (by rw [e5, hb]; simp [r_pw, hw, he, b2i])
def r_pc (an : Nat → Nat) (aa aw : Nat → Bool) (x : Nat) (al : Bool) (k : Nat) : Bool := decide (an k = x) && (!aw k && (al || aa k))
def r_can (an : Nat → Nat) (aa aw : Nat → Bool) (K x : Nat) (al : Bool) : Bool := !m_any (r_pc an aa aw x al) K
def sp_M_can : gSpec := fun av σ P => ∃ (m : Nat) (A : Nat → Nat) (cd : Int32) (R : mR) (x : Nat) (al : Bool), av = [.ref m, .int (nI x), .int (b2i al)] ∧ rR σ m A cd R ∧ bK R ∧ x < 100 ∧ P (some (.int (b2i (r_can (rAn R) (rAa R) (rAw R) (rK R) x al)))) σ
def T_M_can : gT := gTT [(51, 7, 16, 1, 2), (57, 7, 18, 1, 2), (60, 7, 19, 1, 2), (100, 7, 20, 0, 1)] [] [] [] [] []
theorem tf_M_can_51 : (T_M_can).1 51 = some (7, 16, 1, 2) := rfl
theorem tf_M_can_57 : (T_M_can).1 57 = some (7, 18, 1, 2) := rfl
theorem tf_M_can_60 : (T_M_can).1 60 = some (7, 19, 1, 2) := rfl
theorem tf_M_can_100 : (T_M_can).1 100 = some (7, 20, 0, 1) := rfl
theorem t_M_can (l : Launch) (sc : gX) : g_TOK l sc (gRm 1 0 0) (T_M_can) gEl "DataSetsModel" gCl gTb gNs gAT gAO := gTT_ok
  (List.forall_mem_cons.mpr ⟨⟨R_M, F_M, 21, t_M 16, rfl, by decide, rfl, by decide +kernel, rfl, by decide, Or.inl ⟨wd408, by decide⟩⟩, List.forall_mem_cons.mpr ⟨⟨R_M, F_M, 21, t_M 18, rfl, by decide, rfl, by decide +kernel, rfl, by decide, Or.inl ⟨wd410, by decide⟩⟩, List.forall_mem_cons.mpr ⟨⟨R_M, F_M, 21, t_M 19, rfl, by decide, rfl, by decide +kernel, rfl, by decide, Or.inl ⟨wd411, by decide⟩⟩, List.forall_mem_cons.mpr ⟨⟨R_M, F_M, 21, t_M 20, rfl, by decide, rfl, by decide +kernel, rfl, by decide, Or.inl ⟨wd412, by decide⟩⟩, fun _ h => absurd h List.not_mem_nil⟩⟩⟩⟩)
  (fun _ h => absurd h List.not_mem_nil)
  (fun _ h => absurd h List.not_mem_nil)
  (fun _ h => absurd h List.not_mem_nil)
  (fun _ h => absurd h List.not_mem_nil)
  (fun _ h => absurd h List.not_mem_nil)
set_option maxHeartbeats 4000000 in
set_option maxRecDepth 100000 in
theorem k_M_can (l : Launch) (sc : gX) : g_Met l sc gCl gTb gNs gAT gAO y_M_can b_M_can 5 (some .boolean) (gRm 1 0 0) (sp_M_can) 0 0 := by
  refine g_meth (T := (T_M_can)) (el := gEl) (ini := false) (rk := 2) (code := c_M_can) gG_ok (t_M_can l sc) (by decide) (by decide) rfl ⟨rfl, rfl, by decide, by decide⟩ ok_M_can ?_
  intro av σ P hsp
  obtain ⟨m, A, cd, R, x, al, rfl, hR, ⟨hk, hb⟩, hx, hP⟩ := hsp
  obtain ⟨hm, h0, h1, h2, h3, h4, h5, h6, h7, h8, h9, h10, h11, h12, h13, h14, h15, h16, hA⟩ := id hR
  have gA := gA_of hA
  have gM := gM_of hA
  have gN := gN_of hA
  refine ⟨by simp [lg_sl, Value.category], iv_M_any σ (rK R) [some (.ref m), some (.int (nI x)), some (.int (b2i al))] (fun i => !m_any (r_pc (rAn R) (rAa R) (rAw R) x al) i) 5, ⟨200, ?_⟩, ?_⟩
  · simp only [w_iconst, w_istore_3, w_istore, w_iload, w_aload_0, w_get, w_icmp_ge, w_iload_3, w_if_eq, w_iald, w_iload_1, w_icmp_ne, w_bald, w_if_ne, w_iload_2, w_goto, w_iinc, w_iret, go_M_can_0, go_M_can_1, go_M_can_2, go_M_can_3, go_M_can_5, go_M_can_7, go_M_can_8, go_M_can_11, go_M_can_14, go_M_can_15, go_M_can_18, go_M_can_19, go_M_can_22, go_M_can_24, go_M_can_25, go_M_can_26, go_M_can_29, go_M_can_30, go_M_can_33, go_M_can_35, go_M_can_36, go_M_can_39, go_M_can_40, go_M_can_43, go_M_can_44, go_M_can_47, go_M_can_49, go_M_can_50, go_M_can_53, go_M_can_54, go_M_can_57, go_M_can_58, go_M_can_59, go_M_can_62, go_M_can_65, go_M_can_66, at_M_can_0, at_M_can_5, tf_M_can_51, tf_M_can_57, tf_M_can_60, tf_M_can_100, s_opt, s_oI, s_oL, s_oA, s_oAN, s_set0, s_set1, s_setn0, s_setn1, s_ok0, s_okn, s_oki, s_okr, s_okN, s_oko, s_oks, s_c1i, s_c1r, s_c1n, s_fi, s_fr, s_fn, s_fl, s_fz, s_rd, s_pt, s_ai, s_lds, s_ldsN, s_al, s_ar, s_cls, s_leni, s_lenz, s_lenr, s_lenN, s_lenl, s_rc0, s_rc1, s_rcv, s_clo, s_clx, s_cln, s_cl1, s_cl2, s_cl3, s_cl4, s_cl5, s_sw1, s_sw2, s_min0, s_min1, s_min2, List.getElem?_cons_zero, List.getElem?_cons_succ, List.take_succ_cons, List.take_zero, List.length_cons, List.length_nil, List.set_cons_zero, List.set_cons_succ, List.cons_append, List.nil_append, Option.toList_some, Option.toList_none, Nat.reduceAdd, Nat.reduceSub, Nat.reduceLeDiff, Nat.reduceLT, Nat.reduceEqDiff, Nat.zero_add, Nat.add_zero, Nat.le_refl, Nat.zero_le, true_and, and_true, true_or, or_true, or_false, false_or, and_self, not_false_eq_true, Nat.one_ne_zero, Nat.zero_ne_one, reduceCtorEq, false_and, and_false, g_ent, lg_sl, List.flatMap_cons, List.flatMap_nil, List.map_cons, List.map_nil, Value.category, ite_true, ite_false, if_true, if_false, if_pos, gEl, Option.isSome_some, s_c12, s_p12, s_c16, s_p16, s_c20, s_p20, s_c30, s_p30, s_c60, s_p60, s_c100, s_p100, s_c500, s_p500, s_c61, s_p61, s_c1952, s_p1952, s_c732, s_p732, s_c1830, s_p1830, s_c2000, s_p2000, not_true_eq_false, true_implies, false_implies, implies_true]
    exact ⟨rK R, 0, Nat.zero_le _, rfl, rfl, rfl, rfl, rfl, rfl, rfl⟩
  · rintro k pc lv st σ' c z ⟨i, hi, rfl, rfl, rfl, rfl, rfl, rfl, rfl⟩
    refine ⟨200, ?_⟩
    have hcl : (nI i).toNatClampNeg = i := pk_cl i
    simp only [w_iconst, w_istore_3, w_istore, w_iload, w_aload_0, w_get, w_icmp_ge, w_iload_3, w_if_eq, w_iald, w_iload_1, w_icmp_ne, w_bald, w_if_ne, w_iload_2, w_goto, w_iinc, w_iret, go_M_can_0, go_M_can_1, go_M_can_2, go_M_can_3, go_M_can_5, go_M_can_7, go_M_can_8, go_M_can_11, go_M_can_14, go_M_can_15, go_M_can_18, go_M_can_19, go_M_can_22, go_M_can_24, go_M_can_25, go_M_can_26, go_M_can_29, go_M_can_30, go_M_can_33, go_M_can_35, go_M_can_36, go_M_can_39, go_M_can_40, go_M_can_43, go_M_can_44, go_M_can_47, go_M_can_49, go_M_can_50, go_M_can_53, go_M_can_54, go_M_can_57, go_M_can_58, go_M_can_59, go_M_can_62, go_M_can_65, go_M_can_66, at_M_can_0, at_M_can_5, tf_M_can_51, tf_M_can_57, tf_M_can_60, tf_M_can_100, s_opt, s_oI, s_oL, s_oA, s_oAN, s_set0, s_set1, s_setn0, s_setn1, s_ok0, s_okn, s_oki, s_okr, s_okN, s_oko, s_oks, s_c1i, s_c1r, s_c1n, s_fi, s_fr, s_fn, s_fl, s_fz, s_rd, s_pt, s_ai, s_lds, s_ldsN, s_al, s_ar, s_cls, s_leni, s_lenz, s_lenr, s_lenN, s_lenl, s_rc0, s_rc1, s_rcv, s_clo, s_clx, s_cln, s_cl1, s_cl2, s_cl3, s_cl4, s_cl5, s_sw1, s_sw2, s_min0, s_min1, s_min2, List.getElem?_cons_zero, List.getElem?_cons_succ, List.take_succ_cons, List.take_zero, List.length_cons, List.length_nil, List.set_cons_zero, List.set_cons_succ, List.cons_append, List.nil_append, Option.toList_some, Option.toList_none, Nat.reduceAdd, Nat.reduceSub, Nat.reduceLeDiff, Nat.reduceLT, Nat.reduceEqDiff, Nat.zero_add, Nat.add_zero, Nat.le_refl, Nat.zero_le, true_and, and_true, true_or, or_true, or_false, false_or, and_self, not_false_eq_true, Nat.one_ne_zero, Nat.zero_ne_one, reduceCtorEq, false_and, and_false, g_ent, lg_sl, List.flatMap_cons, List.flatMap_nil, List.map_cons, List.map_nil, Value.category, ite_true, ite_false, if_true, if_false, if_pos, gEl, Option.isSome_some, s_c12, s_p12, s_c16, s_p16, s_c20, s_p20, s_c30, s_p30, s_c60, s_p60, s_c100, s_p100, s_c500, s_p500, s_c61, s_p61, s_c1952, s_p1952, s_c732, s_p732, s_c1830, s_p1830, s_c2000, s_p2000, not_true_eq_false, true_implies, false_implies, implies_true, hm, h0, h1, h2, h3, h4, h5, h6, h7, h8, h9, h10, h11, h12, h13, h14, h15, h16, gA, gM, gN, g_up_s, ne_eq, Nat.reduceEqDiff, hcl]
    refine pk_le (rK R) i (fun h => ?_) (fun h => ?_)
    · have e0 : i = rK R := by omega
      rw [e0]
      exact ⟨b2i_01 _, hP⟩
    · have hbi := hb i h
      have e5 : m_any (r_pc (rAn R) (rAa R) (rAw R) x al) (i + 1) = (m_any (r_pc (rAn R) (rAa R) (rAw R) x al) i || r_pc (rAn R) (rAa R) (rAw R) x al i) := rfl
      have go : ∀ y, y = b2i (!m_any (r_pc (rAn R) (rAa R) (rAw R) x al) (i + 1)) → ∃ k', k' < rK R - i ∧ iv_M_any σ' (rK R) [some (.ref m), some (.int (nI x)), some (.int (b2i al))] (fun i => !m_any (r_pc (rAn R) (rAa R) (rAw R) x al) i) 5 k' 5 [some (.ref m), some (.int (nI x)), some (.int (b2i al)), some (.int y), some (.int (nI i + 1))] [] σ' 0 0 := by
        intro y hy
        exact ⟨rK R - (i + 1), by omega, i + 1, by omega, rfl, rfl, by rw [hy, nI_1]; rfl, rfl, rfl, rfl, rfl⟩
      have q1 : vp_in (nI i) 2000 := pk_in i 2000 (by omega)
      refine pk_b (!m_any (r_pc (rAn R) (rAa R) (rAw R) x al) i) (fun hb => ?_) (fun hb => ⟨q1, pk_ne (rAn R i) x (fun hne => ?_) (fun he => ⟨q1, pk_bn (rAw R i) (fun hw => ?_) (fun hw => pk_bn al (fun ha => ?_) (fun ha => ⟨q1, pk_bn (rAa R i) (fun ha2 => ?_) (fun ha2 => ?_)⟩))⟩)⟩)
      · exact go _ (by rw [e5, show m_any (r_pc (rAn R) (rAa R) (rAw R) x al) i = true by simpa using hb]; rfl)
      · exact go _ (by rw [e5, show m_any (r_pc (rAn R) (rAa R) (rAw R) x al) i = false by simpa using hb]; simp [r_pc, hne, b2i])
      · exact go _ (by rw [e5, show m_any (r_pc (rAn R) (rAa R) (rAw R) x al) i = false by simpa using hb]; simp [r_pc, hw, b2i])
      · exact go _ (by rw [e5]; simp [r_pc, hw, he, ha, b2i])
      · exact go _ (by rw [e5]; simp [r_pc, hw, he, ha2, b2i])
      · exact go _ (by rw [e5, show m_any (r_pc (rAn R) (rAa R) (rAw R) x al) i = false by simpa using hb]; simp [r_pc, ha, ha2, b2i])
/-- who waits for x gets it, in their order, as long as the first of them can -/
def r_gr (an : Nat → Nat) (aa : Nat → Bool) (K x : Nat) : Nat → Nat → (Nat → Bool) → (Nat → Bool)
  | 0, _, aw => aw
  | f + 1, k, aw => if an k = x ∧ aw k = true then (if r_can an aa aw K x (aa k) = true then r_gr an aa K x f (k + 1) (va_up aw k false) else aw) else r_gr an aa K x f (k + 1) aw
def sW (R : mR) (aw : Nat → Bool) : mR := sAsk R (rAn R) (rAj R) (rAa R) aw (rK R)
def sp_M_grant : gSpec := fun av σ P => ∃ (m : Nat) (A : Nat → Nat) (cd : Int32) (R : mR) (x : Nat), av = [.ref m, .int (nI x)] ∧ rR σ m A cd R ∧ bK R ∧ x < 100 ∧ ∀ σ', rR σ' m A cd (sW R (r_gr (rAn R) (rAa R) (rK R) x (rK R) 0 (rAw R))) → P none σ'
def iv_M_grant (m : Nat) (A : Nat → Nat) (cd : Int32) (R : mR) (x : Nat) : Nat → gK := fun k pc lv st σ' c z => ∃ i aw, i ≤ rK R ∧ k = rK R - i ∧ pc = 2 ∧ lv = [some (.ref m), some (.int (nI x)), some (.int (nI i))] ∧ st = [] ∧ rR σ' m A cd (sW R aw) ∧ c = 0 ∧ z = 0 ∧ r_gr (rAn R) (rAa R) (rK R) x (rK R - i) i aw = r_gr (rAn R) (rAa R) (rK R) x (rK R) 0 (rAw R)
def T_M_grant : gT := gTT [(51, 7, 16, 1, 2), (57, 7, 18, 1, 2), (60, 7, 19, 1, 2), (100, 7, 20, 0, 1)] [(109, 3, 9, sp_M_can, 0, 0)] [] [] [] []
theorem tf_M_grant_51 : (T_M_grant).1 51 = some (7, 16, 1, 2) := rfl
theorem tf_M_grant_57 : (T_M_grant).1 57 = some (7, 18, 1, 2) := rfl
theorem tf_M_grant_60 : (T_M_grant).1 60 = some (7, 19, 1, 2) := rfl
theorem tf_M_grant_100 : (T_M_grant).1 100 = some (7, 20, 0, 1) := rfl
theorem tc_M_grant_109 : (T_M_grant).2.1 109 = some (3, 9, sp_M_can, 0, 0) := rfl
theorem tm_M_grant_109 : (T_M_grant).2.2.2.2.2 109 = none := rfl
theorem t_M_grant (l : Launch) (sc : gX) : g_TOK l sc (gRm 2 0 0) (T_M_grant) gEl "DataSetsModel" gCl gTb gNs gAT gAO := gTT_ok
  (List.forall_mem_cons.mpr ⟨⟨R_M, F_M, 21, t_M 16, rfl, by decide, rfl, by decide +kernel, rfl, by decide, Or.inl ⟨wd408, by decide⟩⟩, List.forall_mem_cons.mpr ⟨⟨R_M, F_M, 21, t_M 18, rfl, by decide, rfl, by decide +kernel, rfl, by decide, Or.inl ⟨wd410, by decide⟩⟩, List.forall_mem_cons.mpr ⟨⟨R_M, F_M, 21, t_M 19, rfl, by decide, rfl, by decide +kernel, rfl, by decide, Or.inl ⟨wd411, by decide⟩⟩, List.forall_mem_cons.mpr ⟨⟨R_M, F_M, 21, t_M 20, rfl, by decide, rfl, by decide +kernel, rfl, by decide, Or.inl ⟨wd412, by decide⟩⟩, fun _ h => absurd h List.not_mem_nil⟩⟩⟩⟩)
  (List.forall_mem_cons.mpr ⟨⟨y_M_can, b_M_can, 5, _, gRm 1 0 0, k_M_can l sc, rfl, rfl, by decide, by decide, wd540, wd27, ⟨by decide, by decide⟩, Or.inl wd537, ⟨by decide +kernel, wd539, R_M, F_M, 21, rfl, wd21⟩⟩, fun _ h => absurd h List.not_mem_nil⟩)
  (fun _ h => absurd h List.not_mem_nil)
  (fun _ h => absurd h List.not_mem_nil)
  (fun _ h => absurd h List.not_mem_nil)
  (fun _ h => absurd h List.not_mem_nil)
set_option maxHeartbeats 4000000 in
set_option maxRecDepth 100000 in
theorem k_M_grant (l : Launch) (sc : gX) : g_Met l sc gCl gTb gNs gAT gAO y_M_grant b_M_grant 3 none (gRm 2 0 0) (sp_M_grant) 0 0 := by
  refine g_meth (T := (T_M_grant)) (el := gEl) (ini := false) (rk := 0) (code := c_M_grant) gG_ok (t_M_grant l sc) (by decide) (by decide) rfl ⟨rfl, rfl, by decide, by decide⟩ ok_M_grant ?_
  intro av σ P hsp
  obtain ⟨m, A, cd, R, x, rfl, hR, hbK, hx, hP⟩ := hsp
  obtain ⟨hk, hb⟩ := id hbK
  refine ⟨by simp [lg_sl, Value.category], iv_M_grant m A cd R x, ⟨200, ?_⟩, ?_⟩
  · simp only [w_iconst, w_istore_2, w_iload_2, w_aload_0, w_get, w_icmp_ge, w_iald, w_iload_1, w_icmp_ne, w_bald, w_if_ne, w_goto, w_invokevirtual, w_ret, w_bast, w_iinc, go_M_grant_0, go_M_grant_1, go_M_grant_2, go_M_grant_3, go_M_grant_4, go_M_grant_7, go_M_grant_10, go_M_grant_11, go_M_grant_14, go_M_grant_15, go_M_grant_16, go_M_grant_17, go_M_grant_20, go_M_grant_21, go_M_grant_24, go_M_grant_25, go_M_grant_26, go_M_grant_29, go_M_grant_32, go_M_grant_33, go_M_grant_34, go_M_grant_35, go_M_grant_38, go_M_grant_39, go_M_grant_40, go_M_grant_43, go_M_grant_46, go_M_grant_47, go_M_grant_48, go_M_grant_51, go_M_grant_52, go_M_grant_53, go_M_grant_54, go_M_grant_57, go_M_grant_60, at_M_grant_0, at_M_grant_2, tf_M_grant_51, tf_M_grant_57, tf_M_grant_60, tf_M_grant_100, tc_M_grant_109, tm_M_grant_109, s_opt, s_oI, s_oL, s_oA, s_oAN, s_set0, s_set1, s_setn0, s_setn1, s_ok0, s_okn, s_oki, s_okr, s_okN, s_oko, s_oks, s_c1i, s_c1r, s_c1n, s_fi, s_fr, s_fn, s_fl, s_fz, s_rd, s_pt, s_ai, s_lds, s_ldsN, s_al, s_ar, s_cls, s_leni, s_lenz, s_lenr, s_lenN, s_lenl, s_rc0, s_rc1, s_rcv, s_clo, s_clx, s_cln, s_cl1, s_cl2, s_cl3, s_cl4, s_cl5, s_sw1, s_sw2, s_min0, s_min1, s_min2, List.getElem?_cons_zero, List.getElem?_cons_succ, List.take_succ_cons, List.take_zero, List.length_cons, List.length_nil, List.set_cons_zero, List.set_cons_succ, List.cons_append, List.nil_append, Option.toList_some, Option.toList_none, Nat.reduceAdd, Nat.reduceSub, Nat.reduceLeDiff, Nat.reduceLT, Nat.reduceEqDiff, Nat.zero_add, Nat.add_zero, Nat.le_refl, Nat.zero_le, true_and, and_true, true_or, or_true, or_false, false_or, and_self, not_false_eq_true, Nat.one_ne_zero, Nat.zero_ne_one, reduceCtorEq, false_and, and_false, g_ent, lg_sl, List.flatMap_cons, List.flatMap_nil, List.map_cons, List.map_nil, Value.category, ite_true, ite_false, if_true, if_false, if_pos, gEl, Option.isSome_some, s_c12, s_p12, s_c16, s_p16, s_c20, s_p20, s_c30, s_p30, s_c60, s_p60, s_c100, s_p100, s_c500, s_p500, s_c61, s_p61, s_c1952, s_p1952, s_c732, s_p732, s_c1830, s_p1830, s_c2000, s_p2000, not_true_eq_false, true_implies, false_implies, implies_true]
    exact ⟨rK R, 0, rAw R, Nat.zero_le _, rfl, rfl, rfl, rfl, hR, rfl, rfl, rfl⟩
  · rintro k pc lv st σ' c z ⟨i, aw, hi, rfl, rfl, rfl, rfl, hRi, rfl, rfl, hans⟩
    refine ⟨200, ?_⟩
    obtain ⟨hm, h0, h1, h2, h3, h4, h5, h6, h7, h8, h9, h10, h11, h12, h13, h14, h15, h16, hA⟩ := id hRi
    have gA := gA_of hA
    have gM := gM_of hA
    have gN := gN_of hA
    have hcl : (nI i).toNatClampNeg = i := pk_cl i
    simp only [w_iconst, w_istore_2, w_iload_2, w_aload_0, w_get, w_icmp_ge, w_iald, w_iload_1, w_icmp_ne, w_bald, w_if_ne, w_goto, w_invokevirtual, w_ret, w_bast, w_iinc, go_M_grant_0, go_M_grant_1, go_M_grant_2, go_M_grant_3, go_M_grant_4, go_M_grant_7, go_M_grant_10, go_M_grant_11, go_M_grant_14, go_M_grant_15, go_M_grant_16, go_M_grant_17, go_M_grant_20, go_M_grant_21, go_M_grant_24, go_M_grant_25, go_M_grant_26, go_M_grant_29, go_M_grant_32, go_M_grant_33, go_M_grant_34, go_M_grant_35, go_M_grant_38, go_M_grant_39, go_M_grant_40, go_M_grant_43, go_M_grant_46, go_M_grant_47, go_M_grant_48, go_M_grant_51, go_M_grant_52, go_M_grant_53, go_M_grant_54, go_M_grant_57, go_M_grant_60, at_M_grant_0, at_M_grant_2, tf_M_grant_51, tf_M_grant_57, tf_M_grant_60, tf_M_grant_100, tc_M_grant_109, tm_M_grant_109, s_opt, s_oI, s_oL, s_oA, s_oAN, s_set0, s_set1, s_setn0, s_setn1, s_ok0, s_okn, s_oki, s_okr, s_okN, s_oko, s_oks, s_c1i, s_c1r, s_c1n, s_fi, s_fr, s_fn, s_fl, s_fz, s_rd, s_pt, s_ai, s_lds, s_ldsN, s_al, s_ar, s_cls, s_leni, s_lenz, s_lenr, s_lenN, s_lenl, s_rc0, s_rc1, s_rcv, s_clo, s_clx, s_cln, s_cl1, s_cl2, s_cl3, s_cl4, s_cl5, s_sw1, s_sw2, s_min0, s_min1, s_min2, List.getElem?_cons_zero, List.getElem?_cons_succ, List.take_succ_cons, List.take_zero, List.length_cons, List.length_nil, List.set_cons_zero, List.set_cons_succ, List.cons_append, List.nil_append, Option.toList_some, Option.toList_none, Nat.reduceAdd, Nat.reduceSub, Nat.reduceLeDiff, Nat.reduceLT, Nat.reduceEqDiff, Nat.zero_add, Nat.add_zero, Nat.le_refl, Nat.zero_le, true_and, and_true, true_or, or_true, or_false, false_or, and_self, not_false_eq_true, Nat.one_ne_zero, Nat.zero_ne_one, reduceCtorEq, false_and, and_false, g_ent, lg_sl, List.flatMap_cons, List.flatMap_nil, List.map_cons, List.map_nil, Value.category, ite_true, ite_false, if_true, if_false, if_pos, gEl, Option.isSome_some, s_c12, s_p12, s_c16, s_p16, s_c20, s_p20, s_c30, s_p30, s_c60, s_p60, s_c100, s_p100, s_c500, s_p500, s_c61, s_p61, s_c1952, s_p1952, s_c732, s_p732, s_c1830, s_p1830, s_c2000, s_p2000, not_true_eq_false, true_implies, false_implies, implies_true, hm, h0, h1, h2, h3, h4, h5, h6, h7, h8, h9, h10, h11, h12, h13, h14, h15, h16, gA, gM, gN, g_up_s, ne_eq, Nat.reduceEqDiff, hcl]
    refine pk_le (rK R) i (fun h => ?_) (fun h => ?_)
    · have e0 : i = rK R := by omega
      rw [e0, Nat.sub_self] at hans
      have e1 : aw = r_gr (rAn R) (rAa R) (rK R) x (rK R) 0 (rAw R) := hans
      rw [← e1] at hP
      exact hP σ' hRi
    · have hbi := hb i h
      have hfr : r_gr (rAn R) (rAa R) (rK R) x (rK R - i) i aw = if rAn R i = x ∧ aw i = true then (if r_can (rAn R) (rAa R) aw (rK R) x (rAa R i) = true then r_gr (rAn R) (rAa R) (rK R) x (rK R - (i + 1)) (i + 1) (va_up aw i false) else aw) else r_gr (rAn R) (rAa R) (rK R) x (rK R - (i + 1)) (i + 1) aw := by
        rw [show rK R - i = (rK R - (i + 1)) + 1 by omega]
        rfl
      have q1 : vp_in (nI i) 2000 := pk_in i 2000 (by omega)
      refine ⟨q1, pk_ne (rAn R i) x (fun hne => ?_) (fun he => ⟨q1, pk_bn (aw i) (fun hw => ?_) (fun hw => ?_)⟩)⟩
      · rw [if_neg (fun z => hne z.1)] at hfr
        exact ⟨rK R - (i + 1), by omega, i + 1, aw, by omega, rfl, rfl, by rw [nI_1], rfl, hRi, rfl, rfl, by rw [← hfr]; exact hans⟩
      · rw [if_pos ⟨he, hw⟩] at hfr
        refine ⟨q1, m, A, cd, sW R aw, x, rAa R i, rfl, hRi, hbK, hx, ?_⟩
        simp only [w_iconst, w_istore_2, w_iload_2, w_aload_0, w_get, w_icmp_ge, w_iald, w_iload_1, w_icmp_ne, w_bald, w_if_ne, w_goto, w_invokevirtual, w_ret, w_bast, w_iinc, go_M_grant_0, go_M_grant_1, go_M_grant_2, go_M_grant_3, go_M_grant_4, go_M_grant_7, go_M_grant_10, go_M_grant_11, go_M_grant_14, go_M_grant_15, go_M_grant_16, go_M_grant_17, go_M_grant_20, go_M_grant_21, go_M_grant_24, go_M_grant_25, go_M_grant_26, go_M_grant_29, go_M_grant_32, go_M_grant_33, go_M_grant_34, go_M_grant_35, go_M_grant_38, go_M_grant_39, go_M_grant_40, go_M_grant_43, go_M_grant_46, go_M_grant_47, go_M_grant_48, go_M_grant_51, go_M_grant_52, go_M_grant_53, go_M_grant_54, go_M_grant_57, go_M_grant_60, at_M_grant_0, at_M_grant_2, tf_M_grant_51, tf_M_grant_57, tf_M_grant_60, tf_M_grant_100, tc_M_grant_109, tm_M_grant_109, s_opt, s_oI, s_oL, s_oA, s_oAN, s_set0, s_set1, s_setn0, s_setn1, s_ok0, s_okn, s_oki, s_okr, s_okN, s_oko, s_oks, s_c1i, s_c1r, s_c1n, s_fi, s_fr, s_fn, s_fl, s_fz, s_rd, s_pt, s_ai, s_lds, s_ldsN, s_al, s_ar, s_cls, s_leni, s_lenz, s_lenr, s_lenN, s_lenl, s_rc0, s_rc1, s_rcv, s_clo, s_clx, s_cln, s_cl1, s_cl2, s_cl3, s_cl4, s_cl5, s_sw1, s_sw2, s_min0, s_min1, s_min2, List.getElem?_cons_zero, List.getElem?_cons_succ, List.take_succ_cons, List.take_zero, List.length_cons, List.length_nil, List.set_cons_zero, List.set_cons_succ, List.cons_append, List.nil_append, Option.toList_some, Option.toList_none, Nat.reduceAdd, Nat.reduceSub, Nat.reduceLeDiff, Nat.reduceLT, Nat.reduceEqDiff, Nat.zero_add, Nat.add_zero, Nat.le_refl, Nat.zero_le, true_and, and_true, true_or, or_true, or_false, false_or, and_self, not_false_eq_true, Nat.one_ne_zero, Nat.zero_ne_one, reduceCtorEq, false_and, and_false, g_ent, lg_sl, List.flatMap_cons, List.flatMap_nil, List.map_cons, List.map_nil, Value.category, ite_true, ite_false, if_true, if_false, if_pos, gEl, Option.isSome_some, s_c12, s_p12, s_c16, s_p16, s_c20, s_p20, s_c30, s_p30, s_c60, s_p60, s_c100, s_p100, s_c500, s_p500, s_c61, s_p61, s_c1952, s_p1952, s_c732, s_p732, s_c1830, s_p1830, s_c2000, s_p2000, not_true_eq_false, true_implies, false_implies, implies_true, hm, h0, h1, h2, h3, h4, h5, h6, h7, h8, h9, h10, h11, h12, h13, h14, h15, h16, gA, gM, gN, g_up_s, ne_eq, Nat.reduceEqDiff, hcl]
        refine pk_bn (r_can (rAn R) (rAa R) aw (rK R) x (rAa R i)) (fun hcn => ?_) (fun hcn => ?_)
        · rw [if_pos hcn] at hfr
          refine ⟨q1, rK R - (i + 1), by omega, i + 1, va_up aw i false, by omega, rfl, rfl, by rw [nI_1], rfl, ?_, rfl, rfl, by rw [← hfr]; exact hans⟩
          (refine ⟨?_, ?_, ?_, ?_, ?_, ?_, ?_, ?_, ?_, ?_, ?_, ?_, ?_, ?_, ?_, ?_, ?_, ?_, hA⟩ <;> simp only [hm, h0, h1, h2, h3, h4, h5, h6, h7, h8, h9, h10, h11, h12, h13, h14, h15, h16, gA, gM, gN, g_up_s, g_up_up, ne_eq, Nat.reduceEqDiff, Nat.reduceLT, not_false_eq_true, Nat.reduceLeDiff, Nat.one_ne_zero, Nat.zero_ne_one, m_updN, m_updB, m_updB1, m_updB0, reduceCtorEq, rN, rO, rS, rG, rNm, rFu, rGv, rMy, rEx, rGd, rMn, rMf, rMz, rAv, rTl, rAn, rAj, rAa, rAw, rK, sW, sAsk])
        · rw [if_neg (by rw [hcn]; decide)] at hfr
          rw [← hans, hfr] at hP
          exact hP σ' hRi
      · rw [if_neg (fun z => by rw [hw] at z; cases z.2)] at hfr
        exact ⟨rK R - (i + 1), by omega, i + 1, aw, by omega, rfl, rfl, by rw [nI_1], rfl, hRi, rfl, rfl, by rw [← hfr]; exact hans⟩
