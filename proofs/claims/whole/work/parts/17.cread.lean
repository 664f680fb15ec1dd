theorem ar_n {o : Option Nat} {A : Prop} {B : Nat → Prop} (h : o = none) (f : A) : (o = none → A) ∧ ∀ q, o = some q → B q := ⟨fun _ => f, fun q hq => by rw [h] at hq; cases hq⟩
theorem ar_s {o : Option Nat} {A : Prop} {B : Nat → Prop} {a : Nat} (h : o = some a) (f : B a) : (o = none → A) ∧ ∀ q, o = some q → B q := ⟨(fun z => by rw [h] at z; cases z), (fun q hq => by rw [h] at hq; cases hq; exact f)⟩
/-- N, taken, how many were made, the sets, the lines -/
abbrev mM : Type := Nat × (Nat → Bool) × Nat × (Nat → Option mS) × (Nat → Option mL)
def rLn (σ : gS) (ow : Nat → Nat) (b a : Nat) (L : mL) : Prop := ∃ j o, rLine σ a j o L.1 L.2.1 L.2.2.1 L.2.2.2 ∧ ow a = b ∧ ow j = b + 1 ∧ ow o = b + 2
def rC (σ : gS) (d : Nat) (ow : Nat → Nat) (v t sa la : Nat) (sets lines : Nat → Option Nat) (M : mM) : Prop :=
  σ d = some (g_ob 6 [.ref v, .ref sa, .ref la, .int (nI M.2.2.1)]) ∧ rVol σ v t M.1 M.2.1 ∧ σ sa = some (g_ra 3 60 sets) ∧ σ la = some (g_ra 4 100 lines) ∧ (ow d = 0 ∧ ow v = 1 ∧ ow t = 2 ∧ ow sa = 3 ∧ ow la = 4) ∧
  (∀ i, i < 60 → (sets i = none ∧ M.2.2.2.1 i = none) ∨ ∃ a S, sets i = some a ∧ M.2.2.2.1 i = some S ∧ rSet σ ow (16 * i + 16) a S) ∧
  (∀ n, n < 100 → (lines n = none ∧ M.2.2.2.2 n = none) ∨ ∃ a L, lines n = some a ∧ M.2.2.2.2 n = some L ∧ rLn σ ow (2000 + 4 * n) a L)
def RepC (σ : gS) (d : Nat) (M : mM) : Prop := ∃ ow v t sa la sets lines, rC σ d ow v t sa la sets lines M
def okS (N : Nat) (S : mS) : Prop := bExt S.2.1.1 S.2.1.2.1 S.2.1.2.2 ∧ (∀ j, j < S.2.1.1 → S.2.1.2.1 j + S.2.1.2.2 j ≤ N) ∧ bDir S.2.2.1.1 S.2.2.1.2.1 S.2.2.1.2.2.2.1 S.2.2.1.2.2.2.2 ∧ S.1.2.1 ≤ 500 ∧ S.1.1 < 100
def okM (M : mM) : Prop := M.1 ≤ 500 ∧ M.2.2.1 ≤ 60 ∧ (∀ i S, M.2.2.2.1 i = some S → i < M.2.2.1 ∧ okS M.1 S) ∧ ∀ n L, M.2.2.2.2 n = some L → bLine L.1 L.2.1 L.2.2.1
/-- the place of a set's number -/
def m_si (MS : Nat → Option mS) (x : Int32) : Option Nat := if 1 ≤ x ∧ x ≤ 60 then (if (MS (x - 1).toNatClampNeg).isSome then some (x - 1).toNatClampNeg else none) else none
theorem m_si_some {MS : Nat → Option mS} {x : Int32} {i : Nat} (h : m_si MS x = some i) : i < 60 ∧ x = nI (i + 1) ∧ ∃ S, MS i = some S := by
  unfold m_si at h
  split at h
  next hx =>
    split at h
    next hs =>
      cases h
      obtain ⟨j, hj, rfl⟩ := m_nn (Int32.le_trans (by decide) hx.1)
      have h1 := (nI_leI (a := 1) (by decide) hj).mp hx.1
      have h2 := (nI_leI (b := 60) hj (by decide)).mp hx.2
      have e1 : nI j - 1 = nI (j - 1) := pk_sub (a := j) (b := 1) h1
      rw [e1, pk_cl (j - 1)] at hs ⊢
      exact ⟨by omega, by rw [show j - 1 + 1 = j by omega], Option.isSome_iff_exists.mp hs⟩
    next => cases h
  next => cases h
theorem m_si_of {MS : Nat → Option mS} {i : Nat} (hi : i < 60) : m_si MS (nI (i + 1)) = if (MS i).isSome then some i else none := by
  unfold m_si
  rw [if_pos ⟨nI_le (a := 1) (by omega) (by omega), nI_le (b := 60) (by omega) (by decide)⟩, show nI (i + 1) - 1 = nI i from nI_pred i, pk_cl i]
def sp_C_setOf : gSpec := fun av σ P => ∃ (d : Nat) (ow : Nat → Nat) (v t sa la : Nat) (sets lines : Nat → Option Nat) (M : mM) (x : Int32), av = [.ref d, .int x] ∧ rC σ d ow v t sa la sets lines M ∧ (m_si M.2.2.2.1 x = none → P (some .null) σ) ∧ (∀ i a S, m_si M.2.2.2.1 x = some i → sets i = some a → M.2.2.2.1 i = some S → rSet σ ow (16 * i + 16) a S → P (some (.ref a)) σ)
def T_C_setOf : gT := gTT [(20, 6, 1, 1, 2)] [] [] [] [] []
theorem tf_C_setOf_20 : (T_C_setOf).1 20 = some (6, 1, 1, 2) := rfl
theorem t_C_setOf (l : Launch) (sc : gX) : g_TOK l sc (gRm 1 0 0) (T_C_setOf) gEl "DataSets" gCl gTb gNs gAT gAO := gTT_ok
  (List.forall_mem_cons.mpr ⟨⟨R_C, F_C, 4, t_C 1, rfl, by decide, rfl, by decide +kernel, rfl, by decide, Or.inl ⟨wd63, by decide⟩⟩, fun _ h => absurd h List.not_mem_nil⟩)
  (fun _ h => absurd h List.not_mem_nil)
  (fun _ h => absurd h List.not_mem_nil)
  (fun _ h => absurd h List.not_mem_nil)
  (fun _ h => absurd h List.not_mem_nil)
  (fun _ h => absurd h List.not_mem_nil)
set_option maxHeartbeats 4000000 in
set_option maxRecDepth 100000 in
theorem k_C_setOf (l : Launch) (sc : gX) : g_Met l sc gCl gTb gNs gAT gAO y_C_setOf b_C_setOf 2 (Option.some (Jvm.ClassFile.FieldType.object "DataSets$DataSet")) (gRm 1 0 0) (sp_C_setOf) 0 0 := by
  refine g_meth (T := (T_C_setOf)) (el := gEl) (ini := false) (rk := 3) (code := c_C_setOf) gG_ok (t_C_setOf l sc) (by decide) (by decide) ⟨_, rfl⟩ ⟨rfl, rfl, by decide, by decide⟩ ok_C_setOf ?_
  intro av σ P hsp
  obtain ⟨d, ow, v, t, sa, la, sets, lines, M, x, rfl, hR, hP1, hP2⟩ := hsp
  obtain ⟨hd, hv, hsa, hla, ho, hS, hL⟩ := id hR
  refine ⟨by simp [lg_sl, Value.category], fun _ _ _ _ _ _ _ => False, ⟨200, ?_⟩, fun _ _ _ _ _ _ _ h => h.elim⟩
  simp only [w_iload_1, w_iconst, w_icmp_lt, w_bipush, w_icmp_gt, w_aload_0, w_get, w_isub, w_aald, w_goto, w_null, w_aret, w_aretN, go_C_setOf_0, go_C_setOf_1, go_C_setOf_2, go_C_setOf_5, go_C_setOf_6, go_C_setOf_8, go_C_setOf_11, go_C_setOf_12, go_C_setOf_15, go_C_setOf_16, go_C_setOf_17, go_C_setOf_18, go_C_setOf_19, go_C_setOf_22, go_C_setOf_23, at_C_setOf_0, tf_C_setOf_20, s_opt, s_oI, s_oL, s_oA, s_oAN, s_set0, s_set1, s_setn0, s_setn1, s_ok0, s_okn, s_oki, s_okr, s_okN, s_oko, s_oks, s_c1i, s_c1r, s_c1n, s_fi, s_fr, s_fn, s_fl, s_fz, s_rd, s_pt, s_ai, s_lds, s_ldsN, s_al, s_ar, s_cls, s_leni, s_lenz, s_lenr, s_lenN, s_lenl, s_rc0, s_rc1, s_rcv, s_clo, s_clx, s_cln, s_cl1, s_cl2, s_cl3, s_cl4, s_cl5, s_sw1, s_sw2, s_min0, s_min1, s_min2, List.getElem?_cons_zero, List.getElem?_cons_succ, List.take_succ_cons, List.take_zero, List.length_cons, List.length_nil, List.set_cons_zero, List.set_cons_succ, List.cons_append, List.nil_append, Option.toList_some, Option.toList_none, Nat.reduceAdd, Nat.reduceSub, Nat.reduceLeDiff, Nat.reduceLT, Nat.reduceEqDiff, Nat.zero_add, Nat.add_zero, Nat.le_refl, Nat.zero_le, true_and, and_true, true_or, or_true, or_false, false_or, and_self, not_false_eq_true, Nat.one_ne_zero, Nat.zero_ne_one, reduceCtorEq, false_and, and_false, g_ent, lg_sl, List.flatMap_cons, List.flatMap_nil, List.map_cons, List.map_nil, Value.category, ite_true, ite_false, if_true, if_false, if_pos, gEl, Option.isSome_some, s_c12, s_p12, s_c16, s_p16, s_c20, s_p20, s_c30, s_p30, s_c60, s_p60, s_c100, s_p100, s_c500, s_p500, s_c61, s_p61, s_c1952, s_p1952, s_c732, s_p732, s_c1830, s_p1830, s_c2000, s_p2000, not_true_eq_false, true_implies, false_implies, implies_true, hd, hsa]
  have out : ¬ (1 ≤ x ∧ x ≤ 60) → P (some .null) σ := fun h => hP1 (by unfold m_si; rw [if_neg h])
  refine ⟨fun h => out (fun z => m_nle.mpr h z.1), fun h => ⟨fun h2 => out (fun z => m_nle.mpr h2 z.2), fun h2 => ?_⟩⟩
  have h1 := m_nlt.mp h
  have h3 := m_nlt.mp h2
  obtain ⟨j, hj, rfl⟩ := m_nn (Int32.le_trans (by decide) h1)
  have k1 := (nI_leI (a := 1) (by decide) hj).mp h1
  have k2 := (nI_leI (b := 60) hj (by decide)).mp h3
  obtain ⟨i, rfl⟩ : ∃ i, j = i + 1 := ⟨j - 1, by omega⟩
  rw [show nI (i + 1) - 1 = nI i from nI_pred i, pk_cl i]
  have hm := m_si_of (MS := M.2.2.2.1) (i := i) (by omega)
  refine ⟨pk_in i 60 (by omega), ?_⟩
  rcases hS i (by omega) with ⟨e1, e2⟩ | ⟨a, S, e1, e2, e3⟩
  · rw [e2] at hm
    exact ar_n e1 (hP1 hm)
  · rw [e2] at hm
    exact ar_s e1 (hP2 i a S hm e1 e2 e3)
def m_hasn (x : Int32) (o : Option mS) : Bool := match o with
  | none => false
  | some S => decide (nI S.1.1 = x)
def m_num (MS : Nat → Option mS) (x : Int32) : Nat := match m_ix (fun i => m_hasn x (MS i)) 60 0 with
  | none => 0
  | some i => i + 1
def sp_C_numberOf : gSpec := fun av σ P => ∃ (d : Nat) (M : mM) (x : Int32), av = [.ref d, .int x] ∧ RepC σ d M ∧ P (some (.int (nI (m_num M.2.2.2.1 x)))) σ
def iv_C_numberOf (σ : gS) (d : Nat) (x : Int32) (p : Nat → Bool) : Nat → gK := fun k pc lv st σ' c z => ∃ i, i ≤ 60 ∧ k = 60 - i ∧ pc = 2 ∧ lv = [some (.ref d), some (.int x), some (.int (nI i))] ∧ st = [] ∧ σ' = σ ∧ c = 0 ∧ z = 0 ∧ m_ix p (60 - i) i = m_ix p 60 0
def T_C_numberOf : gT := gTT [(20, 6, 1, 1, 2), (110, 1, 0, 0, 1)] [] [] [] [] []
theorem tf_C_numberOf_20 : (T_C_numberOf).1 20 = some (6, 1, 1, 2) := rfl
theorem tf_C_numberOf_110 : (T_C_numberOf).1 110 = some (1, 0, 0, 1) := rfl
theorem t_C_numberOf (l : Launch) (sc : gX) : g_TOK l sc (gRm 1 0 0) (T_C_numberOf) gEl "DataSets" gCl gTb gNs gAT gAO := gTT_ok
  (List.forall_mem_cons.mpr ⟨⟨R_C, F_C, 4, t_C 1, rfl, by decide, rfl, by decide +kernel, rfl, by decide, Or.inl ⟨wd63, by decide⟩⟩, List.forall_mem_cons.mpr ⟨⟨R_S, F_S, 6, t_S 0, rfl, by decide, rfl, by decide +kernel, rfl, by decide, Or.inr ⟨⟨_, List.mem_of_getElem? (i := 4) rfl⟩, by decide⟩⟩, fun _ h => absurd h List.not_mem_nil⟩⟩)
  (fun _ h => absurd h List.not_mem_nil)
  (fun _ h => absurd h List.not_mem_nil)
  (fun _ h => absurd h List.not_mem_nil)
  (fun _ h => absurd h List.not_mem_nil)
  (fun _ h => absurd h List.not_mem_nil)
set_option maxHeartbeats 4000000 in
set_option maxRecDepth 100000 in
theorem k_C_numberOf (l : Launch) (sc : gX) : g_Met l sc gCl gTb gNs gAT gAO y_C_numberOf b_C_numberOf 3 (some .int) (gRm 1 0 0) (sp_C_numberOf) 0 0 := by
  refine g_meth (T := (T_C_numberOf)) (el := gEl) (ini := false) (rk := 1) (code := c_C_numberOf) gG_ok (t_C_numberOf l sc) (by decide) (by decide) rfl ⟨rfl, rfl, by decide, by decide⟩ ok_C_numberOf ?_
  intro av σ P hsp
  obtain ⟨d, M, x, rfl, ⟨ow, v, t, sa, la, sets, lines, hd, hv, hsa, hla, ho, hS, hL⟩, hP⟩ := hsp
  refine ⟨by simp [lg_sl, Value.category], iv_C_numberOf σ d x (fun i => m_hasn x (M.2.2.2.1 i)), ⟨200, ?_⟩, ?_⟩
  · simp only [w_iconst, w_istore_2, w_iload_2, w_bipush, w_icmp_ge, w_aload_0, w_get, w_aald, w_ifnull, w_ifnullN, w_iload_1, w_icmp_ne, w_iadd, w_iret, w_iinc, w_goto, go_C_numberOf_0, go_C_numberOf_1, go_C_numberOf_2, go_C_numberOf_3, go_C_numberOf_5, go_C_numberOf_8, go_C_numberOf_9, go_C_numberOf_12, go_C_numberOf_13, go_C_numberOf_14, go_C_numberOf_17, go_C_numberOf_18, go_C_numberOf_21, go_C_numberOf_22, go_C_numberOf_23, go_C_numberOf_26, go_C_numberOf_27, go_C_numberOf_30, go_C_numberOf_31, go_C_numberOf_32, go_C_numberOf_33, go_C_numberOf_34, go_C_numberOf_37, go_C_numberOf_40, go_C_numberOf_41, at_C_numberOf_0, at_C_numberOf_2, tf_C_numberOf_20, tf_C_numberOf_110, s_opt, s_oI, s_oL, s_oA, s_oAN, s_set0, s_set1, s_setn0, s_setn1, s_ok0, s_okn, s_oki, s_okr, s_okN, s_oko, s_oks, s_c1i, s_c1r, s_c1n, s_fi, s_fr, s_fn, s_fl, s_fz, s_rd, s_pt, s_ai, s_lds, s_ldsN, s_al, s_ar, s_cls, s_leni, s_lenz, s_lenr, s_lenN, s_lenl, s_rc0, s_rc1, s_rcv, s_clo, s_clx, s_cln, s_cl1, s_cl2, s_cl3, s_cl4, s_cl5, s_sw1, s_sw2, s_min0, s_min1, s_min2, List.getElem?_cons_zero, List.getElem?_cons_succ, List.take_succ_cons, List.take_zero, List.length_cons, List.length_nil, List.set_cons_zero, List.set_cons_succ, List.cons_append, List.nil_append, Option.toList_some, Option.toList_none, Nat.reduceAdd, Nat.reduceSub, Nat.reduceLeDiff, Nat.reduceLT, Nat.reduceEqDiff, Nat.zero_add, Nat.add_zero, Nat.le_refl, Nat.zero_le, true_and, and_true, true_or, or_true, or_false, false_or, and_self, not_false_eq_true, Nat.one_ne_zero, Nat.zero_ne_one, reduceCtorEq, false_and, and_false, g_ent, lg_sl, List.flatMap_cons, List.flatMap_nil, List.map_cons, List.map_nil, Value.category, ite_true, ite_false, if_true, if_false, if_pos, gEl, Option.isSome_some, s_c12, s_p12, s_c16, s_p16, s_c20, s_p20, s_c30, s_p30, s_c60, s_p60, s_c100, s_p100, s_c500, s_p500, s_c61, s_p61, s_c1952, s_p1952, s_c732, s_p732, s_c1830, s_p1830, s_c2000, s_p2000, not_true_eq_false, true_implies, false_implies, implies_true]
    exact ⟨60, 0, Nat.zero_le _, rfl, rfl, rfl, rfl, rfl, rfl, rfl, rfl⟩
  · rintro k pc lv st σ' c z ⟨i, hi, rfl, rfl, rfl, rfl, rfl, rfl, rfl, hans⟩
    refine ⟨200, ?_⟩
    have hcl : (nI i).toNatClampNeg = i := pk_cl i
    simp only [w_iconst, w_istore_2, w_iload_2, w_bipush, w_icmp_ge, w_aload_0, w_get, w_aald, w_ifnull, w_ifnullN, w_iload_1, w_icmp_ne, w_iadd, w_iret, w_iinc, w_goto, go_C_numberOf_0, go_C_numberOf_1, go_C_numberOf_2, go_C_numberOf_3, go_C_numberOf_5, go_C_numberOf_8, go_C_numberOf_9, go_C_numberOf_12, go_C_numberOf_13, go_C_numberOf_14, go_C_numberOf_17, go_C_numberOf_18, go_C_numberOf_21, go_C_numberOf_22, go_C_numberOf_23, go_C_numberOf_26, go_C_numberOf_27, go_C_numberOf_30, go_C_numberOf_31, go_C_numberOf_32, go_C_numberOf_33, go_C_numberOf_34, go_C_numberOf_37, go_C_numberOf_40, go_C_numberOf_41, at_C_numberOf_0, at_C_numberOf_2, tf_C_numberOf_20, tf_C_numberOf_110, s_opt, s_oI, s_oL, s_oA, s_oAN, s_set0, s_set1, s_setn0, s_setn1, s_ok0, s_okn, s_oki, s_okr, s_okN, s_oko, s_oks, s_c1i, s_c1r, s_c1n, s_fi, s_fr, s_fn, s_fl, s_fz, s_rd, s_pt, s_ai, s_lds, s_ldsN, s_al, s_ar, s_cls, s_leni, s_lenz, s_lenr, s_lenN, s_lenl, s_rc0, s_rc1, s_rcv, s_clo, s_clx, s_cln, s_cl1, s_cl2, s_cl3, s_cl4, s_cl5, s_sw1, s_sw2, s_min0, s_min1, s_min2, List.getElem?_cons_zero, List.getElem?_cons_succ, List.take_succ_cons, List.take_zero, List.length_cons, List.length_nil, List.set_cons_zero, List.set_cons_succ, List.cons_append, List.nil_append, Option.toList_some, Option.toList_none, Nat.reduceAdd, Nat.reduceSub, Nat.reduceLeDiff, Nat.reduceLT, Nat.reduceEqDiff, Nat.zero_add, Nat.add_zero, Nat.le_refl, Nat.zero_le, true_and, and_true, true_or, or_true, or_false, false_or, and_self, not_false_eq_true, Nat.one_ne_zero, Nat.zero_ne_one, reduceCtorEq, false_and, and_false, g_ent, lg_sl, List.flatMap_cons, List.flatMap_nil, List.map_cons, List.map_nil, Value.category, ite_true, ite_false, if_true, if_false, if_pos, gEl, Option.isSome_some, s_c12, s_p12, s_c16, s_p16, s_c20, s_p20, s_c30, s_p30, s_c60, s_p60, s_c100, s_p100, s_c500, s_p500, s_c61, s_p61, s_c1952, s_p1952, s_c732, s_p732, s_c1830, s_p1830, s_c2000, s_p2000, not_true_eq_false, true_implies, false_implies, implies_true, hd, hsa, hcl]
    unfold m_num at hP
    refine pk_le 60 i (fun h => ?_) (fun h => ?_)
    · have : i = 60 := by omega
      subst this
      have h0 : m_ix (fun i => m_hasn x (M.2.2.2.1 i)) 60 0 = none := hans.symm
      rw [h0] at hP
      exact hP
    · have hfr : m_ix (fun i => m_hasn x (M.2.2.2.1 i)) (60 - i) i = if m_hasn x (M.2.2.2.1 i) = true then some i else m_ix (fun i => m_hasn x (M.2.2.2.1 i)) (60 - (i + 1)) (i + 1) := by
        rw [show 60 - i = (60 - (i + 1)) + 1 by omega]
        rfl
      have go : m_hasn x (M.2.2.2.1 i) = false → ∃ k', k' < 60 - i ∧ iv_C_numberOf σ' d x (fun i => m_hasn x (M.2.2.2.1 i)) k' 2 [some (.ref d), some (.int x), some (.int (nI i + 1))] [] σ' 0 0 := by
        intro hn
        rw [if_neg (by rw [hn]; decide)] at hfr
        exact ⟨60 - (i + 1), by omega, i + 1, by omega, rfl, rfl, by rw [nI_1], rfl, rfl, rfl, rfl, by rw [← hans, hfr]⟩
      have q1 : vp_in (nI i) 60 := pk_in i 60 (by omega)
      rcases hS i (by omega) with ⟨e1, e2⟩ | ⟨a, S, e1, e2, e, ef, el, r, d1, d2, d3, t0, t1, t2, ha, -⟩
      · exact ⟨q1, ar_n e1 (go (by rw [e2]; rfl))⟩
      · refine ⟨q1, ar_s e1 ⟨q1, ar_s e1 ?_⟩⟩
        simp only [w_iconst, w_istore_2, w_iload_2, w_bipush, w_icmp_ge, w_aload_0, w_get, w_aald, w_ifnull, w_ifnullN, w_iload_1, w_icmp_ne, w_iadd, w_iret, w_iinc, w_goto, go_C_numberOf_0, go_C_numberOf_1, go_C_numberOf_2, go_C_numberOf_3, go_C_numberOf_5, go_C_numberOf_8, go_C_numberOf_9, go_C_numberOf_12, go_C_numberOf_13, go_C_numberOf_14, go_C_numberOf_17, go_C_numberOf_18, go_C_numberOf_21, go_C_numberOf_22, go_C_numberOf_23, go_C_numberOf_26, go_C_numberOf_27, go_C_numberOf_30, go_C_numberOf_31, go_C_numberOf_32, go_C_numberOf_33, go_C_numberOf_34, go_C_numberOf_37, go_C_numberOf_40, go_C_numberOf_41, at_C_numberOf_0, at_C_numberOf_2, tf_C_numberOf_20, tf_C_numberOf_110, s_opt, s_oI, s_oL, s_oA, s_oAN, s_set0, s_set1, s_setn0, s_setn1, s_ok0, s_okn, s_oki, s_okr, s_okN, s_oko, s_oks, s_c1i, s_c1r, s_c1n, s_fi, s_fr, s_fn, s_fl, s_fz, s_rd, s_pt, s_ai, s_lds, s_ldsN, s_al, s_ar, s_cls, s_leni, s_lenz, s_lenr, s_lenN, s_lenl, s_rc0, s_rc1, s_rcv, s_clo, s_clx, s_cln, s_cl1, s_cl2, s_cl3, s_cl4, s_cl5, s_sw1, s_sw2, s_min0, s_min1, s_min2, List.getElem?_cons_zero, List.getElem?_cons_succ, List.take_succ_cons, List.take_zero, List.length_cons, List.length_nil, List.set_cons_zero, List.set_cons_succ, List.cons_append, List.nil_append, Option.toList_some, Option.toList_none, Nat.reduceAdd, Nat.reduceSub, Nat.reduceLeDiff, Nat.reduceLT, Nat.reduceEqDiff, Nat.zero_add, Nat.add_zero, Nat.le_refl, Nat.zero_le, true_and, and_true, true_or, or_true, or_false, false_or, and_self, not_false_eq_true, Nat.one_ne_zero, Nat.zero_ne_one, reduceCtorEq, false_and, and_false, g_ent, lg_sl, List.flatMap_cons, List.flatMap_nil, List.map_cons, List.map_nil, Value.category, ite_true, ite_false, if_true, if_false, if_pos, gEl, Option.isSome_some, s_c12, s_p12, s_c16, s_p16, s_c20, s_p20, s_c30, s_p30, s_c60, s_p60, s_c100, s_p100, s_c500, s_p500, s_c61, s_p61, s_c1952, s_p1952, s_c732, s_p732, s_c1830, s_p1830, s_c2000, s_p2000, not_true_eq_false, true_implies, false_implies, implies_true, ha]
        have e4 : m_hasn x (M.2.2.2.1 i) = decide (nI S.1.1 = x) := by rw [e2]; rfl
        refine ⟨fun hne => go (by rw [e4]; exact decide_eq_false hne), fun he => ?_⟩
        have he := Classical.byContradiction he
        rw [if_pos (by rw [e4]; exact decide_eq_true he)] at hfr
        rw [← hans, hfr] at hP
        rw [nI_1]
        exact hP
def m_use (ML : Nat → Option mL) (x : Int32) : Bool := m_nm x && (match ML x.toNatClampNeg with
  | none => false
  | some L => decide (0 < L.1))
def sp_C_isInUse : gSpec := fun av σ P => ∃ (d : Nat) (M : mM) (x : Int32), av = [.ref d, .int x] ∧ RepC σ d M ∧ okM M ∧ P (some (.int (b2i (m_use M.2.2.2.2 x)))) σ
def T_C_isInUse : gT := gTT [(26, 6, 2, 1, 2), (174, 4, 2, 0, 1)] [(34, 1, 0, sp_C_isName, 0, 0)] [] [] [] []
theorem tf_C_isInUse_26 : (T_C_isInUse).1 26 = some (6, 2, 1, 2) := rfl
theorem tf_C_isInUse_174 : (T_C_isInUse).1 174 = some (4, 2, 0, 1) := rfl
theorem tc_C_isInUse_34 : (T_C_isInUse).2.1 34 = some (1, 0, sp_C_isName, 0, 0) := rfl
theorem tm_C_isInUse_34 : (T_C_isInUse).2.2.2.2.2 34 = none := rfl
theorem t_C_isInUse (l : Launch) (sc : gX) : g_TOK l sc (gRm 2 0 0) (T_C_isInUse) gEl "DataSets" gCl gTb gNs gAT gAO := gTT_ok
  (List.forall_mem_cons.mpr ⟨⟨R_C, F_C, 4, t_C 2, rfl, by decide, rfl, by decide +kernel, rfl, by decide, Or.inl ⟨wd64, by decide⟩⟩, List.forall_mem_cons.mpr ⟨⟨R_L, F_L, 4, t_L 2, rfl, by decide, rfl, by decide +kernel, rfl, by decide, Or.inr ⟨⟨_, List.mem_of_getElem? (i := 11) rfl⟩, by decide⟩⟩, fun _ h => absurd h List.not_mem_nil⟩⟩)
  (List.forall_mem_cons.mpr ⟨⟨y_C_isName, b_C_isName, 1, _, gRm 1 0 0, k_C_isName l sc, rfl, rfl, by decide, by decide, wd81, wd24, ⟨by decide, by decide⟩, Or.inl wd79, ⟨by decide +kernel, wd80⟩⟩, fun _ h => absurd h List.not_mem_nil⟩)
  (fun _ h => absurd h List.not_mem_nil)
  (fun _ h => absurd h List.not_mem_nil)
  (fun _ h => absurd h List.not_mem_nil)
  (fun _ h => absurd h List.not_mem_nil)
set_option maxHeartbeats 4000000 in
set_option maxRecDepth 100000 in
theorem k_C_isInUse (l : Launch) (sc : gX) : g_Met l sc gCl gTb gNs gAT gAO y_C_isInUse b_C_isInUse 2 (some .boolean) (gRm 2 0 0) (sp_C_isInUse) 0 0 := by
  refine g_meth (T := (T_C_isInUse)) (el := gEl) (ini := false) (rk := 2) (code := c_C_isInUse) gG_ok (t_C_isInUse l sc) (by decide) (by decide) rfl ⟨rfl, rfl, by decide, by decide⟩ ok_C_isInUse ?_
  intro av σ P hsp
  obtain ⟨d, M, x, rfl, ⟨ow, v, t, sa, la, sets, lines, hd, hv, hsa, hla, ho, hS, hL⟩, hok, hP⟩ := hsp
  refine ⟨by simp [lg_sl, Value.category], fun _ _ _ _ _ _ _ => False, ⟨200, ?_⟩, fun _ _ _ _ _ _ _ h => h.elim⟩
  simp only [w_iload_1, w_invokestatic, w_if_eq, w_aload_0, w_get, w_aald, w_ifnull, w_ifnullN, w_if_le, w_iconst, w_goto, w_iret, go_C_isInUse_0, go_C_isInUse_1, go_C_isInUse_4, go_C_isInUse_7, go_C_isInUse_8, go_C_isInUse_11, go_C_isInUse_12, go_C_isInUse_13, go_C_isInUse_16, go_C_isInUse_17, go_C_isInUse_20, go_C_isInUse_21, go_C_isInUse_22, go_C_isInUse_25, go_C_isInUse_28, go_C_isInUse_29, go_C_isInUse_32, go_C_isInUse_33, at_C_isInUse_0, tf_C_isInUse_26, tf_C_isInUse_174, tc_C_isInUse_34, tm_C_isInUse_34, s_opt, s_oI, s_oL, s_oA, s_oAN, s_set0, s_set1, s_setn0, s_setn1, s_ok0, s_okn, s_oki, s_okr, s_okN, s_oko, s_oks, s_c1i, s_c1r, s_c1n, s_fi, s_fr, s_fn, s_fl, s_fz, s_rd, s_pt, s_ai, s_lds, s_ldsN, s_al, s_ar, s_cls, s_leni, s_lenz, s_lenr, s_lenN, s_lenl, s_rc0, s_rc1, s_rcv, s_clo, s_clx, s_cln, s_cl1, s_cl2, s_cl3, s_cl4, s_cl5, s_sw1, s_sw2, s_min0, s_min1, s_min2, List.getElem?_cons_zero, List.getElem?_cons_succ, List.take_succ_cons, List.take_zero, List.length_cons, List.length_nil, List.set_cons_zero, List.set_cons_succ, List.cons_append, List.nil_append, Option.toList_some, Option.toList_none, Nat.reduceAdd, Nat.reduceSub, Nat.reduceLeDiff, Nat.reduceLT, Nat.reduceEqDiff, Nat.zero_add, Nat.add_zero, Nat.le_refl, Nat.zero_le, true_and, and_true, true_or, or_true, or_false, false_or, and_self, not_false_eq_true, Nat.one_ne_zero, Nat.zero_ne_one, reduceCtorEq, false_and, and_false, g_ent, lg_sl, List.flatMap_cons, List.flatMap_nil, List.map_cons, List.map_nil, Value.category, ite_true, ite_false, if_true, if_false, if_pos, gEl, Option.isSome_some, s_c12, s_p12, s_c16, s_p16, s_c20, s_p20, s_c30, s_p30, s_c60, s_p60, s_c100, s_p100, s_c500, s_p500, s_c61, s_p61, s_c1952, s_p1952, s_c732, s_p732, s_c1830, s_p1830, s_c2000, s_p2000, not_true_eq_false, true_implies, false_implies, implies_true, hd, hla]
  refine ⟨x, rfl, ?_⟩
  simp only [w_iload_1, w_invokestatic, w_if_eq, w_aload_0, w_get, w_aald, w_ifnull, w_ifnullN, w_if_le, w_iconst, w_goto, w_iret, go_C_isInUse_0, go_C_isInUse_1, go_C_isInUse_4, go_C_isInUse_7, go_C_isInUse_8, go_C_isInUse_11, go_C_isInUse_12, go_C_isInUse_13, go_C_isInUse_16, go_C_isInUse_17, go_C_isInUse_20, go_C_isInUse_21, go_C_isInUse_22, go_C_isInUse_25, go_C_isInUse_28, go_C_isInUse_29, go_C_isInUse_32, go_C_isInUse_33, at_C_isInUse_0, tf_C_isInUse_26, tf_C_isInUse_174, tc_C_isInUse_34, tm_C_isInUse_34, s_opt, s_oI, s_oL, s_oA, s_oAN, s_set0, s_set1, s_setn0, s_setn1, s_ok0, s_okn, s_oki, s_okr, s_okN, s_oko, s_oks, s_c1i, s_c1r, s_c1n, s_fi, s_fr, s_fn, s_fl, s_fz, s_rd, s_pt, s_ai, s_lds, s_ldsN, s_al, s_ar, s_cls, s_leni, s_lenz, s_lenr, s_lenN, s_lenl, s_rc0, s_rc1, s_rcv, s_clo, s_clx, s_cln, s_cl1, s_cl2, s_cl3, s_cl4, s_cl5, s_sw1, s_sw2, s_min0, s_min1, s_min2, List.getElem?_cons_zero, List.getElem?_cons_succ, List.take_succ_cons, List.take_zero, List.length_cons, List.length_nil, List.set_cons_zero, List.set_cons_succ, List.cons_append, List.nil_append, Option.toList_some, Option.toList_none, Nat.reduceAdd, Nat.reduceSub, Nat.reduceLeDiff, Nat.reduceLT, Nat.reduceEqDiff, Nat.zero_add, Nat.add_zero, Nat.le_refl, Nat.zero_le, true_and, and_true, true_or, or_true, or_false, false_or, and_self, not_false_eq_true, Nat.one_ne_zero, Nat.zero_ne_one, reduceCtorEq, false_and, and_false, g_ent, lg_sl, List.flatMap_cons, List.flatMap_nil, List.map_cons, List.map_nil, Value.category, ite_true, ite_false, if_true, if_false, if_pos, gEl, Option.isSome_some, s_c12, s_p12, s_c16, s_p16, s_c20, s_p20, s_c30, s_p30, s_c60, s_p60, s_c100, s_p100, s_c500, s_p500, s_c61, s_p61, s_c1952, s_p1952, s_c732, s_p732, s_c1830, s_p1830, s_c2000, s_p2000, not_true_eq_false, true_implies, false_implies, implies_true, hd, hla]
  unfold m_use at hP
  refine pk_b (m_nm x) (fun hb => ?_) (fun hb => ?_)
  · rw [hb] at hP
    exact hP
  · rw [hb] at hP
    obtain ⟨n, hn, rfl⟩ := m_nm_t hb
    have hcl : (nI n).toNatClampNeg = n := pk_cl n
    rw [hcl] at hP ⊢
    have q1 : vp_in (nI n) 100 := pk_in n 100 hn
    rcases hL n hn with ⟨e1, e2⟩ | ⟨a, L, e1, e2, j, o, ⟨ha, -⟩, -⟩
    · rw [e2] at hP
      exact ⟨q1, ar_n e1 hP⟩
    · rw [e2] at hP
      refine ⟨q1, ar_s e1 ⟨q1, ar_s e1 ?_⟩⟩
      simp only [w_iload_1, w_invokestatic, w_if_eq, w_aload_0, w_get, w_aald, w_ifnull, w_ifnullN, w_if_le, w_iconst, w_goto, w_iret, go_C_isInUse_0, go_C_isInUse_1, go_C_isInUse_4, go_C_isInUse_7, go_C_isInUse_8, go_C_isInUse_11, go_C_isInUse_12, go_C_isInUse_13, go_C_isInUse_16, go_C_isInUse_17, go_C_isInUse_20, go_C_isInUse_21, go_C_isInUse_22, go_C_isInUse_25, go_C_isInUse_28, go_C_isInUse_29, go_C_isInUse_32, go_C_isInUse_33, at_C_isInUse_0, tf_C_isInUse_26, tf_C_isInUse_174, tc_C_isInUse_34, tm_C_isInUse_34, s_opt, s_oI, s_oL, s_oA, s_oAN, s_set0, s_set1, s_setn0, s_setn1, s_ok0, s_okn, s_oki, s_okr, s_okN, s_oko, s_oks, s_c1i, s_c1r, s_c1n, s_fi, s_fr, s_fn, s_fl, s_fz, s_rd, s_pt, s_ai, s_lds, s_ldsN, s_al, s_ar, s_cls, s_leni, s_lenz, s_lenr, s_lenN, s_lenl, s_rc0, s_rc1, s_rcv, s_clo, s_clx, s_cln, s_cl1, s_cl2, s_cl3, s_cl4, s_cl5, s_sw1, s_sw2, s_min0, s_min1, s_min2, List.getElem?_cons_zero, List.getElem?_cons_succ, List.take_succ_cons, List.take_zero, List.length_cons, List.length_nil, List.set_cons_zero, List.set_cons_succ, List.cons_append, List.nil_append, Option.toList_some, Option.toList_none, Nat.reduceAdd, Nat.reduceSub, Nat.reduceLeDiff, Nat.reduceLT, Nat.reduceEqDiff, Nat.zero_add, Nat.add_zero, Nat.le_refl, Nat.zero_le, true_and, and_true, true_or, or_true, or_false, false_or, and_self, not_false_eq_true, Nat.one_ne_zero, Nat.zero_ne_one, reduceCtorEq, false_and, and_false, g_ent, lg_sl, List.flatMap_cons, List.flatMap_nil, List.map_cons, List.map_nil, Value.category, ite_true, ite_false, if_true, if_false, if_pos, gEl, Option.isSome_some, s_c12, s_p12, s_c16, s_p16, s_c20, s_p20, s_c30, s_p30, s_c60, s_p60, s_c100, s_p100, s_c500, s_p500, s_c61, s_p61, s_c1952, s_p1952, s_c732, s_p732, s_c1830, s_p1830, s_c2000, s_p2000, not_true_eq_false, true_implies, false_implies, implies_true, ha]
      have hb2 := (hok.2.2.2 n L e2).1
      refine pk_le L.1 0 (fun h => ?_) (fun h => ?_)
      · dsimp only at hP
        rw [decide_eq_false (by omega)] at hP
        exact hP
      · dsimp only at hP
        rw [decide_eq_true (by omega)] at hP
        exact hP
def sp_C_countSets : gSpec := fun av σ P => ∃ (d : Nat) (M : mM), av = [.ref d] ∧ RepC σ d M ∧ P (some (.int (nI (m_cnt (fun i => (M.2.2.2.1 i).isSome) 60)))) σ
def iv_C_count (σ : gS) (d n : Nat) (g : Nat → Nat) : Nat → gK := fun k pc lv st σ' c z => ∃ i, i ≤ n ∧ k = n - i ∧ pc = 4 ∧ lv = [some (.ref d), some (.int (nI (g i))), some (.int (nI i))] ∧ st = [] ∧ σ' = σ ∧ c = 0 ∧ z = 0
def T_C_countSets : gT := gTT [(20, 6, 1, 1, 2)] [] [] [] [] []
theorem tf_C_countSets_20 : (T_C_countSets).1 20 = some (6, 1, 1, 2) := rfl
theorem t_C_countSets (l : Launch) (sc : gX) : g_TOK l sc (gRm 1 0 0) (T_C_countSets) gEl "DataSets" gCl gTb gNs gAT gAO := gTT_ok
  (List.forall_mem_cons.mpr ⟨⟨R_C, F_C, 4, t_C 1, rfl, by decide, rfl, by decide +kernel, rfl, by decide, Or.inl ⟨wd63, by decide⟩⟩, fun _ h => absurd h List.not_mem_nil⟩)
  (fun _ h => absurd h List.not_mem_nil)
  (fun _ h => absurd h List.not_mem_nil)
  (fun _ h => absurd h List.not_mem_nil)
  (fun _ h => absurd h List.not_mem_nil)
  (fun _ h => absurd h List.not_mem_nil)
set_option maxHeartbeats 4000000 in
set_option maxRecDepth 100000 in
theorem k_C_countSets (l : Launch) (sc : gX) : g_Met l sc gCl gTb gNs gAT gAO y_C_countSets b_C_countSets 3 (some .int) (gRm 1 0 0) (sp_C_countSets) 0 0 := by
  refine g_meth (T := (T_C_countSets)) (el := gEl) (ini := false) (rk := 1) (code := c_C_countSets) gG_ok (t_C_countSets l sc) (by decide) (by decide) rfl ⟨rfl, rfl, by decide, by decide⟩ ok_C_countSets ?_
  intro av σ P hsp
  obtain ⟨d, M, rfl, ⟨ow, v, t, sa, la, sets, lines, hd, hv, hsa, hla, ho, hS, hL⟩, hP⟩ := hsp
  refine ⟨by simp [lg_sl, Value.category], iv_C_count σ d 60 (m_cnt (fun i => (M.2.2.2.1 i).isSome)), ⟨200, ?_⟩, ?_⟩
  · simp only [w_iconst, w_istore_1, w_istore_2, w_iload_2, w_bipush, w_icmp_ge, w_aload_0, w_get, w_aald, w_ifnull, w_ifnullN, w_iinc, w_goto, w_iload_1, w_iret, go_C_countSets_0, go_C_countSets_1, go_C_countSets_2, go_C_countSets_3, go_C_countSets_4, go_C_countSets_5, go_C_countSets_7, go_C_countSets_10, go_C_countSets_11, go_C_countSets_14, go_C_countSets_15, go_C_countSets_16, go_C_countSets_19, go_C_countSets_22, go_C_countSets_25, go_C_countSets_28, go_C_countSets_29, at_C_countSets_0, at_C_countSets_4, tf_C_countSets_20, s_opt, s_oI, s_oL, s_oA, s_oAN, s_set0, s_set1, s_setn0, s_setn1, s_ok0, s_okn, s_oki, s_okr, s_okN, s_oko, s_oks, s_c1i, s_c1r, s_c1n, s_fi, s_fr, s_fn, s_fl, s_fz, s_rd, s_pt, s_ai, s_lds, s_ldsN, s_al, s_ar, s_cls, s_leni, s_lenz, s_lenr, s_lenN, s_lenl, s_rc0, s_rc1, s_rcv, s_clo, s_clx, s_cln, s_cl1, s_cl2, s_cl3, s_cl4, s_cl5, s_sw1, s_sw2, s_min0, s_min1, s_min2, List.getElem?_cons_zero, List.getElem?_cons_succ, List.take_succ_cons, List.take_zero, List.length_cons, List.length_nil, List.set_cons_zero, List.set_cons_succ, List.cons_append, List.nil_append, Option.toList_some, Option.toList_none, Nat.reduceAdd, Nat.reduceSub, Nat.reduceLeDiff, Nat.reduceLT, Nat.reduceEqDiff, Nat.zero_add, Nat.add_zero, Nat.le_refl, Nat.zero_le, true_and, and_true, true_or, or_true, or_false, false_or, and_self, not_false_eq_true, Nat.one_ne_zero, Nat.zero_ne_one, reduceCtorEq, false_and, and_false, g_ent, lg_sl, List.flatMap_cons, List.flatMap_nil, List.map_cons, List.map_nil, Value.category, ite_true, ite_false, if_true, if_false, if_pos, gEl, Option.isSome_some, s_c12, s_p12, s_c16, s_p16, s_c20, s_p20, s_c30, s_p30, s_c60, s_p60, s_c100, s_p100, s_c500, s_p500, s_c61, s_p61, s_c1952, s_p1952, s_c732, s_p732, s_c1830, s_p1830, s_c2000, s_p2000, not_true_eq_false, true_implies, false_implies, implies_true]
    exact ⟨60, 0, Nat.zero_le _, rfl, rfl, rfl, rfl, rfl, rfl, rfl⟩
  · rintro k pc lv st σ' c z ⟨i, hi, rfl, rfl, rfl, rfl, rfl, rfl, rfl⟩
    refine ⟨200, ?_⟩
    have hcl : (nI i).toNatClampNeg = i := pk_cl i
    simp only [w_iconst, w_istore_1, w_istore_2, w_iload_2, w_bipush, w_icmp_ge, w_aload_0, w_get, w_aald, w_ifnull, w_ifnullN, w_iinc, w_goto, w_iload_1, w_iret, go_C_countSets_0, go_C_countSets_1, go_C_countSets_2, go_C_countSets_3, go_C_countSets_4, go_C_countSets_5, go_C_countSets_7, go_C_countSets_10, go_C_countSets_11, go_C_countSets_14, go_C_countSets_15, go_C_countSets_16, go_C_countSets_19, go_C_countSets_22, go_C_countSets_25, go_C_countSets_28, go_C_countSets_29, at_C_countSets_0, at_C_countSets_4, tf_C_countSets_20, s_opt, s_oI, s_oL, s_oA, s_oAN, s_set0, s_set1, s_setn0, s_setn1, s_ok0, s_okn, s_oki, s_okr, s_okN, s_oko, s_oks, s_c1i, s_c1r, s_c1n, s_fi, s_fr, s_fn, s_fl, s_fz, s_rd, s_pt, s_ai, s_lds, s_ldsN, s_al, s_ar, s_cls, s_leni, s_lenz, s_lenr, s_lenN, s_lenl, s_rc0, s_rc1, s_rcv, s_clo, s_clx, s_cln, s_cl1, s_cl2, s_cl3, s_cl4, s_cl5, s_sw1, s_sw2, s_min0, s_min1, s_min2, List.getElem?_cons_zero, List.getElem?_cons_succ, List.take_succ_cons, List.take_zero, List.length_cons, List.length_nil, List.set_cons_zero, List.set_cons_succ, List.cons_append, List.nil_append, Option.toList_some, Option.toList_none, Nat.reduceAdd, Nat.reduceSub, Nat.reduceLeDiff, Nat.reduceLT, Nat.reduceEqDiff, Nat.zero_add, Nat.add_zero, Nat.le_refl, Nat.zero_le, true_and, and_true, true_or, or_true, or_false, false_or, and_self, not_false_eq_true, Nat.one_ne_zero, Nat.zero_ne_one, reduceCtorEq, false_and, and_false, g_ent, lg_sl, List.flatMap_cons, List.flatMap_nil, List.map_cons, List.map_nil, Value.category, ite_true, ite_false, if_true, if_false, if_pos, gEl, Option.isSome_some, s_c12, s_p12, s_c16, s_p16, s_c20, s_p20, s_c30, s_p30, s_c60, s_p60, s_c100, s_p100, s_c500, s_p500, s_c61, s_p61, s_c1952, s_p1952, s_c732, s_p732, s_c1830, s_p1830, s_c2000, s_p2000, not_true_eq_false, true_implies, false_implies, implies_true, hd, hsa, hcl]
    refine pk_le 60 i (fun h => ?_) (fun h => ?_)
    · have : i = 60 := by omega
      subst this
      exact hP
    · have go : ∀ x, x = nI (m_cnt (fun i => (M.2.2.2.1 i).isSome) (i + 1)) → ∃ k', k' < 60 - i ∧ iv_C_count σ' d 60 (m_cnt (fun i => (M.2.2.2.1 i).isSome)) k' 4 [some (.ref d), some (.int x), some (.int (nI i + 1))] [] σ' 0 0 := by
        intro x hx
        exact ⟨60 - (i + 1), by omega, i + 1, by omega, rfl, rfl, by rw [hx, nI_1], rfl, rfl, rfl, rfl⟩
      have e5 : m_cnt (fun i => (M.2.2.2.1 i).isSome) (i + 1) = m_cnt (fun i => (M.2.2.2.1 i).isSome) i + (if (M.2.2.2.1 i).isSome = true then 1 else 0) := rfl
      refine ⟨pk_in i 60 (by omega), ?_⟩
      rcases hS i (by omega) with ⟨e1, e2⟩ | ⟨a, S, e1, e2, -⟩
      · refine ar_n e1 (go _ ?_)
        rw [e5, e2]; rfl
      · refine ar_s e1 (go _ ?_)
        rw [e5, e2, nI_1]; rfl
def m_exts (MS : Nat → Option mS) (i : Nat) : Nat := match MS i with
  | none => 0
  | some S => S.2.1.1
def sp_C_countExtents : gSpec := fun av σ P => ∃ (d : Nat) (M : mM), av = [.ref d] ∧ RepC σ d M ∧ P (some (.int (nI (m_sum (m_exts M.2.2.2.1) 60)))) σ
def T_C_countExtents : gT := gTT [(20, 6, 1, 1, 2), (51, 1, 3, 1, 0), (71, 3, 2, 0, 1)] [] [] [] [] []
theorem tf_C_countExtents_20 : (T_C_countExtents).1 20 = some (6, 1, 1, 2) := rfl
theorem tf_C_countExtents_51 : (T_C_countExtents).1 51 = some (1, 3, 1, 0) := rfl
theorem tf_C_countExtents_71 : (T_C_countExtents).1 71 = some (3, 2, 0, 1) := rfl
theorem t_C_countExtents (l : Launch) (sc : gX) : g_TOK l sc (gRm 1 0 0) (T_C_countExtents) gEl "DataSets" gCl gTb gNs gAT gAO := gTT_ok
  (List.forall_mem_cons.mpr ⟨⟨R_C, F_C, 4, t_C 1, rfl, by decide, rfl, by decide +kernel, rfl, by decide, Or.inl ⟨wd63, by decide⟩⟩, List.forall_mem_cons.mpr ⟨⟨R_S, F_S, 6, t_S 3, rfl, by decide, rfl, by decide +kernel, rfl, by decide, Or.inr ⟨⟨_, List.mem_of_getElem? (i := 7) rfl⟩, by decide⟩⟩, List.forall_mem_cons.mpr ⟨⟨R_E, F_E, 3, t_E 2, rfl, by decide, rfl, by decide +kernel, rfl, by decide, Or.inr ⟨⟨_, List.mem_of_getElem? (i := 2) rfl⟩, by decide⟩⟩, fun _ h => absurd h List.not_mem_nil⟩⟩⟩)
  (fun _ h => absurd h List.not_mem_nil)
  (fun _ h => absurd h List.not_mem_nil)
  (fun _ h => absurd h List.not_mem_nil)
  (fun _ h => absurd h List.not_mem_nil)
  (fun _ h => absurd h List.not_mem_nil)
set_option maxHeartbeats 4000000 in
set_option maxRecDepth 100000 in
theorem k_C_countExtents (l : Launch) (sc : gX) : g_Met l sc gCl gTb gNs gAT gAO y_C_countExtents b_C_countExtents 3 (some .int) (gRm 1 0 0) (sp_C_countExtents) 0 0 := by
  refine g_meth (T := (T_C_countExtents)) (el := gEl) (ini := false) (rk := 1) (code := c_C_countExtents) gG_ok (t_C_countExtents l sc) (by decide) (by decide) rfl ⟨rfl, rfl, by decide, by decide⟩ ok_C_countExtents ?_
  intro av σ P hsp
  obtain ⟨d, M, rfl, ⟨ow, v, t, sa, la, sets, lines, hd, hv, hsa, hla, ho, hS, hL⟩, hP⟩ := hsp
  refine ⟨by simp [lg_sl, Value.category], iv_C_count σ d 60 (m_sum (m_exts M.2.2.2.1)), ⟨200, ?_⟩, ?_⟩
  · simp only [w_iconst, w_istore_1, w_istore_2, w_iload_2, w_bipush, w_icmp_ge, w_aload_0, w_get, w_aald, w_ifnull, w_ifnullN, w_iload_1, w_iadd, w_iinc, w_goto, w_iret, go_C_countExtents_0, go_C_countExtents_1, go_C_countExtents_2, go_C_countExtents_3, go_C_countExtents_4, go_C_countExtents_5, go_C_countExtents_7, go_C_countExtents_10, go_C_countExtents_11, go_C_countExtents_14, go_C_countExtents_15, go_C_countExtents_16, go_C_countExtents_19, go_C_countExtents_20, go_C_countExtents_21, go_C_countExtents_24, go_C_countExtents_25, go_C_countExtents_26, go_C_countExtents_29, go_C_countExtents_32, go_C_countExtents_33, go_C_countExtents_34, go_C_countExtents_37, go_C_countExtents_40, go_C_countExtents_41, at_C_countExtents_0, at_C_countExtents_4, tf_C_countExtents_20, tf_C_countExtents_51, tf_C_countExtents_71, s_opt, s_oI, s_oL, s_oA, s_oAN, s_set0, s_set1, s_setn0, s_setn1, s_ok0, s_okn, s_oki, s_okr, s_okN, s_oko, s_oks, s_c1i, s_c1r, s_c1n, s_fi, s_fr, s_fn, s_fl, s_fz, s_rd, s_pt, s_ai, s_lds, s_ldsN, s_al, s_ar, s_cls, s_leni, s_lenz, s_lenr, s_lenN, s_lenl, s_rc0, s_rc1, s_rcv, s_clo, s_clx, s_cln, s_cl1, s_cl2, s_cl3, s_cl4, s_cl5, s_sw1, s_sw2, s_min0, s_min1, s_min2, List.getElem?_cons_zero, List.getElem?_cons_succ, List.take_succ_cons, List.take_zero, List.length_cons, List.length_nil, List.set_cons_zero, List.set_cons_succ, List.cons_append, List.nil_append, Option.toList_some, Option.toList_none, Nat.reduceAdd, Nat.reduceSub, Nat.reduceLeDiff, Nat.reduceLT, Nat.reduceEqDiff, Nat.zero_add, Nat.add_zero, Nat.le_refl, Nat.zero_le, true_and, and_true, true_or, or_true, or_false, false_or, and_self, not_false_eq_true, Nat.one_ne_zero, Nat.zero_ne_one, reduceCtorEq, false_and, and_false, g_ent, lg_sl, List.flatMap_cons, List.flatMap_nil, List.map_cons, List.map_nil, Value.category, ite_true, ite_false, if_true, if_false, if_pos, gEl, Option.isSome_some, s_c12, s_p12, s_c16, s_p16, s_c20, s_p20, s_c30, s_p30, s_c60, s_p60, s_c100, s_p100, s_c500, s_p500, s_c61, s_p61, s_c1952, s_p1952, s_c732, s_p732, s_c1830, s_p1830, s_c2000, s_p2000, not_true_eq_false, true_implies, false_implies, implies_true]
    exact ⟨60, 0, Nat.zero_le _, rfl, rfl, rfl, rfl, rfl, rfl, rfl⟩
  · rintro k pc lv st σ' c z ⟨i, hi, rfl, rfl, rfl, rfl, rfl, rfl, rfl⟩
    refine ⟨200, ?_⟩
    have hcl : (nI i).toNatClampNeg = i := pk_cl i
    simp only [w_iconst, w_istore_1, w_istore_2, w_iload_2, w_bipush, w_icmp_ge, w_aload_0, w_get, w_aald, w_ifnull, w_ifnullN, w_iload_1, w_iadd, w_iinc, w_goto, w_iret, go_C_countExtents_0, go_C_countExtents_1, go_C_countExtents_2, go_C_countExtents_3, go_C_countExtents_4, go_C_countExtents_5, go_C_countExtents_7, go_C_countExtents_10, go_C_countExtents_11, go_C_countExtents_14, go_C_countExtents_15, go_C_countExtents_16, go_C_countExtents_19, go_C_countExtents_20, go_C_countExtents_21, go_C_countExtents_24, go_C_countExtents_25, go_C_countExtents_26, go_C_countExtents_29, go_C_countExtents_32, go_C_countExtents_33, go_C_countExtents_34, go_C_countExtents_37, go_C_countExtents_40, go_C_countExtents_41, at_C_countExtents_0, at_C_countExtents_4, tf_C_countExtents_20, tf_C_countExtents_51, tf_C_countExtents_71, s_opt, s_oI, s_oL, s_oA, s_oAN, s_set0, s_set1, s_setn0, s_setn1, s_ok0, s_okn, s_oki, s_okr, s_okN, s_oko, s_oks, s_c1i, s_c1r, s_c1n, s_fi, s_fr, s_fn, s_fl, s_fz, s_rd, s_pt, s_ai, s_lds, s_ldsN, s_al, s_ar, s_cls, s_leni, s_lenz, s_lenr, s_lenN, s_lenl, s_rc0, s_rc1, s_rcv, s_clo, s_clx, s_cln, s_cl1, s_cl2, s_cl3, s_cl4, s_cl5, s_sw1, s_sw2, s_min0, s_min1, s_min2, List.getElem?_cons_zero, List.getElem?_cons_succ, List.take_succ_cons, List.take_zero, List.length_cons, List.length_nil, List.set_cons_zero, List.set_cons_succ, List.cons_append, List.nil_append, Option.toList_some, Option.toList_none, Nat.reduceAdd, Nat.reduceSub, Nat.reduceLeDiff, Nat.reduceLT, Nat.reduceEqDiff, Nat.zero_add, Nat.add_zero, Nat.le_refl, Nat.zero_le, true_and, and_true, true_or, or_true, or_false, false_or, and_self, not_false_eq_true, Nat.one_ne_zero, Nat.zero_ne_one, reduceCtorEq, false_and, and_false, g_ent, lg_sl, List.flatMap_cons, List.flatMap_nil, List.map_cons, List.map_nil, Value.category, ite_true, ite_false, if_true, if_false, if_pos, gEl, Option.isSome_some, s_c12, s_p12, s_c16, s_p16, s_c20, s_p20, s_c30, s_p30, s_c60, s_p60, s_c100, s_p100, s_c500, s_p500, s_c61, s_p61, s_c1952, s_p1952, s_c732, s_p732, s_c1830, s_p1830, s_c2000, s_p2000, not_true_eq_false, true_implies, false_implies, implies_true, hd, hsa, hcl]
    refine pk_le 60 i (fun h => ?_) (fun h => ?_)
    · have : i = 60 := by omega
      subst this
      exact hP
    · have go : ∀ x, x = nI (m_sum (m_exts M.2.2.2.1) (i + 1)) → ∃ k', k' < 60 - i ∧ iv_C_count σ' d 60 (m_sum (m_exts M.2.2.2.1)) k' 4 [some (.ref d), some (.int x), some (.int (nI i + 1))] [] σ' 0 0 := by
        intro x hx
        exact ⟨60 - (i + 1), by omega, i + 1, by omega, rfl, rfl, by rw [hx, nI_1], rfl, rfl, rfl, rfl⟩
      have e5 : m_sum (m_exts M.2.2.2.1) (i + 1) = m_sum (m_exts M.2.2.2.1) i + m_exts M.2.2.2.1 i := rfl
      have q1 : vp_in (nI i) 60 := pk_in i 60 (by omega)
      rcases hS i (by omega) with ⟨e1, e2⟩ | ⟨a, S, e1, e2, e, ef, el, r, d1, d2, d3, t0, t1, t2, ha, ⟨he, -⟩, -⟩
      · refine ⟨q1, ar_n e1 (go _ ?_)⟩
        have e6 : m_exts M.2.2.2.1 i = 0 := by unfold m_exts; rw [e2]
        rw [e5, e6]; rfl
      · refine ⟨q1, ar_s e1 ⟨q1, ar_s e1 ?_⟩⟩
        simp only [w_iconst, w_istore_1, w_istore_2, w_iload_2, w_bipush, w_icmp_ge, w_aload_0, w_get, w_aald, w_ifnull, w_ifnullN, w_iload_1, w_iadd, w_iinc, w_goto, w_iret, go_C_countExtents_0, go_C_countExtents_1, go_C_countExtents_2, go_C_countExtents_3, go_C_countExtents_4, go_C_countExtents_5, go_C_countExtents_7, go_C_countExtents_10, go_C_countExtents_11, go_C_countExtents_14, go_C_countExtents_15, go_C_countExtents_16, go_C_countExtents_19, go_C_countExtents_20, go_C_countExtents_21, go_C_countExtents_24, go_C_countExtents_25, go_C_countExtents_26, go_C_countExtents_29, go_C_countExtents_32, go_C_countExtents_33, go_C_countExtents_34, go_C_countExtents_37, go_C_countExtents_40, go_C_countExtents_41, at_C_countExtents_0, at_C_countExtents_4, tf_C_countExtents_20, tf_C_countExtents_51, tf_C_countExtents_71, s_opt, s_oI, s_oL, s_oA, s_oAN, s_set0, s_set1, s_setn0, s_setn1, s_ok0, s_okn, s_oki, s_okr, s_okN, s_oko, s_oks, s_c1i, s_c1r, s_c1n, s_fi, s_fr, s_fn, s_fl, s_fz, s_rd, s_pt, s_ai, s_lds, s_ldsN, s_al, s_ar, s_cls, s_leni, s_lenz, s_lenr, s_lenN, s_lenl, s_rc0, s_rc1, s_rcv, s_clo, s_clx, s_cln, s_cl1, s_cl2, s_cl3, s_cl4, s_cl5, s_sw1, s_sw2, s_min0, s_min1, s_min2, List.getElem?_cons_zero, List.getElem?_cons_succ, List.take_succ_cons, List.take_zero, List.length_cons, List.length_nil, List.set_cons_zero, List.set_cons_succ, List.cons_append, List.nil_append, Option.toList_some, Option.toList_none, Nat.reduceAdd, Nat.reduceSub, Nat.reduceLeDiff, Nat.reduceLT, Nat.reduceEqDiff, Nat.zero_add, Nat.add_zero, Nat.le_refl, Nat.zero_le, true_and, and_true, true_or, or_true, or_false, false_or, and_self, not_false_eq_true, Nat.one_ne_zero, Nat.zero_ne_one, reduceCtorEq, false_and, and_false, g_ent, lg_sl, List.flatMap_cons, List.flatMap_nil, List.map_cons, List.map_nil, Value.category, ite_true, ite_false, if_true, if_false, if_pos, gEl, Option.isSome_some, s_c12, s_p12, s_c16, s_p16, s_c20, s_p20, s_c30, s_p30, s_c60, s_p60, s_c100, s_p100, s_c500, s_p500, s_c61, s_p61, s_c1952, s_p1952, s_c732, s_p732, s_c1830, s_p1830, s_c2000, s_p2000, not_true_eq_false, true_implies, false_implies, implies_true, ha, he]
        refine go _ ?_
        have e6 : m_exts M.2.2.2.1 i = S.2.1.1 := by unfold m_exts; rw [e2]
        rw [e5, e6, nI_add]
def m_holds (ML : Nat → Option mL) (n : Nat) : Nat := match ML n with
  | none => 0
  | some L => L.2.1
def m_waits (ML : Nat → Option mL) (n : Nat) : Nat := match ML n with
  | none => 0
  | some L => L.1 - L.2.1
def sp_C_countHoldings : gSpec := fun av σ P => ∃ (d : Nat) (M : mM), av = [.ref d] ∧ RepC σ d M ∧ P (some (.int (nI (m_sum (m_holds M.2.2.2.2) 100)))) σ
def T_C_countHoldings : gT := gTT [(26, 6, 2, 1, 2), (177, 4, 3, 0, 1)] [] [] [] [] []
theorem tf_C_countHoldings_26 : (T_C_countHoldings).1 26 = some (6, 2, 1, 2) := rfl
theorem tf_C_countHoldings_177 : (T_C_countHoldings).1 177 = some (4, 3, 0, 1) := rfl
theorem t_C_countHoldings (l : Launch) (sc : gX) : g_TOK l sc (gRm 1 0 0) (T_C_countHoldings) gEl "DataSets" gCl gTb gNs gAT gAO := gTT_ok
  (List.forall_mem_cons.mpr ⟨⟨R_C, F_C, 4, t_C 2, rfl, by decide, rfl, by decide +kernel, rfl, by decide, Or.inl ⟨wd64, by decide⟩⟩, List.forall_mem_cons.mpr ⟨⟨R_L, F_L, 4, t_L 3, rfl, by decide, rfl, by decide +kernel, rfl, by decide, Or.inr ⟨⟨_, List.mem_of_getElem? (i := 12) rfl⟩, by decide⟩⟩, fun _ h => absurd h List.not_mem_nil⟩⟩)
  (fun _ h => absurd h List.not_mem_nil)
  (fun _ h => absurd h List.not_mem_nil)
  (fun _ h => absurd h List.not_mem_nil)
  (fun _ h => absurd h List.not_mem_nil)
  (fun _ h => absurd h List.not_mem_nil)
set_option maxHeartbeats 4000000 in
set_option maxRecDepth 100000 in
theorem k_C_countHoldings (l : Launch) (sc : gX) : g_Met l sc gCl gTb gNs gAT gAO y_C_countHoldings b_C_countHoldings 3 (some .int) (gRm 1 0 0) (sp_C_countHoldings) 0 0 := by
  refine g_meth (T := (T_C_countHoldings)) (el := gEl) (ini := false) (rk := 1) (code := c_C_countHoldings) gG_ok (t_C_countHoldings l sc) (by decide) (by decide) rfl ⟨rfl, rfl, by decide, by decide⟩ ok_C_countHoldings ?_
  intro av σ P hsp
  obtain ⟨d, M, rfl, ⟨ow, v, t, sa, la, sets, lines, hd, hv, hsa, hla, ho, hS, hL⟩, hP⟩ := hsp
  refine ⟨by simp [lg_sl, Value.category], iv_C_count σ d 100 (m_sum (m_holds M.2.2.2.2)), ⟨200, ?_⟩, ?_⟩
  · simp only [w_iconst, w_istore_1, w_istore_2, w_iload_2, w_bipush, w_icmp_ge, w_aload_0, w_get, w_aald, w_ifnull, w_ifnullN, w_iload_1, w_iadd, w_iinc, w_goto, w_iret, go_C_countHoldings_0, go_C_countHoldings_1, go_C_countHoldings_2, go_C_countHoldings_3, go_C_countHoldings_4, go_C_countHoldings_5, go_C_countHoldings_7, go_C_countHoldings_10, go_C_countHoldings_11, go_C_countHoldings_14, go_C_countHoldings_15, go_C_countHoldings_16, go_C_countHoldings_19, go_C_countHoldings_20, go_C_countHoldings_21, go_C_countHoldings_24, go_C_countHoldings_25, go_C_countHoldings_26, go_C_countHoldings_29, go_C_countHoldings_30, go_C_countHoldings_31, go_C_countHoldings_34, go_C_countHoldings_37, go_C_countHoldings_38, at_C_countHoldings_0, at_C_countHoldings_4, tf_C_countHoldings_26, tf_C_countHoldings_177, s_opt, s_oI, s_oL, s_oA, s_oAN, s_set0, s_set1, s_setn0, s_setn1, s_ok0, s_okn, s_oki, s_okr, s_okN, s_oko, s_oks, s_c1i, s_c1r, s_c1n, s_fi, s_fr, s_fn, s_fl, s_fz, s_rd, s_pt, s_ai, s_lds, s_ldsN, s_al, s_ar, s_cls, s_leni, s_lenz, s_lenr, s_lenN, s_lenl, s_rc0, s_rc1, s_rcv, s_clo, s_clx, s_cln, s_cl1, s_cl2, s_cl3, s_cl4, s_cl5, s_sw1, s_sw2, s_min0, s_min1, s_min2, List.getElem?_cons_zero, List.getElem?_cons_succ, List.take_succ_cons, List.take_zero, List.length_cons, List.length_nil, List.set_cons_zero, List.set_cons_succ, List.cons_append, List.nil_append, Option.toList_some, Option.toList_none, Nat.reduceAdd, Nat.reduceSub, Nat.reduceLeDiff, Nat.reduceLT, Nat.reduceEqDiff, Nat.zero_add, Nat.add_zero, Nat.le_refl, Nat.zero_le, true_and, and_true, true_or, or_true, or_false, false_or, and_self, not_false_eq_true, Nat.one_ne_zero, Nat.zero_ne_one, reduceCtorEq, false_and, and_false, g_ent, lg_sl, List.flatMap_cons, List.flatMap_nil, List.map_cons, List.map_nil, Value.category, ite_true, ite_false, if_true, if_false, if_pos, gEl, Option.isSome_some, s_c12, s_p12, s_c16, s_p16, s_c20, s_p20, s_c30, s_p30, s_c60, s_p60, s_c100, s_p100, s_c500, s_p500, s_c61, s_p61, s_c1952, s_p1952, s_c732, s_p732, s_c1830, s_p1830, s_c2000, s_p2000, not_true_eq_false, true_implies, false_implies, implies_true]
    exact ⟨100, 0, Nat.zero_le _, rfl, rfl, rfl, rfl, rfl, rfl, rfl⟩
  · rintro k pc lv st σ' c z ⟨i, hi, rfl, rfl, rfl, rfl, rfl, rfl, rfl⟩
    refine ⟨200, ?_⟩
    have hcl : (nI i).toNatClampNeg = i := pk_cl i
    simp only [w_iconst, w_istore_1, w_istore_2, w_iload_2, w_bipush, w_icmp_ge, w_aload_0, w_get, w_aald, w_ifnull, w_ifnullN, w_iload_1, w_iadd, w_iinc, w_goto, w_iret, go_C_countHoldings_0, go_C_countHoldings_1, go_C_countHoldings_2, go_C_countHoldings_3, go_C_countHoldings_4, go_C_countHoldings_5, go_C_countHoldings_7, go_C_countHoldings_10, go_C_countHoldings_11, go_C_countHoldings_14, go_C_countHoldings_15, go_C_countHoldings_16, go_C_countHoldings_19, go_C_countHoldings_20, go_C_countHoldings_21, go_C_countHoldings_24, go_C_countHoldings_25, go_C_countHoldings_26, go_C_countHoldings_29, go_C_countHoldings_30, go_C_countHoldings_31, go_C_countHoldings_34, go_C_countHoldings_37, go_C_countHoldings_38, at_C_countHoldings_0, at_C_countHoldings_4, tf_C_countHoldings_26, tf_C_countHoldings_177, s_opt, s_oI, s_oL, s_oA, s_oAN, s_set0, s_set1, s_setn0, s_setn1, s_ok0, s_okn, s_oki, s_okr, s_okN, s_oko, s_oks, s_c1i, s_c1r, s_c1n, s_fi, s_fr, s_fn, s_fl, s_fz, s_rd, s_pt, s_ai, s_lds, s_ldsN, s_al, s_ar, s_cls, s_leni, s_lenz, s_lenr, s_lenN, s_lenl, s_rc0, s_rc1, s_rcv, s_clo, s_clx, s_cln, s_cl1, s_cl2, s_cl3, s_cl4, s_cl5, s_sw1, s_sw2, s_min0, s_min1, s_min2, List.getElem?_cons_zero, List.getElem?_cons_succ, List.take_succ_cons, List.take_zero, List.length_cons, List.length_nil, List.set_cons_zero, List.set_cons_succ, List.cons_append, List.nil_append, Option.toList_some, Option.toList_none, Nat.reduceAdd, Nat.reduceSub, Nat.reduceLeDiff, Nat.reduceLT, Nat.reduceEqDiff, Nat.zero_add, Nat.add_zero, Nat.le_refl, Nat.zero_le, true_and, and_true, true_or, or_true, or_false, false_or, and_self, not_false_eq_true, Nat.one_ne_zero, Nat.zero_ne_one, reduceCtorEq, false_and, and_false, g_ent, lg_sl, List.flatMap_cons, List.flatMap_nil, List.map_cons, List.map_nil, Value.category, ite_true, ite_false, if_true, if_false, if_pos, gEl, Option.isSome_some, s_c12, s_p12, s_c16, s_p16, s_c20, s_p20, s_c30, s_p30, s_c60, s_p60, s_c100, s_p100, s_c500, s_p500, s_c61, s_p61, s_c1952, s_p1952, s_c732, s_p732, s_c1830, s_p1830, s_c2000, s_p2000, not_true_eq_false, true_implies, false_implies, implies_true, hd, hla, hcl]
    refine pk_le 100 i (fun h => ?_) (fun h => ?_)
    · have : i = 100 := by omega
      subst this
      exact hP
    · have go : ∀ x, x = nI (m_sum (m_holds M.2.2.2.2) (i + 1)) → ∃ k', k' < 100 - i ∧ iv_C_count σ' d 100 (m_sum (m_holds M.2.2.2.2)) k' 4 [some (.ref d), some (.int x), some (.int (nI i + 1))] [] σ' 0 0 := by
        intro x hx
        exact ⟨100 - (i + 1), by omega, i + 1, by omega, rfl, rfl, by rw [hx, nI_1], rfl, rfl, rfl, rfl⟩
      have e5 : m_sum (m_holds M.2.2.2.2) (i + 1) = m_sum (m_holds M.2.2.2.2) i + m_holds M.2.2.2.2 i := rfl
      have q1 : vp_in (nI i) 100 := pk_in i 100 (by omega)
      rcases hL i (by omega) with ⟨e1, e2⟩ | ⟨a, L, e1, e2, j, o, ⟨ha, -⟩, -⟩
      · refine ⟨q1, ar_n e1 (go _ ?_)⟩
        have e6 : m_holds M.2.2.2.2 i = 0 := by unfold m_holds; rw [e2]
        rw [e5, e6]; rfl
      · refine ⟨q1, ar_s e1 ⟨q1, ar_s e1 ?_⟩⟩
        simp only [w_iconst, w_istore_1, w_istore_2, w_iload_2, w_bipush, w_icmp_ge, w_aload_0, w_get, w_aald, w_ifnull, w_ifnullN, w_iload_1, w_iadd, w_iinc, w_goto, w_iret, go_C_countHoldings_0, go_C_countHoldings_1, go_C_countHoldings_2, go_C_countHoldings_3, go_C_countHoldings_4, go_C_countHoldings_5, go_C_countHoldings_7, go_C_countHoldings_10, go_C_countHoldings_11, go_C_countHoldings_14, go_C_countHoldings_15, go_C_countHoldings_16, go_C_countHoldings_19, go_C_countHoldings_20, go_C_countHoldings_21, go_C_countHoldings_24, go_C_countHoldings_25, go_C_countHoldings_26, go_C_countHoldings_29, go_C_countHoldings_30, go_C_countHoldings_31, go_C_countHoldings_34, go_C_countHoldings_37, go_C_countHoldings_38, at_C_countHoldings_0, at_C_countHoldings_4, tf_C_countHoldings_26, tf_C_countHoldings_177, s_opt, s_oI, s_oL, s_oA, s_oAN, s_set0, s_set1, s_setn0, s_setn1, s_ok0, s_okn, s_oki, s_okr, s_okN, s_oko, s_oks, s_c1i, s_c1r, s_c1n, s_fi, s_fr, s_fn, s_fl, s_fz, s_rd, s_pt, s_ai, s_lds, s_ldsN, s_al, s_ar, s_cls, s_leni, s_lenz, s_lenr, s_lenN, s_lenl, s_rc0, s_rc1, s_rcv, s_clo, s_clx, s_cln, s_cl1, s_cl2, s_cl3, s_cl4, s_cl5, s_sw1, s_sw2, s_min0, s_min1, s_min2, List.getElem?_cons_zero, List.getElem?_cons_succ, List.take_succ_cons, List.take_zero, List.length_cons, List.length_nil, List.set_cons_zero, List.set_cons_succ, List.cons_append, List.nil_append, Option.toList_some, Option.toList_none, Nat.reduceAdd, Nat.reduceSub, Nat.reduceLeDiff, Nat.reduceLT, Nat.reduceEqDiff, Nat.zero_add, Nat.add_zero, Nat.le_refl, Nat.zero_le, true_and, and_true, true_or, or_true, or_false, false_or, and_self, not_false_eq_true, Nat.one_ne_zero, Nat.zero_ne_one, reduceCtorEq, false_and, and_false, g_ent, lg_sl, List.flatMap_cons, List.flatMap_nil, List.map_cons, List.map_nil, Value.category, ite_true, ite_false, if_true, if_false, if_pos, gEl, Option.isSome_some, s_c12, s_p12, s_c16, s_p16, s_c20, s_p20, s_c30, s_p30, s_c60, s_p60, s_c100, s_p100, s_c500, s_p500, s_c61, s_p61, s_c1952, s_p1952, s_c732, s_p732, s_c1830, s_p1830, s_c2000, s_p2000, not_true_eq_false, true_implies, false_implies, implies_true, ha]
        refine go _ ?_
        have e6 : m_holds M.2.2.2.2 i = L.2.1 := by unfold m_holds; rw [e2]
        rw [e5, e6, nI_add]
def sp_C_countWaiting : gSpec := fun av σ P => ∃ (d : Nat) (M : mM), av = [.ref d] ∧ RepC σ d M ∧ okM M ∧ P (some (.int (nI (m_sum (m_waits M.2.2.2.2) 100)))) σ
def T_C_countWaiting : gT := gTT [(26, 6, 2, 1, 2), (174, 4, 2, 0, 1), (177, 4, 3, 0, 1)] [] [] [] [] []
theorem tf_C_countWaiting_26 : (T_C_countWaiting).1 26 = some (6, 2, 1, 2) := rfl
theorem tf_C_countWaiting_174 : (T_C_countWaiting).1 174 = some (4, 2, 0, 1) := rfl
theorem tf_C_countWaiting_177 : (T_C_countWaiting).1 177 = some (4, 3, 0, 1) := rfl
theorem t_C_countWaiting (l : Launch) (sc : gX) : g_TOK l sc (gRm 1 0 0) (T_C_countWaiting) gEl "DataSets" gCl gTb gNs gAT gAO := gTT_ok
  (List.forall_mem_cons.mpr ⟨⟨R_C, F_C, 4, t_C 2, rfl, by decide, rfl, by decide +kernel, rfl, by decide, Or.inl ⟨wd64, by decide⟩⟩, List.forall_mem_cons.mpr ⟨⟨R_L, F_L, 4, t_L 2, rfl, by decide, rfl, by decide +kernel, rfl, by decide, Or.inr ⟨⟨_, List.mem_of_getElem? (i := 11) rfl⟩, by decide⟩⟩, List.forall_mem_cons.mpr ⟨⟨R_L, F_L, 4, t_L 3, rfl, by decide, rfl, by decide +kernel, rfl, by decide, Or.inr ⟨⟨_, List.mem_of_getElem? (i := 12) rfl⟩, by decide⟩⟩, fun _ h => absurd h List.not_mem_nil⟩⟩⟩)
  (fun _ h => absurd h List.not_mem_nil)
  (fun _ h => absurd h List.not_mem_nil)
  (fun _ h => absurd h List.not_mem_nil)
  (fun _ h => absurd h List.not_mem_nil)
  (fun _ h => absurd h List.not_mem_nil)
set_option maxHeartbeats 4000000 in
set_option maxRecDepth 100000 in
theorem k_C_countWaiting (l : Launch) (sc : gX) : g_Met l sc gCl gTb gNs gAT gAO y_C_countWaiting b_C_countWaiting 3 (some .int) (gRm 1 0 0) (sp_C_countWaiting) 0 0 := by
  refine g_meth (T := (T_C_countWaiting)) (el := gEl) (ini := false) (rk := 1) (code := c_C_countWaiting) gG_ok (t_C_countWaiting l sc) (by decide) (by decide) rfl ⟨rfl, rfl, by decide, by decide⟩ ok_C_countWaiting ?_
  intro av σ P hsp
  obtain ⟨d, M, rfl, ⟨ow, v, t, sa, la, sets, lines, hd, hv, hsa, hla, ho, hS, hL⟩, hok, hP⟩ := hsp
  refine ⟨by simp [lg_sl, Value.category], iv_C_count σ d 100 (m_sum (m_waits M.2.2.2.2)), ⟨200, ?_⟩, ?_⟩
  · simp only [w_iconst, w_istore_1, w_istore_2, w_iload_2, w_bipush, w_icmp_ge, w_aload_0, w_get, w_aald, w_ifnull, w_ifnullN, w_iload_1, w_isub, w_iadd, w_iinc, w_goto, w_iret, go_C_countWaiting_0, go_C_countWaiting_1, go_C_countWaiting_2, go_C_countWaiting_3, go_C_countWaiting_4, go_C_countWaiting_5, go_C_countWaiting_7, go_C_countWaiting_10, go_C_countWaiting_11, go_C_countWaiting_14, go_C_countWaiting_15, go_C_countWaiting_16, go_C_countWaiting_19, go_C_countWaiting_20, go_C_countWaiting_21, go_C_countWaiting_24, go_C_countWaiting_25, go_C_countWaiting_26, go_C_countWaiting_29, go_C_countWaiting_30, go_C_countWaiting_33, go_C_countWaiting_34, go_C_countWaiting_35, go_C_countWaiting_38, go_C_countWaiting_39, go_C_countWaiting_40, go_C_countWaiting_41, go_C_countWaiting_44, go_C_countWaiting_47, go_C_countWaiting_48, at_C_countWaiting_0, at_C_countWaiting_4, tf_C_countWaiting_26, tf_C_countWaiting_174, tf_C_countWaiting_177, s_opt, s_oI, s_oL, s_oA, s_oAN, s_set0, s_set1, s_setn0, s_setn1, s_ok0, s_okn, s_oki, s_okr, s_okN, s_oko, s_oks, s_c1i, s_c1r, s_c1n, s_fi, s_fr, s_fn, s_fl, s_fz, s_rd, s_pt, s_ai, s_lds, s_ldsN, s_al, s_ar, s_cls, s_leni, s_lenz, s_lenr, s_lenN, s_lenl, s_rc0, s_rc1, s_rcv, s_clo, s_clx, s_cln, s_cl1, s_cl2, s_cl3, s_cl4, s_cl5, s_sw1, s_sw2, s_min0, s_min1, s_min2, List.getElem?_cons_zero, List.getElem?_cons_succ, List.take_succ_cons, List.take_zero, List.length_cons, List.length_nil, List.set_cons_zero, List.set_cons_succ, List.cons_append, List.nil_append, Option.toList_some, Option.toList_none, Nat.reduceAdd, Nat.reduceSub, Nat.reduceLeDiff, Nat.reduceLT, Nat.reduceEqDiff, Nat.zero_add, Nat.add_zero, Nat.le_refl, Nat.zero_le, true_and, and_true, true_or, or_true, or_false, false_or, and_self, not_false_eq_true, Nat.one_ne_zero, Nat.zero_ne_one, reduceCtorEq, false_and, and_false, g_ent, lg_sl, List.flatMap_cons, List.flatMap_nil, List.map_cons, List.map_nil, Value.category, ite_true, ite_false, if_true, if_false, if_pos, gEl, Option.isSome_some, s_c12, s_p12, s_c16, s_p16, s_c20, s_p20, s_c30, s_p30, s_c60, s_p60, s_c100, s_p100, s_c500, s_p500, s_c61, s_p61, s_c1952, s_p1952, s_c732, s_p732, s_c1830, s_p1830, s_c2000, s_p2000, not_true_eq_false, true_implies, false_implies, implies_true]
    exact ⟨100, 0, Nat.zero_le _, rfl, rfl, rfl, rfl, rfl, rfl, rfl⟩
  · rintro k pc lv st σ' c z ⟨i, hi, rfl, rfl, rfl, rfl, rfl, rfl, rfl⟩
    refine ⟨200, ?_⟩
    have hcl : (nI i).toNatClampNeg = i := pk_cl i
    simp only [w_iconst, w_istore_1, w_istore_2, w_iload_2, w_bipush, w_icmp_ge, w_aload_0, w_get, w_aald, w_ifnull, w_ifnullN, w_iload_1, w_isub, w_iadd, w_iinc, w_goto, w_iret, go_C_countWaiting_0, go_C_countWaiting_1, go_C_countWaiting_2, go_C_countWaiting_3, go_C_countWaiting_4, go_C_countWaiting_5, go_C_countWaiting_7, go_C_countWaiting_10, go_C_countWaiting_11, go_C_countWaiting_14, go_C_countWaiting_15, go_C_countWaiting_16, go_C_countWaiting_19, go_C_countWaiting_20, go_C_countWaiting_21, go_C_countWaiting_24, go_C_countWaiting_25, go_C_countWaiting_26, go_C_countWaiting_29, go_C_countWaiting_30, go_C_countWaiting_33, go_C_countWaiting_34, go_C_countWaiting_35, go_C_countWaiting_38, go_C_countWaiting_39, go_C_countWaiting_40, go_C_countWaiting_41, go_C_countWaiting_44, go_C_countWaiting_47, go_C_countWaiting_48, at_C_countWaiting_0, at_C_countWaiting_4, tf_C_countWaiting_26, tf_C_countWaiting_174, tf_C_countWaiting_177, s_opt, s_oI, s_oL, s_oA, s_oAN, s_set0, s_set1, s_setn0, s_setn1, s_ok0, s_okn, s_oki, s_okr, s_okN, s_oko, s_oks, s_c1i, s_c1r, s_c1n, s_fi, s_fr, s_fn, s_fl, s_fz, s_rd, s_pt, s_ai, s_lds, s_ldsN, s_al, s_ar, s_cls, s_leni, s_lenz, s_lenr, s_lenN, s_lenl, s_rc0, s_rc1, s_rcv, s_clo, s_clx, s_cln, s_cl1, s_cl2, s_cl3, s_cl4, s_cl5, s_sw1, s_sw2, s_min0, s_min1, s_min2, List.getElem?_cons_zero, List.getElem?_cons_succ, List.take_succ_cons, List.take_zero, List.length_cons, List.length_nil, List.set_cons_zero, List.set_cons_succ, List.cons_append, List.nil_append, Option.toList_some, Option.toList_none, Nat.reduceAdd, Nat.reduceSub, Nat.reduceLeDiff, Nat.reduceLT, Nat.reduceEqDiff, Nat.zero_add, Nat.add_zero, Nat.le_refl, Nat.zero_le, true_and, and_true, true_or, or_true, or_false, false_or, and_self, not_false_eq_true, Nat.one_ne_zero, Nat.zero_ne_one, reduceCtorEq, false_and, and_false, g_ent, lg_sl, List.flatMap_cons, List.flatMap_nil, List.map_cons, List.map_nil, Value.category, ite_true, ite_false, if_true, if_false, if_pos, gEl, Option.isSome_some, s_c12, s_p12, s_c16, s_p16, s_c20, s_p20, s_c30, s_p30, s_c60, s_p60, s_c100, s_p100, s_c500, s_p500, s_c61, s_p61, s_c1952, s_p1952, s_c732, s_p732, s_c1830, s_p1830, s_c2000, s_p2000, not_true_eq_false, true_implies, false_implies, implies_true, hd, hla, hcl]
    refine pk_le 100 i (fun h => ?_) (fun h => ?_)
    · have : i = 100 := by omega
      subst this
      exact hP
    · have go : ∀ x, x = nI (m_sum (m_waits M.2.2.2.2) (i + 1)) → ∃ k', k' < 100 - i ∧ iv_C_count σ' d 100 (m_sum (m_waits M.2.2.2.2)) k' 4 [some (.ref d), some (.int x), some (.int (nI i + 1))] [] σ' 0 0 := by
        intro x hx
        exact ⟨100 - (i + 1), by omega, i + 1, by omega, rfl, rfl, by rw [hx, nI_1], rfl, rfl, rfl, rfl⟩
      have e5 : m_sum (m_waits M.2.2.2.2) (i + 1) = m_sum (m_waits M.2.2.2.2) i + m_waits M.2.2.2.2 i := rfl
      have q1 : vp_in (nI i) 100 := pk_in i 100 (by omega)
      rcases hL i (by omega) with ⟨e1, e2⟩ | ⟨a, L, e1, e2, j, o, ⟨ha, -⟩, -⟩
      · refine ⟨q1, ar_n e1 (go _ ?_)⟩
        have e6 : m_waits M.2.2.2.2 i = 0 := by unfold m_waits; rw [e2]
        rw [e5, e6]; rfl
      · refine ⟨q1, ar_s e1 ⟨q1, ar_s e1 ?_⟩⟩
        simp only [w_iconst, w_istore_1, w_istore_2, w_iload_2, w_bipush, w_icmp_ge, w_aload_0, w_get, w_aald, w_ifnull, w_ifnullN, w_iload_1, w_isub, w_iadd, w_iinc, w_goto, w_iret, go_C_countWaiting_0, go_C_countWaiting_1, go_C_countWaiting_2, go_C_countWaiting_3, go_C_countWaiting_4, go_C_countWaiting_5, go_C_countWaiting_7, go_C_countWaiting_10, go_C_countWaiting_11, go_C_countWaiting_14, go_C_countWaiting_15, go_C_countWaiting_16, go_C_countWaiting_19, go_C_countWaiting_20, go_C_countWaiting_21, go_C_countWaiting_24, go_C_countWaiting_25, go_C_countWaiting_26, go_C_countWaiting_29, go_C_countWaiting_30, go_C_countWaiting_33, go_C_countWaiting_34, go_C_countWaiting_35, go_C_countWaiting_38, go_C_countWaiting_39, go_C_countWaiting_40, go_C_countWaiting_41, go_C_countWaiting_44, go_C_countWaiting_47, go_C_countWaiting_48, at_C_countWaiting_0, at_C_countWaiting_4, tf_C_countWaiting_26, tf_C_countWaiting_174, tf_C_countWaiting_177, s_opt, s_oI, s_oL, s_oA, s_oAN, s_set0, s_set1, s_setn0, s_setn1, s_ok0, s_okn, s_oki, s_okr, s_okN, s_oko, s_oks, s_c1i, s_c1r, s_c1n, s_fi, s_fr, s_fn, s_fl, s_fz, s_rd, s_pt, s_ai, s_lds, s_ldsN, s_al, s_ar, s_cls, s_leni, s_lenz, s_lenr, s_lenN, s_lenl, s_rc0, s_rc1, s_rcv, s_clo, s_clx, s_cln, s_cl1, s_cl2, s_cl3, s_cl4, s_cl5, s_sw1, s_sw2, s_min0, s_min1, s_min2, List.getElem?_cons_zero, List.getElem?_cons_succ, List.take_succ_cons, List.take_zero, List.length_cons, List.length_nil, List.set_cons_zero, List.set_cons_succ, List.cons_append, List.nil_append, Option.toList_some, Option.toList_none, Nat.reduceAdd, Nat.reduceSub, Nat.reduceLeDiff, Nat.reduceLT, Nat.reduceEqDiff, Nat.zero_add, Nat.add_zero, Nat.le_refl, Nat.zero_le, true_and, and_true, true_or, or_true, or_false, false_or, and_self, not_false_eq_true, Nat.one_ne_zero, Nat.zero_ne_one, reduceCtorEq, false_and, and_false, g_ent, lg_sl, List.flatMap_cons, List.flatMap_nil, List.map_cons, List.map_nil, Value.category, ite_true, ite_false, if_true, if_false, if_pos, gEl, Option.isSome_some, s_c12, s_p12, s_c16, s_p16, s_c20, s_p20, s_c30, s_p30, s_c60, s_p60, s_c100, s_p100, s_c500, s_p500, s_c61, s_p61, s_c1952, s_p1952, s_c732, s_p732, s_c1830, s_p1830, s_c2000, s_p2000, not_true_eq_false, true_implies, false_implies, implies_true, ha]
        refine ⟨q1, ar_s e1 ?_⟩
        simp only [w_iconst, w_istore_1, w_istore_2, w_iload_2, w_bipush, w_icmp_ge, w_aload_0, w_get, w_aald, w_ifnull, w_ifnullN, w_iload_1, w_isub, w_iadd, w_iinc, w_goto, w_iret, go_C_countWaiting_0, go_C_countWaiting_1, go_C_countWaiting_2, go_C_countWaiting_3, go_C_countWaiting_4, go_C_countWaiting_5, go_C_countWaiting_7, go_C_countWaiting_10, go_C_countWaiting_11, go_C_countWaiting_14, go_C_countWaiting_15, go_C_countWaiting_16, go_C_countWaiting_19, go_C_countWaiting_20, go_C_countWaiting_21, go_C_countWaiting_24, go_C_countWaiting_25, go_C_countWaiting_26, go_C_countWaiting_29, go_C_countWaiting_30, go_C_countWaiting_33, go_C_countWaiting_34, go_C_countWaiting_35, go_C_countWaiting_38, go_C_countWaiting_39, go_C_countWaiting_40, go_C_countWaiting_41, go_C_countWaiting_44, go_C_countWaiting_47, go_C_countWaiting_48, at_C_countWaiting_0, at_C_countWaiting_4, tf_C_countWaiting_26, tf_C_countWaiting_174, tf_C_countWaiting_177, s_opt, s_oI, s_oL, s_oA, s_oAN, s_set0, s_set1, s_setn0, s_setn1, s_ok0, s_okn, s_oki, s_okr, s_okN, s_oko, s_oks, s_c1i, s_c1r, s_c1n, s_fi, s_fr, s_fn, s_fl, s_fz, s_rd, s_pt, s_ai, s_lds, s_ldsN, s_al, s_ar, s_cls, s_leni, s_lenz, s_lenr, s_lenN, s_lenl, s_rc0, s_rc1, s_rcv, s_clo, s_clx, s_cln, s_cl1, s_cl2, s_cl3, s_cl4, s_cl5, s_sw1, s_sw2, s_min0, s_min1, s_min2, List.getElem?_cons_zero, List.getElem?_cons_succ, List.take_succ_cons, List.take_zero, List.length_cons, List.length_nil, List.set_cons_zero, List.set_cons_succ, List.cons_append, List.nil_append, Option.toList_some, Option.toList_none, Nat.reduceAdd, Nat.reduceSub, Nat.reduceLeDiff, Nat.reduceLT, Nat.reduceEqDiff, Nat.zero_add, Nat.add_zero, Nat.le_refl, Nat.zero_le, true_and, and_true, true_or, or_true, or_false, false_or, and_self, not_false_eq_true, Nat.one_ne_zero, Nat.zero_ne_one, reduceCtorEq, false_and, and_false, g_ent, lg_sl, List.flatMap_cons, List.flatMap_nil, List.map_cons, List.map_nil, Value.category, ite_true, ite_false, if_true, if_false, if_pos, gEl, Option.isSome_some, s_c12, s_p12, s_c16, s_p16, s_c20, s_p20, s_c30, s_p30, s_c60, s_p60, s_c100, s_p100, s_c500, s_p500, s_c61, s_p61, s_c1952, s_p1952, s_c732, s_p732, s_c1830, s_p1830, s_c2000, s_p2000, not_true_eq_false, true_implies, false_implies, implies_true, ha]
        refine go _ ?_
        have e6 : m_waits M.2.2.2.2 i = L.1 - L.2.1 := by unfold m_waits; rw [e2]
        rw [e5, e6, pk_sub (hok.2.2.2 i L e2).2.1, nI_add]
