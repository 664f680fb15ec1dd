/-! what a state of the class is -/
/-- a set: name, further, guard; extents; directory; attributes -/
abbrev mS : Type := (Nat × Nat × Int64) × (Nat × (Nat → Nat) × (Nat → Nat)) × (Nat × Nat × (Nat → Nat) × (Nat → Nat) × (Nat → Nat)) × ((Nat → Bool) × (Nat → Int32))
/-- a line: how many, how many hold; jobs, alone -/
abbrev mL : Type := Nat × Nat × (Nat → Nat) × (Nat → Bool)
/-- a set's cells; ow tells each cell's owner: b .. b + 10 -/
def rSet (σ : gS) (ow : Nat → Nat) (b a : Nat) (S : mS) : Prop := ∃ e ef el r d1 d2 d3 t t1 t2, σ a = some (g_ob 1 [.int (nI S.1.1), .int (nI S.1.2.1), .long S.1.2.2, .ref e, .ref r, .ref t]) ∧ rExt σ e ef el S.2.1.1 S.2.1.2.1 S.2.1.2.2 ∧ rDir σ r d1 d2 d3 S.2.2.1.1 S.2.2.1.2.1 S.2.2.1.2.2.1 S.2.2.1.2.2.2.1 S.2.2.1.2.2.2.2 ∧ rAtt σ t t1 t2 S.2.2.2.1 S.2.2.2.2 ∧
  ow a = b ∧ ow e = b + 1 ∧ ow ef = b + 2 ∧ ow el = b + 3 ∧ ow r = b + 4 ∧ ow d1 = b + 5 ∧ ow d2 = b + 6 ∧ ow d3 = b + 7 ∧ ow t = b + 8 ∧ ow t1 = b + 9 ∧ ow t2 = b + 10
def mS0 (nm fu : Nat) : mS := ((nm, fu, -9223372036854775808), (0, fun _ => 0, fun _ => 0), (0, 0, fun _ => 0, fun _ => 0, fun _ => 0), (fun _ => false, fun _ => 0))
def sp_S_init : gSpec := fun av σ P => ∃ (a nm fu b : Nat) (ow : Nat → Nat), av = [.ref a, .int (nI nm), .int (nI fu)] ∧ σ a = some (g_ob 1 [.int 0, .int 0, .long 0, .null, .null, .null]) ∧ ow a = b ∧ ∀ σ' ow', rSet σ' ow' b a (mS0 nm fu) → (∀ y e, σ y = some e → y ≠ a → σ' y = some e) → (∀ y e, σ y = some e → ow' y = ow y) → P none σ'
def T_S_init : gT := gTT [(7, 1, 0, 0, 1), (13, 1, 1, 0, 2), (20, 1, 2, 2, 1), (27, 1, 3, 1, 2), (34, 1, 4, 1, 2), (41, 1, 5, 1, 2)] [(26, 1, 1, sp_E_init, 2, 32), (33, 1, 1, sp_D_init, 3, 36), (40, 1, 1, sp_A_init, 2, 60)] [(24, 3, [.null, .null, .int 0]), (31, 2, [.null, .null, .null, .int 0, .int 0]), (38, 0, [.null, .null])] [] [(18, (-9223372036854775808))] [(1, 0)]
theorem tf_S_init_7 : (T_S_init).1 7 = some (1, 0, 0, 1) := rfl
theorem tf_S_init_13 : (T_S_init).1 13 = some (1, 1, 0, 2) := rfl
theorem tf_S_init_20 : (T_S_init).1 20 = some (1, 2, 2, 1) := rfl
theorem tf_S_init_27 : (T_S_init).1 27 = some (1, 3, 1, 2) := rfl
theorem tf_S_init_34 : (T_S_init).1 34 = some (1, 4, 1, 2) := rfl
theorem tf_S_init_41 : (T_S_init).1 41 = some (1, 5, 1, 2) := rfl
theorem tc_S_init_26 : (T_S_init).2.1 26 = some (1, 1, sp_E_init, 2, 32) := rfl
theorem tm_S_init_26 : (T_S_init).2.2.2.2.2 26 = none := rfl
theorem tc_S_init_33 : (T_S_init).2.1 33 = some (1, 1, sp_D_init, 3, 36) := rfl
theorem tm_S_init_33 : (T_S_init).2.2.2.2.2 33 = none := rfl
theorem tc_S_init_40 : (T_S_init).2.1 40 = some (1, 1, sp_A_init, 2, 60) := rfl
theorem tm_S_init_40 : (T_S_init).2.2.2.2.2 40 = none := rfl
theorem tn_S_init_24 : (T_S_init).2.2.1 24 = some (3, [.null, .null, .int 0]) := rfl
theorem tn_S_init_31 : (T_S_init).2.2.1 31 = some (2, [.null, .null, .null, .int 0, .int 0]) := rfl
theorem tn_S_init_38 : (T_S_init).2.2.1 38 = some (0, [.null, .null]) := rfl
theorem tl_S_init_18 : (T_S_init).2.2.2.2.1 18 = some (-9223372036854775808) := rfl
theorem tm_S_init_1 : (T_S_init).2.2.2.2.2 1 = some 0 := rfl
theorem t_S_init (l : Launch) (sc : gX) : g_TOK l sc (gRm 2 10 138) (T_S_init) gEl "DataSets$DataSet" gCl gTb gNs gAT gAO := gTT_ok
  (List.forall_mem_cons.mpr ⟨⟨R_S, F_S, 6, t_S 0, rfl, by decide, rfl, by decide +kernel, rfl, by decide, Or.inl ⟨wd152, by decide⟩⟩, List.forall_mem_cons.mpr ⟨⟨R_S, F_S, 6, t_S 1, rfl, by decide, rfl, by decide +kernel, rfl, by decide, Or.inl ⟨wd154, by decide⟩⟩, List.forall_mem_cons.mpr ⟨⟨R_S, F_S, 6, t_S 2, rfl, by decide, rfl, by decide +kernel, rfl, by decide, Or.inl ⟨wd156, by decide⟩⟩, List.forall_mem_cons.mpr ⟨⟨R_S, F_S, 6, t_S 3, rfl, by decide, rfl, by decide +kernel, rfl, by decide, Or.inl ⟨wd158, by decide⟩⟩, List.forall_mem_cons.mpr ⟨⟨R_S, F_S, 6, t_S 4, rfl, by decide, rfl, by decide +kernel, rfl, by decide, Or.inl ⟨wd160, by decide⟩⟩, List.forall_mem_cons.mpr ⟨⟨R_S, F_S, 6, t_S 5, rfl, by decide, rfl, by decide +kernel, rfl, by decide, Or.inl ⟨wd162, by decide⟩⟩, fun _ h => absurd h List.not_mem_nil⟩⟩⟩⟩⟩⟩)
  (List.forall_mem_cons.mpr ⟨⟨y_E_init, b_E_init, 1, _, gRm 1 2 32, k_E_init l sc, rfl, rfl, by decide, by decide, wd100, wd29, ⟨by decide, by decide⟩, Or.inl wd98, ⟨by decide +kernel, rfl, rfl, wd99⟩⟩, List.forall_mem_cons.mpr ⟨⟨y_D_init, b_D_init, 1, _, gRm 1 3 36, k_D_init l sc, rfl, rfl, by decide, by decide, wd120, wd30, ⟨by decide, by decide⟩, Or.inl wd118, ⟨by decide +kernel, rfl, rfl, wd119⟩⟩, List.forall_mem_cons.mpr ⟨⟨y_A_init, b_A_init, 1, _, gRm 1 2 60, k_A_init l sc, rfl, rfl, by decide, by decide, wd143, wd31, ⟨by decide, by decide⟩, Or.inl wd141, ⟨by decide +kernel, rfl, rfl, wd142⟩⟩, fun _ h => absurd h List.not_mem_nil⟩⟩⟩)
  (List.forall_mem_cons.mpr ⟨⟨R_E, F_E, 3, rfl, rfl, wd96, wd97, wd29, t_E, t_E_ok, by decide +kernel⟩, List.forall_mem_cons.mpr ⟨⟨R_D, F_D, 5, rfl, rfl, wd116, wd117, wd30, t_D, t_D_ok, by decide +kernel⟩, List.forall_mem_cons.mpr ⟨⟨R_A, F_A, 2, rfl, rfl, wd139, wd140, wd31, t_A, t_A_ok, by decide +kernel⟩, fun _ h => absurd h List.not_mem_nil⟩⟩⟩)
  (fun _ h => absurd h List.not_mem_nil)
  (List.forall_mem_cons.mpr ⟨wd95, fun _ h => absurd h List.not_mem_nil⟩)
  (List.forall_mem_cons.mpr ⟨⟨fun _ => ⟨wd94, wd39, gTb_in 40 (by decide +kernel) rfl⟩, (fun h => by cases h), (fun h => by cases h)⟩, fun _ h => absurd h List.not_mem_nil⟩)
set_option maxHeartbeats 4000000 in
set_option maxRecDepth 100000 in
theorem k_S_init (l : Launch) (sc : gX) : g_Met l sc gCl gTb gNs gAT gAO y_S_init b_S_init 3 none (gRm 2 10 138) (sp_S_init) 10 138 := by
  refine g_meth (T := (T_S_init)) (el := gEl) (ini := true) (rk := 0) (code := c_S_init) gG_ok (t_S_init l sc) (by decide) (by decide) rfl ⟨rfl, rfl, by decide, by decide⟩ ok_S_init ?_
  intro av σ P hsp
  obtain ⟨a, nm, fu, b, ow, rfl, ha, hoa, hP⟩ := hsp
  refine ⟨by simp [lg_sl, Value.category], fun _ _ _ _ _ _ _ => False, ⟨300, ?_⟩, fun _ _ _ _ _ _ _ h => h.elim⟩
  simp only [w_aload_0, w_invokespecial, w_iload_1, w_put, w_iload_2, w_ldc2, w_new, w_dup, w_ret, go_S_init_0, go_S_init_1, go_S_init_4, go_S_init_5, go_S_init_6, go_S_init_9, go_S_init_10, go_S_init_11, go_S_init_14, go_S_init_15, go_S_init_18, go_S_init_21, go_S_init_22, go_S_init_25, go_S_init_26, go_S_init_29, go_S_init_32, go_S_init_33, go_S_init_36, go_S_init_37, go_S_init_40, go_S_init_43, go_S_init_44, go_S_init_47, go_S_init_48, go_S_init_51, go_S_init_54, at_S_init_0, tf_S_init_7, tf_S_init_13, tf_S_init_20, tf_S_init_27, tf_S_init_34, tf_S_init_41, tc_S_init_26, tm_S_init_26, tc_S_init_33, tm_S_init_33, tc_S_init_40, tm_S_init_40, tn_S_init_24, tn_S_init_31, tn_S_init_38, tl_S_init_18, tm_S_init_1, s_opt, s_oI, s_oL, s_oA, s_oAN, s_set0, s_set1, s_setn0, s_setn1, s_ok0, s_okn, s_oki, s_okr, s_okN, s_oko, s_oks, s_c1i, s_c1r, s_c1n, s_fi, s_fr, s_fn, s_fl, s_fz, s_rd, s_pt, s_ai, s_lds, s_ldsN, s_al, s_ar, s_cls, s_leni, s_lenz, s_lenr, s_lenN, s_lenl, s_rc0, s_rc1, s_rcv, s_clo, s_clx, s_cln, s_cl1, s_cl2, s_cl3, s_cl4, s_cl5, s_sw1, s_sw2, s_min0, s_min1, s_min2, List.getElem?_cons_zero, List.getElem?_cons_succ, List.take_succ_cons, List.take_zero, List.length_cons, List.length_nil, List.set_cons_zero, List.set_cons_succ, List.cons_append, List.nil_append, Option.toList_some, Option.toList_none, Nat.reduceAdd, Nat.reduceSub, Nat.reduceLeDiff, Nat.reduceLT, Nat.reduceEqDiff, Nat.zero_add, Nat.add_zero, Nat.le_refl, Nat.zero_le, true_and, and_true, true_or, or_true, or_false, false_or, and_self, not_false_eq_true, Nat.one_ne_zero, Nat.zero_ne_one, reduceCtorEq, false_and, and_false, g_ent, lg_sl, List.flatMap_cons, List.flatMap_nil, List.map_cons, List.map_nil, Value.category, ite_true, ite_false, if_true, if_false, if_pos, gEl, Option.isSome_some, s_c12, s_p12, s_c16, s_p16, s_c20, s_p20, s_c30, s_p30, s_c60, s_p60, s_c100, s_p100, s_c500, s_p500, s_c61, s_p61, s_c1952, s_p1952, s_c732, s_p732, s_c1830, s_p1830, s_c2000, s_p2000, not_true_eq_false, true_implies, false_implies, implies_true, ha, g_up_s, g_up_up]
  refine fun e he _ => ?_
  have p1 : e ≠ a := fun z => by rw [z, g_up_s] at he; cases he
  rw [g_up_n p1] at he
  refine ⟨e, rfl, g_up_s, fun ef el hef hel hne => ?_⟩
  have p2 : ef ≠ e := fun z => by rw [z, g_up_s] at hef; cases hef
  rw [g_up_n p2] at hef
  have p3 : ef ≠ a := fun z => by rw [z, g_up_s] at hef; cases hef
  rw [g_up_n p3] at hef
  have p4 : el ≠ e := fun z => by rw [z, g_up_s] at hel; cases hel
  rw [g_up_n p4] at hel
  have p5 : el ≠ a := fun z => by rw [z, g_up_s] at hel; cases hel
  rw [g_up_n p5] at hel
  generalize hσ1 : g_up _ e (g_ob 3 [.ref ef, .ref el, .int (nI 0)]) = σ1
  have a1 : σ1 a = some (g_ob 1 [.int (nI nm), .int (nI fu), .long (-9223372036854775808), .null, .null, .null]) := by rw [← hσ1, g_up_n (Ne.symm p1), g_up_n (Ne.symm p5), g_up_n (Ne.symm p3), g_up_n (Ne.symm p1), g_up_s]
  have x1 : rExt σ1 e ef el 0 (fun _ => 0) (fun _ => 0) := by
    rw [← hσ1]
    exact ⟨g_up_s, by rw [g_up_n p2, g_up_n hne, g_up_s], by rw [g_up_n p4, g_up_s], hne⟩
  have k1 : ∀ y x, σ y = some x → y ≠ a → σ1 y = some x := by
    intro y x hy hya
    rw [← hσ1, g_up_n (g_ne_new hy he), g_up_n (g_ne_new hy hel), g_up_n (g_ne_new hy hef), g_up_n (g_ne_new hy he), g_up_n hya]
    exact hy
  have z1 : ∀ q, σ1 q = none → σ q = none ∧ q ≠ a ∧ q ≠ e ∧ q ≠ ef ∧ q ≠ el := by
    intro q hq
    rw [← hσ1] at hq
    have w1 : q ≠ e := fun z => by rw [z, g_up_s] at hq; cases hq
    rw [g_up_n w1] at hq
    have w2 : q ≠ el := fun z => by rw [z, g_up_s] at hq; cases hq
    rw [g_up_n w2] at hq
    have w3 : q ≠ ef := fun z => by rw [z, g_up_s] at hq; cases hq
    rw [g_up_n w3, g_up_n w1] at hq
    have w4 : q ≠ a := fun z => by rw [z, g_up_s] at hq; cases hq
    rw [g_up_n w4] at hq
    exact ⟨hq, w4, w1, w3, w2⟩
  clear hσ1
  simp only [w_aload_0, w_invokespecial, w_iload_1, w_put, w_iload_2, w_ldc2, w_new, w_dup, w_ret, go_S_init_0, go_S_init_1, go_S_init_4, go_S_init_5, go_S_init_6, go_S_init_9, go_S_init_10, go_S_init_11, go_S_init_14, go_S_init_15, go_S_init_18, go_S_init_21, go_S_init_22, go_S_init_25, go_S_init_26, go_S_init_29, go_S_init_32, go_S_init_33, go_S_init_36, go_S_init_37, go_S_init_40, go_S_init_43, go_S_init_44, go_S_init_47, go_S_init_48, go_S_init_51, go_S_init_54, at_S_init_0, tf_S_init_7, tf_S_init_13, tf_S_init_20, tf_S_init_27, tf_S_init_34, tf_S_init_41, tc_S_init_26, tm_S_init_26, tc_S_init_33, tm_S_init_33, tc_S_init_40, tm_S_init_40, tn_S_init_24, tn_S_init_31, tn_S_init_38, tl_S_init_18, tm_S_init_1, s_opt, s_oI, s_oL, s_oA, s_oAN, s_set0, s_set1, s_setn0, s_setn1, s_ok0, s_okn, s_oki, s_okr, s_okN, s_oko, s_oks, s_c1i, s_c1r, s_c1n, s_fi, s_fr, s_fn, s_fl, s_fz, s_rd, s_pt, s_ai, s_lds, s_ldsN, s_al, s_ar, s_cls, s_leni, s_lenz, s_lenr, s_lenN, s_lenl, s_rc0, s_rc1, s_rcv, s_clo, s_clx, s_cln, s_cl1, s_cl2, s_cl3, s_cl4, s_cl5, s_sw1, s_sw2, s_min0, s_min1, s_min2, List.getElem?_cons_zero, List.getElem?_cons_succ, List.take_succ_cons, List.take_zero, List.length_cons, List.length_nil, List.set_cons_zero, List.set_cons_succ, List.cons_append, List.nil_append, Option.toList_some, Option.toList_none, Nat.reduceAdd, Nat.reduceSub, Nat.reduceLeDiff, Nat.reduceLT, Nat.reduceEqDiff, Nat.zero_add, Nat.add_zero, Nat.le_refl, Nat.zero_le, true_and, and_true, true_or, or_true, or_false, false_or, and_self, not_false_eq_true, Nat.one_ne_zero, Nat.zero_ne_one, reduceCtorEq, false_and, and_false, g_ent, lg_sl, List.flatMap_cons, List.flatMap_nil, List.map_cons, List.map_nil, Value.category, ite_true, ite_false, if_true, if_false, if_pos, gEl, Option.isSome_some, s_c12, s_p12, s_c16, s_p16, s_c20, s_p20, s_c30, s_p30, s_c60, s_p60, s_c100, s_p100, s_c500, s_p500, s_c61, s_p61, s_c1952, s_p1952, s_c732, s_p732, s_c1830, s_p1830, s_c2000, s_p2000, not_true_eq_false, true_implies, false_implies, implies_true, a1, g_up_s]
  refine fun r hr _ => ?_
  have p6 : r ≠ a := fun z => by rw [z, g_up_s] at hr; cases hr
  rw [g_up_n p6] at hr
  have y6 := z1 r hr
  refine ⟨r, rfl, g_up_s, fun d1 d2 d3 h1 h2 h3 n12 n13 n23 => ?_⟩
  have p7 : d1 ≠ r := fun z => by rw [z, g_up_s] at h1; cases h1
  rw [g_up_n p7] at h1
  have p8 : d1 ≠ a := fun z => by rw [z, g_up_s] at h1; cases h1
  rw [g_up_n p8] at h1
  have y7 := z1 d1 h1
  have p9 : d2 ≠ r := fun z => by rw [z, g_up_s] at h2; cases h2
  rw [g_up_n p9] at h2
  have p10 : d2 ≠ a := fun z => by rw [z, g_up_s] at h2; cases h2
  rw [g_up_n p10] at h2
  have y8 := z1 d2 h2
  have p11 : d3 ≠ r := fun z => by rw [z, g_up_s] at h3; cases h3
  rw [g_up_n p11] at h3
  have p12 : d3 ≠ a := fun z => by rw [z, g_up_s] at h3; cases h3
  rw [g_up_n p12] at h3
  have y9 := z1 d3 h3
  generalize hσ2 : g_up _ r (g_ob 2 [.ref d1, .ref d2, .ref d3, .int (nI 0), .int (nI 0)]) = σ2
  have keep2 : ∀ y x, σ1 y = some x → y ≠ a → σ2 y = some x := by
    intro y x hy hya
    rw [← hσ2, g_up_n (g_ne_new hy hr), g_up_n (g_ne_new hy h3), g_up_n (g_ne_new hy h2), g_up_n (g_ne_new hy h1), g_up_n (g_ne_new hy hr), g_up_n hya]
    exact hy
  have a2 : σ2 a = some (g_ob 1 [.int (nI nm), .int (nI fu), .long (-9223372036854775808), .ref e, .null, .null]) := by rw [← hσ2, g_up_n (Ne.symm p6), g_up_n (Ne.symm p12), g_up_n (Ne.symm p10), g_up_n (Ne.symm p8), g_up_n (Ne.symm p6), g_up_s]
  have x2 : rExt σ2 e ef el 0 (fun _ => 0) (fun _ => 0) := ⟨keep2 _ _ x1.1 p1, keep2 _ _ x1.2.1 p3, keep2 _ _ x1.2.2.1 p5, hne⟩
  have dd2 : rDir σ2 r d1 d2 d3 0 0 (fun _ => 0) (fun _ => 0) (fun _ => 0) := by
    rw [← hσ2]
    exact ⟨g_up_s, by rw [g_up_n p7, g_up_n n13, g_up_n n12, g_up_s], by rw [g_up_n p9, g_up_n n23, g_up_s], by rw [g_up_n p11, g_up_s], n12, n13, n23⟩
  have k2 : ∀ y x, σ y = some x → y ≠ a → σ2 y = some x := fun y x hy hya => keep2 y x (k1 y x hy hya) hya
  have z2 : ∀ q, σ2 q = none → σ1 q = none ∧ q ≠ a ∧ q ≠ r ∧ q ≠ d1 ∧ q ≠ d2 ∧ q ≠ d3 := by
    intro q hq
    rw [← hσ2] at hq
    have w1 : q ≠ r := fun z => by rw [z, g_up_s] at hq; cases hq
    rw [g_up_n w1] at hq
    have w2 : q ≠ d3 := fun z => by rw [z, g_up_s] at hq; cases hq
    rw [g_up_n w2] at hq
    have w3 : q ≠ d2 := fun z => by rw [z, g_up_s] at hq; cases hq
    rw [g_up_n w3] at hq
    have w5 : q ≠ d1 := fun z => by rw [z, g_up_s] at hq; cases hq
    rw [g_up_n w5, g_up_n w1] at hq
    have w4 : q ≠ a := fun z => by rw [z, g_up_s] at hq; cases hq
    rw [g_up_n w4] at hq
    exact ⟨hq, w4, w1, w5, w3, w2⟩
  clear hσ2
  simp only [w_aload_0, w_invokespecial, w_iload_1, w_put, w_iload_2, w_ldc2, w_new, w_dup, w_ret, go_S_init_0, go_S_init_1, go_S_init_4, go_S_init_5, go_S_init_6, go_S_init_9, go_S_init_10, go_S_init_11, go_S_init_14, go_S_init_15, go_S_init_18, go_S_init_21, go_S_init_22, go_S_init_25, go_S_init_26, go_S_init_29, go_S_init_32, go_S_init_33, go_S_init_36, go_S_init_37, go_S_init_40, go_S_init_43, go_S_init_44, go_S_init_47, go_S_init_48, go_S_init_51, go_S_init_54, at_S_init_0, tf_S_init_7, tf_S_init_13, tf_S_init_20, tf_S_init_27, tf_S_init_34, tf_S_init_41, tc_S_init_26, tm_S_init_26, tc_S_init_33, tm_S_init_33, tc_S_init_40, tm_S_init_40, tn_S_init_24, tn_S_init_31, tn_S_init_38, tl_S_init_18, tm_S_init_1, s_opt, s_oI, s_oL, s_oA, s_oAN, s_set0, s_set1, s_setn0, s_setn1, s_ok0, s_okn, s_oki, s_okr, s_okN, s_oko, s_oks, s_c1i, s_c1r, s_c1n, s_fi, s_fr, s_fn, s_fl, s_fz, s_rd, s_pt, s_ai, s_lds, s_ldsN, s_al, s_ar, s_cls, s_leni, s_lenz, s_lenr, s_lenN, s_lenl, s_rc0, s_rc1, s_rcv, s_clo, s_clx, s_cln, s_cl1, s_cl2, s_cl3, s_cl4, s_cl5, s_sw1, s_sw2, s_min0, s_min1, s_min2, List.getElem?_cons_zero, List.getElem?_cons_succ, List.take_succ_cons, List.take_zero, List.length_cons, List.length_nil, List.set_cons_zero, List.set_cons_succ, List.cons_append, List.nil_append, Option.toList_some, Option.toList_none, Nat.reduceAdd, Nat.reduceSub, Nat.reduceLeDiff, Nat.reduceLT, Nat.reduceEqDiff, Nat.zero_add, Nat.add_zero, Nat.le_refl, Nat.zero_le, true_and, and_true, true_or, or_true, or_false, false_or, and_self, not_false_eq_true, Nat.one_ne_zero, Nat.zero_ne_one, reduceCtorEq, false_and, and_false, g_ent, lg_sl, List.flatMap_cons, List.flatMap_nil, List.map_cons, List.map_nil, Value.category, ite_true, ite_false, if_true, if_false, if_pos, gEl, Option.isSome_some, s_c12, s_p12, s_c16, s_p16, s_c20, s_p20, s_c30, s_p30, s_c60, s_p60, s_c100, s_p100, s_c500, s_p500, s_c61, s_p61, s_c1952, s_p1952, s_c732, s_p732, s_c1830, s_p1830, s_c2000, s_p2000, not_true_eq_false, true_implies, false_implies, implies_true, a2, g_up_s]
  refine fun t ht _ => ?_
  have p13 : t ≠ a := fun z => by rw [z, g_up_s] at ht; cases ht
  rw [g_up_n p13] at ht
  have y13 := z2 t ht
  have y13' := z1 t y13.1
  refine ⟨t, rfl, g_up_s, fun t1 t2 g1 g2 m12 => ?_⟩
  have p14 : t1 ≠ t := fun z => by rw [z, g_up_s] at g1; cases g1
  rw [g_up_n p14] at g1
  have p15 : t1 ≠ a := fun z => by rw [z, g_up_s] at g1; cases g1
  rw [g_up_n p15] at g1
  have y14 := z2 t1 g1
  have y14' := z1 t1 y14.1
  have p16 : t2 ≠ t := fun z => by rw [z, g_up_s] at g2; cases g2
  rw [g_up_n p16] at g2
  have p17 : t2 ≠ a := fun z => by rw [z, g_up_s] at g2; cases g2
  rw [g_up_n p17] at g2
  have y15 := z2 t2 g2
  have y15' := z1 t2 y15.1
  generalize hσ3 : g_up _ t (g_ob 0 [.ref t1, .ref t2]) = σ3
  have keep3 : ∀ y x, σ2 y = some x → y ≠ a → σ3 y = some x := by
    intro y x hy hya
    rw [← hσ3, g_up_n (g_ne_new hy ht), g_up_n (g_ne_new hy g2), g_up_n (g_ne_new hy g1), g_up_n (g_ne_new hy ht), g_up_n hya]
    exact hy
  have a3 : σ3 a = some (g_ob 1 [.int (nI nm), .int (nI fu), .long (-9223372036854775808), .ref e, .ref r, .null]) := by rw [← hσ3, g_up_n (Ne.symm p13), g_up_n (Ne.symm p17), g_up_n (Ne.symm p15), g_up_n (Ne.symm p13), g_up_s]
  have tt3 : rAtt σ3 t t1 t2 (fun _ => false) (fun _ => 0) := by
    rw [← hσ3]
    exact ⟨g_up_s, by rw [g_up_n p14, g_up_n m12, g_up_s], by rw [g_up_n p16, g_up_s]⟩
  clear hσ3
  simp only [w_aload_0, w_invokespecial, w_iload_1, w_put, w_iload_2, w_ldc2, w_new, w_dup, w_ret, go_S_init_0, go_S_init_1, go_S_init_4, go_S_init_5, go_S_init_6, go_S_init_9, go_S_init_10, go_S_init_11, go_S_init_14, go_S_init_15, go_S_init_18, go_S_init_21, go_S_init_22, go_S_init_25, go_S_init_26, go_S_init_29, go_S_init_32, go_S_init_33, go_S_init_36, go_S_init_37, go_S_init_40, go_S_init_43, go_S_init_44, go_S_init_47, go_S_init_48, go_S_init_51, go_S_init_54, at_S_init_0, tf_S_init_7, tf_S_init_13, tf_S_init_20, tf_S_init_27, tf_S_init_34, tf_S_init_41, tc_S_init_26, tm_S_init_26, tc_S_init_33, tm_S_init_33, tc_S_init_40, tm_S_init_40, tn_S_init_24, tn_S_init_31, tn_S_init_38, tl_S_init_18, tm_S_init_1, s_opt, s_oI, s_oL, s_oA, s_oAN, s_set0, s_set1, s_setn0, s_setn1, s_ok0, s_okn, s_oki, s_okr, s_okN, s_oko, s_oks, s_c1i, s_c1r, s_c1n, s_fi, s_fr, s_fn, s_fl, s_fz, s_rd, s_pt, s_ai, s_lds, s_ldsN, s_al, s_ar, s_cls, s_leni, s_lenz, s_lenr, s_lenN, s_lenl, s_rc0, s_rc1, s_rcv, s_clo, s_clx, s_cln, s_cl1, s_cl2, s_cl3, s_cl4, s_cl5, s_sw1, s_sw2, s_min0, s_min1, s_min2, List.getElem?_cons_zero, List.getElem?_cons_succ, List.take_succ_cons, List.take_zero, List.length_cons, List.length_nil, List.set_cons_zero, List.set_cons_succ, List.cons_append, List.nil_append, Option.toList_some, Option.toList_none, Nat.reduceAdd, Nat.reduceSub, Nat.reduceLeDiff, Nat.reduceLT, Nat.reduceEqDiff, Nat.zero_add, Nat.add_zero, Nat.le_refl, Nat.zero_le, true_and, and_true, true_or, or_true, or_false, false_or, and_self, not_false_eq_true, Nat.one_ne_zero, Nat.zero_ne_one, reduceCtorEq, false_and, and_false, g_ent, lg_sl, List.flatMap_cons, List.flatMap_nil, List.map_cons, List.map_nil, Value.category, ite_true, ite_false, if_true, if_false, if_pos, gEl, Option.isSome_some, s_c12, s_p12, s_c16, s_p16, s_c20, s_p20, s_c30, s_p30, s_c60, s_p60, s_c100, s_p100, s_c500, s_p500, s_c61, s_p61, s_c1952, s_p1952, s_c732, s_p732, s_c1830, s_p1830, s_c2000, s_p2000, not_true_eq_false, true_implies, false_implies, implies_true, a3, g_up_s]
  have keep4 : ∀ y x, σ3 y = some x → y ≠ a → g_up σ3 a (g_ob 1 [.int (nI nm), .int (nI fu), .long (-9223372036854775808), .ref e, .ref r, .ref t]) y = some x := fun y x hy hya => by rw [g_up_n hya]; exact hy
  obtain ⟨u1, u2, u3, u4, u5⟩ := y6
  obtain ⟨v1, v2, v3, v4, v5⟩ := y7
  obtain ⟨v6, v7, v8, v9, v10⟩ := y8
  obtain ⟨v11, v12, v13, v14, v15⟩ := y9
  obtain ⟨w1, w2, w3, w4, w5, w6⟩ := y13
  obtain ⟨w7, w8, w9, w10, w11⟩ := y13'
  obtain ⟨c1, c2, c3, c4, c5, c6⟩ := y14
  obtain ⟨c7, c8, c9, c10, c11⟩ := y14'
  obtain ⟨f1, f2, f3, f4, f5, f6⟩ := y15
  obtain ⟨f7, f8, f9, f10, f11⟩ := y15'
  refine hP _ (fun y => if y = e then b + 1 else if y = ef then b + 2 else if y = el then b + 3 else if y = r then b + 4 else if y = d1 then b + 5 else if y = d2 then b + 6 else if y = d3 then b + 7 else if y = t then b + 8 else if y = t1 then b + 9 else if y = t2 then b + 10 else ow y) ⟨e, ef, el, r, d1, d2, d3, t, t1, t2, g_up_s, ⟨keep4 _ _ (keep3 _ _ x2.1 p1) p1, keep4 _ _ (keep3 _ _ x2.2.1 p3) p3, keep4 _ _ (keep3 _ _ x2.2.2.1 p5) p5, hne⟩, ⟨keep4 _ _ (keep3 _ _ dd2.1 p6) p6, keep4 _ _ (keep3 _ _ dd2.2.1 p8) p8, keep4 _ _ (keep3 _ _ dd2.2.2.1 p10) p10, keep4 _ _ (keep3 _ _ dd2.2.2.2.1 p12) p12, n12, n13, n23⟩, ⟨keep4 _ _ tt3.1 p13, keep4 _ _ tt3.2.1 p15, keep4 _ _ tt3.2.2 p17⟩, ?_⟩ (fun y x hy hya => keep4 y x (keep3 y x (k2 y x hy hya) hya) hya) (fun y x hy => ?_)
  · have q1 := Ne.symm p1
    have q3 := Ne.symm p3
    have q5 := Ne.symm p5
    have q6 := Ne.symm p6
    have q8 := Ne.symm p8
    have q10 := Ne.symm p10
    have q12 := Ne.symm p12
    have q13 := Ne.symm p13
    have q15 := Ne.symm p15
    have q17 := Ne.symm p17
    have r12 := Ne.symm n12
    have r13 := Ne.symm n13
    have r23 := Ne.symm n23
    have s12 := Ne.symm m12
    have sne := Ne.symm hne
    refine ⟨?_, ?_, ?_, ?_, ?_, ?_, ?_, ?_, ?_, ?_, ?_⟩
    · simp [q1, q3, q5, q6, q8, q10, q12, q13, q15, q17, hoa]
    · simp
    · simp [p2]
    · simp [p4, sne]
    · simp [u3, u4, u5]
    · simp [v3, v4, v5, p7]
    · simp [v8, v9, v10, p9, r12]
    · simp [v13, v14, v15, p11, r13, r23]
    · simp [w3, w4, w5, w6, w9, w10, w11]
    · simp [c3, c4, c5, c6, c9, c10, c11, p14]
    · simp [f3, f4, f5, f6, f9, f10, f11, p16, s12]
  · have o1 := g_ne_new hy he
    have o2 := g_ne_new hy hef
    have o3 := g_ne_new hy hel
    have o4 := g_ne_new hy u1
    have o5 := g_ne_new hy v1
    have o6 := g_ne_new hy v6
    have o7 := g_ne_new hy v11
    have o8 := g_ne_new hy w7
    have o9 := g_ne_new hy c7
    have o10 := g_ne_new hy f7
    simp [o1, o2, o3, o4, o5, o6, o7, o8, o9, o10]
