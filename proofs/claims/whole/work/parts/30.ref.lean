/-! what a state of the reference is -/
/-- volume and sets; members; attributes; asks -/
abbrev mR : Type := (Nat × (Nat → Nat) × Nat × (Nat → Bool) × (Nat → Nat) × (Nat → Nat) × (Nat → Nat) × (Nat → Nat) × (Nat → Nat) × (Nat → Int64)) × ((Nat → Option Nat) × (Nat → Nat) × (Nat → Nat)) × ((Nat → Int32) × (Nat → Bool)) × ((Nat → Nat) × (Nat → Nat) × (Nat → Bool) × (Nat → Bool) × Nat)
abbrev rN (R : mR) : Nat := R.1.1
abbrev rO (R : mR) : Nat → Nat := R.1.2.1
abbrev rS (R : mR) : Nat := R.1.2.2.1
abbrev rG (R : mR) : Nat → Bool := R.1.2.2.2.1
abbrev rNm (R : mR) : Nat → Nat := R.1.2.2.2.2.1
abbrev rFu (R : mR) : Nat → Nat := R.1.2.2.2.2.2.1
abbrev rGv (R : mR) : Nat → Nat := R.1.2.2.2.2.2.2.1
abbrev rMy (R : mR) : Nat → Nat := R.1.2.2.2.2.2.2.2.1
abbrev rEx (R : mR) : Nat → Nat := R.1.2.2.2.2.2.2.2.2.1
abbrev rGd (R : mR) : Nat → Int64 := R.1.2.2.2.2.2.2.2.2.2
abbrev rMn (R : mR) : Nat → Option Nat := R.2.1.1
abbrev rMf (R : mR) : Nat → Nat := R.2.1.2.1
abbrev rMz (R : mR) : Nat → Nat := R.2.1.2.2
abbrev rAv (R : mR) : Nat → Int32 := R.2.2.1.1
abbrev rTl (R : mR) : Nat → Bool := R.2.2.1.2
abbrev rAn (R : mR) : Nat → Nat := R.2.2.2.1
abbrev rAj (R : mR) : Nat → Nat := R.2.2.2.2.1
abbrev rAa (R : mR) : Nat → Bool := R.2.2.2.2.2.1
abbrev rAw (R : mR) : Nat → Bool := R.2.2.2.2.2.2.1
abbrev rK (R : mR) : Nat := R.2.2.2.2.2.2.2
def rA (m : Nat) (A : Nat → Nat) : Prop := (∀ i j, i < 17 → j < 17 → A i = A j → i = j) ∧ ∀ j, j < 17 → A j ≠ m
theorem gA_of {m : Nat} {A : Nat → Nat} (h : rA m A) : ∀ (s : gS) (e : gE) (i j : Nat), i < 17 → j < 17 → i ≠ j → g_up s (A j) e (A i) = s (A i) := fun s e i j hi hj hne => g_up_n (fun z => hne (h.1 i j hi hj z))
theorem gM_of {m : Nat} {A : Nat → Nat} (h : rA m A) : ∀ (s : gS) (e : gE) (j : Nat), j < 17 → g_up s (A j) e m = s m := fun s e j hj => g_up_n (Ne.symm (h.2 j hj))
theorem gN_of {m : Nat} {A : Nat → Nat} (h : rA m A) : ∀ (s : gS) (e : gE) (j : Nat), j < 17 → g_up s m e (A j) = s (A j) := fun s e j hj => g_up_n (h.2 j hj)
def rR (σ : gS) (m : Nat) (A : Nat → Nat) (cd : Int32) (R : mR) : Prop :=
  σ m = some (g_ob 7 [.int cd, .int (nI (rN R)), .ref (A 0), .int (nI (rS R)), .ref (A 1), .ref (A 2), .ref (A 3), .ref (A 4), .ref (A 5), .ref (A 6), .ref (A 7), .ref (A 8), .ref (A 9), .ref (A 10), .ref (A 11), .ref (A 12), .ref (A 13), .ref (A 14), .ref (A 15), .ref (A 16), .int (nI (rK R))]) ∧
  σ (A 0) = some (g_ia 0 500 (fun j => nI (rO R j))) ∧ σ (A 1) = some (g_ia 1 61 (fun j => b2i (rG R j))) ∧ σ (A 2) = some (g_ia 0 61 (fun j => nI (rNm R j))) ∧ σ (A 3) = some (g_ia 0 61 (fun j => nI (rFu R j))) ∧ σ (A 4) = some (g_ia 0 61 (fun j => nI (rGv R j))) ∧ σ (A 5) = some (g_ia 0 61 (fun j => nI (rMy R j))) ∧ σ (A 6) = some (g_ia 0 1952 (fun j => nI (rEx R j))) ∧ σ (A 7) = some (g_la 2 61 (rGd R)) ∧
  σ (A 8) = some (g_ia 0 732 (fun j => oI (rMn R j))) ∧ σ (A 9) = some (g_ia 0 732 (fun j => nI (rMf R j))) ∧ σ (A 10) = some (g_ia 0 732 (fun j => nI (rMz R j))) ∧ σ (A 11) = some (g_ia 0 1830 (rAv R)) ∧ σ (A 12) = some (g_ia 1 1830 (fun j => b2i (rTl R j))) ∧
  σ (A 13) = some (g_ia 0 2000 (fun j => nI (rAn R j))) ∧ σ (A 14) = some (g_ia 0 2000 (fun j => nI (rAj R j))) ∧ σ (A 15) = some (g_ia 1 2000 (fun j => b2i (rAa R j))) ∧ σ (A 16) = some (g_ia 1 2000 (fun j => b2i (rAw R j))) ∧ rA m A
def RepR (σ : gS) (m : Nat) (R : mR) : Prop := ∃ A cd, rR σ m A cd R
def sp_M_isName : gSpec := fun av σ P => ∃ x, av = [.int x] ∧ P (some (.int (b2i (m_nm x)))) σ
def T_M_isName : gT := gTT [] [] [] [] [] []
theorem t_M_isName (l : Launch) (sc : gX) : g_TOK l sc (gRm 1 0 0) (T_M_isName) gEl "DataSetsModel" gCl gTb gNs gAT gAO := gTT_ok
  (fun _ h => absurd h List.not_mem_nil)
  (fun _ h => absurd h List.not_mem_nil)
  (fun _ h => absurd h List.not_mem_nil)
  (fun _ h => absurd h List.not_mem_nil)
  (fun _ h => absurd h List.not_mem_nil)
  (fun _ h => absurd h List.not_mem_nil)
set_option maxHeartbeats 4000000 in
set_option maxRecDepth 100000 in
theorem k_M_isName (l : Launch) (sc : gX) : g_Met l sc gCl gTb gNs gAT gAO y_M_isName b_M_isName 1 (some .boolean) (gRm 1 0 0) (sp_M_isName) 0 0 := by
  refine g_meth (T := (T_M_isName)) (el := gEl) (ini := false) (rk := 2) (code := c_M_isName) gG_ok (t_M_isName l sc) (by decide) (by decide) rfl ⟨rfl, rfl, by decide, by decide⟩ ok_M_isName ?_
  intro av σ P hsp
  obtain ⟨x, rfl, hP⟩ := hsp
  refine ⟨by simp [lg_sl, Value.category], fun _ _ _ _ _ _ _ => False, ⟨200, ?_⟩, fun _ _ _ _ _ _ _ h => h.elim⟩
  simp only [w_iload_0, w_if_lt, w_bipush, w_icmp_ge, w_iconst, w_goto, w_iret, go_M_isName_0, go_M_isName_1, go_M_isName_4, go_M_isName_5, go_M_isName_7, go_M_isName_10, go_M_isName_11, go_M_isName_14, go_M_isName_15, at_M_isName_0, s_opt, s_oI, s_oL, s_oA, s_oAN, s_set0, s_set1, s_setn0, s_setn1, s_ok0, s_okn, s_oki, s_okr, s_okN, s_oko, s_oks, s_c1i, s_c1r, s_c1n, s_fi, s_fr, s_fn, s_fl, s_fz, s_rd, s_pt, s_ai, s_lds, s_ldsN, s_al, s_ar, s_cls, s_leni, s_lenz, s_lenr, s_lenN, s_lenl, s_rc0, s_rc1, s_rcv, s_clo, s_clx, s_cln, s_cl1, s_cl2, s_cl3, s_cl4, s_cl5, s_sw1, s_sw2, s_min0, s_min1, s_min2, List.getElem?_cons_zero, List.getElem?_cons_succ, List.take_succ_cons, List.take_zero, List.length_cons, List.length_nil, List.set_cons_zero, List.set_cons_succ, List.cons_append, List.nil_append, Option.toList_some, Option.toList_none, Nat.reduceAdd, Nat.reduceSub, Nat.reduceLeDiff, Nat.reduceLT, Nat.reduceEqDiff, Nat.zero_add, Nat.add_zero, Nat.le_refl, Nat.zero_le, true_and, and_true, true_or, or_true, or_false, false_or, and_self, not_false_eq_true, Nat.one_ne_zero, Nat.zero_ne_one, reduceCtorEq, false_and, and_false, g_ent, lg_sl, List.flatMap_cons, List.flatMap_nil, List.map_cons, List.map_nil, Value.category, ite_true, ite_false, if_true, if_false, if_pos, gEl, Option.isSome_some, s_c12, s_p12, s_c16, s_p16, s_c20, s_p20, s_c30, s_p30, s_c60, s_p60, s_c100, s_p100, s_c500, s_p500, s_c61, s_p61, s_c1952, s_p1952, s_c732, s_p732, s_c1830, s_p1830, s_c2000, s_p2000, not_true_eq_false, true_implies, false_implies, implies_true]
  unfold m_nm at hP
  refine ⟨fun h => ?_, fun h => ⟨fun h2 => ?_, fun h2 => ?_⟩⟩
  · rw [decide_eq_false (m_nle.mpr h)] at hP; exact hP
  · rw [decide_eq_false (m_nlt.mpr h2)] at hP; simpa [b2i] using hP
  · rw [decide_eq_true (m_nlt.mp h), decide_eq_true (m_nle.mp h2)] at hP; exact hP
def r_is (R : mR) (x : Int32) : Bool := decide (0 < x) && (decide (x ≤ nI (rS R)) && !rG R x.toNatClampNeg)
theorem r_is_t {R : mR} {x : Int32} (hs : rS R ≤ 60) (h : r_is R x = true) : ∃ s : Nat, 1 ≤ s ∧ s ≤ rS R ∧ x = nI s ∧ rG R s = false := by
  simp only [r_is, Bool.and_eq_true, decide_eq_true_eq, Bool.not_eq_true'] at h
  obtain ⟨h1, h2, h3⟩ := h
  obtain ⟨j, hj, rfl⟩ := m_nn (x := x) (by rw [Int32.le_iff_toInt_le]; rw [Int32.lt_iff_toInt_lt] at h1; omega)
  rw [nI_clamp (n := j) hj] at h3
  exact ⟨j, (nI_ltI (a := 0) (by decide) hj).mp h1, (nI_leI hj (by omega)).mp h2, rfl, h3⟩
theorem r_is_of {R : mR} {s : Nat} (hs : rS R ≤ 60) (h1 : 1 ≤ s) (h2 : s ≤ rS R) : r_is R (nI s) = !rG R s := by
  unfold r_is
  rw [nI_clamp (n := s) (by omega)]
  show (decide (nI 0 < nI s) && (decide (nI s ≤ nI (rS R)) && !rG R s)) = _
  rw [decide_eq_true (nI_lt (a := 0) h1 (by omega)), decide_eq_true (nI_le h2 (by omega))]
  rfl
def sp_M_isSet : gSpec := fun av σ P => ∃ (m : Nat) (A : Nat → Nat) (cd : Int32) (R : mR) (x : Int32), av = [.ref m, .int x] ∧ rR σ m A cd R ∧ rS R ≤ 60 ∧ P (some (.int (b2i (r_is R x)))) σ
def T_M_isSet : gT := gTT [(13, 7, 4, 1, 2), (70, 7, 3, 0, 1)] [] [] [] [] []
theorem tf_M_isSet_13 : (T_M_isSet).1 13 = some (7, 4, 1, 2) := rfl
theorem tf_M_isSet_70 : (T_M_isSet).1 70 = some (7, 3, 0, 1) := rfl
theorem t_M_isSet (l : Launch) (sc : gX) : g_TOK l sc (gRm 1 0 0) (T_M_isSet) gEl "DataSetsModel" gCl gTb gNs gAT gAO := gTT_ok
  (List.forall_mem_cons.mpr ⟨⟨R_M, F_M, 21, t_M 4, rfl, by decide, rfl, by decide +kernel, rfl, by decide, Or.inl ⟨wd396, by decide⟩⟩, List.forall_mem_cons.mpr ⟨⟨R_M, F_M, 21, t_M 3, rfl, by decide, rfl, by decide +kernel, rfl, by decide, Or.inl ⟨wd395, by decide⟩⟩, fun _ h => absurd h List.not_mem_nil⟩⟩)
  (fun _ h => absurd h List.not_mem_nil)
  (fun _ h => absurd h List.not_mem_nil)
  (fun _ h => absurd h List.not_mem_nil)
  (fun _ h => absurd h List.not_mem_nil)
  (fun _ h => absurd h List.not_mem_nil)
set_option maxHeartbeats 4000000 in
set_option maxRecDepth 100000 in
theorem k_M_isSet (l : Launch) (sc : gX) : g_Met l sc gCl gTb gNs gAT gAO y_M_isSet b_M_isSet 2 (some .boolean) (gRm 1 0 0) (sp_M_isSet) 0 0 := by
  refine g_meth (T := (T_M_isSet)) (el := gEl) (ini := false) (rk := 2) (code := c_M_isSet) gG_ok (t_M_isSet l sc) (by decide) (by decide) rfl ⟨rfl, rfl, by decide, by decide⟩ ok_M_isSet ?_
  intro av σ P hsp
  obtain ⟨m, A, cd, R, x, rfl, hR, hs, hP⟩ := hsp
  obtain ⟨hm, h0, h1, h2, h3, h4, h5, h6, h7, h8, h9, h10, h11, h12, h13, h14, h15, h16, hA⟩ := id hR
  have gA := gA_of hA
  have gM := gM_of hA
  have gN := gN_of hA
  refine ⟨by simp [lg_sl, Value.category], fun _ _ _ _ _ _ _ => False, ⟨200, ?_⟩, fun _ _ _ _ _ _ _ h => h.elim⟩
  simp only [w_iload_1, w_if_le, w_aload_0, w_get, w_icmp_gt, w_bald, w_if_ne, w_iconst, w_goto, w_iret, go_M_isSet_0, go_M_isSet_1, go_M_isSet_4, go_M_isSet_5, go_M_isSet_6, go_M_isSet_9, go_M_isSet_12, go_M_isSet_13, go_M_isSet_16, go_M_isSet_17, go_M_isSet_18, go_M_isSet_21, go_M_isSet_22, go_M_isSet_25, go_M_isSet_26, at_M_isSet_0, tf_M_isSet_13, tf_M_isSet_70, s_opt, s_oI, s_oL, s_oA, s_oAN, s_set0, s_set1, s_setn0, s_setn1, s_ok0, s_okn, s_oki, s_okr, s_okN, s_oko, s_oks, s_c1i, s_c1r, s_c1n, s_fi, s_fr, s_fn, s_fl, s_fz, s_rd, s_pt, s_ai, s_lds, s_ldsN, s_al, s_ar, s_cls, s_leni, s_lenz, s_lenr, s_lenN, s_lenl, s_rc0, s_rc1, s_rcv, s_clo, s_clx, s_cln, s_cl1, s_cl2, s_cl3, s_cl4, s_cl5, s_sw1, s_sw2, s_min0, s_min1, s_min2, List.getElem?_cons_zero, List.getElem?_cons_succ, List.take_succ_cons, List.take_zero, List.length_cons, List.length_nil, List.set_cons_zero, List.set_cons_succ, List.cons_append, List.nil_append, Option.toList_some, Option.toList_none, Nat.reduceAdd, Nat.reduceSub, Nat.reduceLeDiff, Nat.reduceLT, Nat.reduceEqDiff, Nat.zero_add, Nat.add_zero, Nat.le_refl, Nat.zero_le, true_and, and_true, true_or, or_true, or_false, false_or, and_self, not_false_eq_true, Nat.one_ne_zero, Nat.zero_ne_one, reduceCtorEq, false_and, and_false, g_ent, lg_sl, List.flatMap_cons, List.flatMap_nil, List.map_cons, List.map_nil, Value.category, ite_true, ite_false, if_true, if_false, if_pos, gEl, Option.isSome_some, s_c12, s_p12, s_c16, s_p16, s_c20, s_p20, s_c30, s_p30, s_c60, s_p60, s_c100, s_p100, s_c500, s_p500, s_c61, s_p61, s_c1952, s_p1952, s_c732, s_p732, s_c1830, s_p1830, s_c2000, s_p2000, not_true_eq_false, true_implies, false_implies, implies_true, hm, h0, h1, h2, h3, h4, h5, h6, h7, h8, h9, h10, h11, h12, h13, h14, h15, h16, gA, gM, gN, g_up_s, ne_eq, Nat.reduceEqDiff]
  refine ⟨fun h => ?_, fun h => ⟨fun h2 => ?_, fun h2 => ?_⟩⟩
  · rw [show r_is R x = false by simp [r_is, m_nlt.mpr h]] at hP; exact hP
  · rw [show r_is R x = false by simp [r_is, m_nle.mpr h2]] at hP; exact hP
  · have k1 := m_nle.mp h
    have k2 := m_nlt.mp h2
    obtain ⟨j, hj, rfl⟩ := m_nn (x := x) (by rw [Int32.le_iff_toInt_le]; rw [Int32.lt_iff_toInt_lt] at k1; omega)
    have j1 := (nI_ltI (a := 0) (by decide) hj).mp k1
    have j2 := (nI_leI hj (by omega)).mp k2
    rw [r_is_of hs j1 j2] at hP
    rw [nI_clamp (n := j) hj]
    refine ⟨pk_in j 61 (by omega), pk_bn (rG R j) (fun hb => ?_) (fun hb => ?_)⟩
    · rw [hb] at hP; exact hP
    · rw [hb] at hP; exact hP
/-- the last one of 1 .. k that has p; 0 when there is none -/
def m_last (p : Nat → Bool) : Nat → Nat
  | 0 => 0
  | k + 1 => if p (k + 1) then k + 1 else m_last p k
theorem m_last_le (p : Nat → Bool) : ∀ k, m_last p k ≤ k
  | 0 => Nat.le_refl 0
  | k + 1 => by
    have := m_last_le p k
    unfold m_last
    split <;> omega
def r_pn (R : mR) (x : Int32) (s : Nat) : Bool := !rG R s && decide (nI (rNm R s) = x)
def sp_M_named : gSpec := fun av σ P => ∃ (m : Nat) (A : Nat → Nat) (cd : Int32) (R : mR) (x : Int32), av = [.ref m, .int x] ∧ rR σ m A cd R ∧ rS R ≤ 60 ∧ P (some (.int (nI (m_last (r_pn R x) (rS R))))) σ
def iv_M_named (σ : gS) (m : Nat) (R : mR) (x : Int32) : Nat → gK := fun k pc lv st σ' c z => ∃ i, i ≤ rS R ∧ k = rS R - i ∧ pc = 4 ∧ lv = [some (.ref m), some (.int x), some (.int (nI (m_last (r_pn R x) i))), some (.int (nI (i + 1)))] ∧ st = [] ∧ σ' = σ ∧ c = 0 ∧ z = 0
def T_M_named : gT := gTT [(13, 7, 4, 1, 2), (17, 7, 5, 1, 2), (70, 7, 3, 0, 1)] [] [] [] [] []
theorem tf_M_named_13 : (T_M_named).1 13 = some (7, 4, 1, 2) := rfl
theorem tf_M_named_17 : (T_M_named).1 17 = some (7, 5, 1, 2) := rfl
theorem tf_M_named_70 : (T_M_named).1 70 = some (7, 3, 0, 1) := rfl
theorem t_M_named (l : Launch) (sc : gX) : g_TOK l sc (gRm 1 0 0) (T_M_named) gEl "DataSetsModel" gCl gTb gNs gAT gAO := gTT_ok
  (List.forall_mem_cons.mpr ⟨⟨R_M, F_M, 21, t_M 4, rfl, by decide, rfl, by decide +kernel, rfl, by decide, Or.inl ⟨wd396, by decide⟩⟩, List.forall_mem_cons.mpr ⟨⟨R_M, F_M, 21, t_M 5, rfl, by decide, rfl, by decide +kernel, rfl, by decide, Or.inl ⟨wd397, by decide⟩⟩, List.forall_mem_cons.mpr ⟨⟨R_M, F_M, 21, t_M 3, rfl, by decide, rfl, by decide +kernel, rfl, by decide, Or.inl ⟨wd395, by decide⟩⟩, fun _ h => absurd h List.not_mem_nil⟩⟩⟩)
  (fun _ h => absurd h List.not_mem_nil)
  (fun _ h => absurd h List.not_mem_nil)
  (fun _ h => absurd h List.not_mem_nil)
  (fun _ h => absurd h List.not_mem_nil)
  (fun _ h => absurd h List.not_mem_nil)
set_option maxHeartbeats 4000000 in
set_option maxRecDepth 100000 in
theorem k_M_named (l : Launch) (sc : gX) : g_Met l sc gCl gTb gNs gAT gAO y_M_named b_M_named 4 (some .int) (gRm 1 0 0) (sp_M_named) 0 0 := by
  refine g_meth (T := (T_M_named)) (el := gEl) (ini := false) (rk := 1) (code := c_M_named) gG_ok (t_M_named l sc) (by decide) (by decide) rfl ⟨rfl, rfl, by decide, by decide⟩ ok_M_named ?_
  intro av σ P hsp
  obtain ⟨m, A, cd, R, x, rfl, hR, hs, hP⟩ := hsp
  obtain ⟨hm, h0, h1, h2, h3, h4, h5, h6, h7, h8, h9, h10, h11, h12, h13, h14, h15, h16, hA⟩ := id hR
  have gA := gA_of hA
  have gM := gM_of hA
  have gN := gN_of hA
  refine ⟨by simp [lg_sl, Value.category], iv_M_named σ m R x, ⟨200, ?_⟩, ?_⟩
  · simp only [w_iconst, w_istore_2, w_istore_3, w_iload_3, w_aload_0, w_get, w_icmp_gt, w_bald, w_if_ne, w_iald, w_iload_1, w_icmp_ne, w_goto, w_iload_2, w_iinc, w_iret, go_M_named_0, go_M_named_1, go_M_named_2, go_M_named_3, go_M_named_4, go_M_named_5, go_M_named_6, go_M_named_9, go_M_named_12, go_M_named_13, go_M_named_16, go_M_named_17, go_M_named_18, go_M_named_21, go_M_named_22, go_M_named_25, go_M_named_26, go_M_named_27, go_M_named_28, go_M_named_31, go_M_named_32, go_M_named_35, go_M_named_36, go_M_named_37, go_M_named_40, go_M_named_43, go_M_named_44, at_M_named_0, at_M_named_4, tf_M_named_13, tf_M_named_17, tf_M_named_70, s_opt, s_oI, s_oL, s_oA, s_oAN, s_set0, s_set1, s_setn0, s_setn1, s_ok0, s_okn, s_oki, s_okr, s_okN, s_oko, s_oks, s_c1i, s_c1r, s_c1n, s_fi, s_fr, s_fn, s_fl, s_fz, s_rd, s_pt, s_ai, s_lds, s_ldsN, s_al, s_ar, s_cls, s_leni, s_lenz, s_lenr, s_lenN, s_lenl, s_rc0, s_rc1, s_rcv, s_clo, s_clx, s_cln, s_cl1, s_cl2, s_cl3, s_cl4, s_cl5, s_sw1, s_sw2, s_min0, s_min1, s_min2, List.getElem?_cons_zero, List.getElem?_cons_succ, List.take_succ_cons, List.take_zero, List.length_cons, List.length_nil, List.set_cons_zero, List.set_cons_succ, List.cons_append, List.nil_append, Option.toList_some, Option.toList_none, Nat.reduceAdd, Nat.reduceSub, Nat.reduceLeDiff, Nat.reduceLT, Nat.reduceEqDiff, Nat.zero_add, Nat.add_zero, Nat.le_refl, Nat.zero_le, true_and, and_true, true_or, or_true, or_false, false_or, and_self, not_false_eq_true, Nat.one_ne_zero, Nat.zero_ne_one, reduceCtorEq, false_and, and_false, g_ent, lg_sl, List.flatMap_cons, List.flatMap_nil, List.map_cons, List.map_nil, Value.category, ite_true, ite_false, if_true, if_false, if_pos, gEl, Option.isSome_some, s_c12, s_p12, s_c16, s_p16, s_c20, s_p20, s_c30, s_p30, s_c60, s_p60, s_c100, s_p100, s_c500, s_p500, s_c61, s_p61, s_c1952, s_p1952, s_c732, s_p732, s_c1830, s_p1830, s_c2000, s_p2000, not_true_eq_false, true_implies, false_implies, implies_true]
    exact ⟨rS R, 0, Nat.zero_le _, rfl, rfl, rfl, rfl, rfl, rfl, rfl⟩
  · rintro k pc lv st σ' c z ⟨i, hi, rfl, rfl, rfl, rfl, rfl, rfl, rfl⟩
    refine ⟨200, ?_⟩
    have hcl : (nI (i + 1)).toNatClampNeg = i + 1 := pk_cl (i + 1)
    simp only [w_iconst, w_istore_2, w_istore_3, w_iload_3, w_aload_0, w_get, w_icmp_gt, w_bald, w_if_ne, w_iald, w_iload_1, w_icmp_ne, w_goto, w_iload_2, w_iinc, w_iret, go_M_named_0, go_M_named_1, go_M_named_2, go_M_named_3, go_M_named_4, go_M_named_5, go_M_named_6, go_M_named_9, go_M_named_12, go_M_named_13, go_M_named_16, go_M_named_17, go_M_named_18, go_M_named_21, go_M_named_22, go_M_named_25, go_M_named_26, go_M_named_27, go_M_named_28, go_M_named_31, go_M_named_32, go_M_named_35, go_M_named_36, go_M_named_37, go_M_named_40, go_M_named_43, go_M_named_44, at_M_named_0, at_M_named_4, tf_M_named_13, tf_M_named_17, tf_M_named_70, s_opt, s_oI, s_oL, s_oA, s_oAN, s_set0, s_set1, s_setn0, s_setn1, s_ok0, s_okn, s_oki, s_okr, s_okN, s_oko, s_oks, s_c1i, s_c1r, s_c1n, s_fi, s_fr, s_fn, s_fl, s_fz, s_rd, s_pt, s_ai, s_lds, s_ldsN, s_al, s_ar, s_cls, s_leni, s_lenz, s_lenr, s_lenN, s_lenl, s_rc0, s_rc1, s_rcv, s_clo, s_clx, s_cln, s_cl1, s_cl2, s_cl3, s_cl4, s_cl5, s_sw1, s_sw2, s_min0, s_min1, s_min2, List.getElem?_cons_zero, List.getElem?_cons_succ, List.take_succ_cons, List.take_zero, List.length_cons, List.length_nil, List.set_cons_zero, List.set_cons_succ, List.cons_append, List.nil_append, Option.toList_some, Option.toList_none, Nat.reduceAdd, Nat.reduceSub, Nat.reduceLeDiff, Nat.reduceLT, Nat.reduceEqDiff, Nat.zero_add, Nat.add_zero, Nat.le_refl, Nat.zero_le, true_and, and_true, true_or, or_true, or_false, false_or, and_self, not_false_eq_true, Nat.one_ne_zero, Nat.zero_ne_one, reduceCtorEq, false_and, and_false, g_ent, lg_sl, List.flatMap_cons, List.flatMap_nil, List.map_cons, List.map_nil, Value.category, ite_true, ite_false, if_true, if_false, if_pos, gEl, Option.isSome_some, s_c12, s_p12, s_c16, s_p16, s_c20, s_p20, s_c30, s_p30, s_c60, s_p60, s_c100, s_p100, s_c500, s_p500, s_c61, s_p61, s_c1952, s_p1952, s_c732, s_p732, s_c1830, s_p1830, s_c2000, s_p2000, not_true_eq_false, true_implies, false_implies, implies_true, hm, h0, h1, h2, h3, h4, h5, h6, h7, h8, h9, h10, h11, h12, h13, h14, h15, h16, gA, gM, gN, g_up_s, ne_eq, Nat.reduceEqDiff, hcl]
    refine pk_lt (rS R) (i + 1) (fun h => ?_) (fun h => ?_)
    · have : i = rS R := by omega
      subst this
      exact hP
    · have q1 : vp_in (nI (i + 1)) 61 := pk_in (i + 1) 61 (by omega)
      have e5 : m_last (r_pn R x) (i + 1) = if r_pn R x (i + 1) = true then i + 1 else m_last (r_pn R x) i := rfl
      have go : ∀ y, y = nI (m_last (r_pn R x) (i + 1)) → ∃ k', k' < rS R - i ∧ iv_M_named σ' m R x k' 4 [some (.ref m), some (.int x), some (.int y), some (.int (nI (i + 1) + 1))] [] σ' 0 0 := by
        intro y hy
        exact ⟨rS R - (i + 1), by omega, i + 1, by omega, rfl, rfl, by rw [hy, nI_1], rfl, rfl, rfl, rfl⟩
      refine ⟨q1, pk_bn (rG R (i + 1)) (fun hb => ?_) (fun hb => ⟨q1, fun hne => ?_, fun he => ?_⟩)⟩
      · exact go _ (by rw [e5, if_neg (by simp [r_pn, hb])])
      · exact go _ (by rw [e5, if_neg (by simp [r_pn, hne])])
      · exact go _ (by rw [e5, if_pos (by simp [r_pn, hb, Classical.byContradiction he])])
def r_fr (R : mR) : Nat → Bool := fun t => decide (rO R t = 0)
def sp_M_place : gSpec := fun av σ P => ∃ (m : Nat) (A : Nat → Nat) (cd : Int32) (R : mR) (n : Nat), av = [.ref m, .int (nI n)] ∧ rR σ m A cd R ∧ rN R ≤ 500 ∧ (∀ t, t < rN R → rO R t ≤ 60) ∧ n ≤ 500 ∧ P (some (.int (oI (m_fr (r_fr R) n (rN R) 0)))) σ
def iv_M_place (σ : gS) (v N n : Nat) (g : Nat → Bool) : Nat → gK := fun k pc lv st σ' c z => ∃ i, i ≤ N ∧ k = N - i ∧ pc = 4 ∧ lv = [some (.ref v), some (.int (nI n)), some (.int (nI (m_run g i))), some (.int (nI i))] ∧ st = [] ∧ σ' = σ ∧ c = 0 ∧ z = 0 ∧ m_fr g n (N - i) i = m_fr g n N 0
def T_M_place : gT := gTT [(7, 7, 2, 1, 2), (63, 7, 1, 0, 2)] [] [] [] [] []
theorem tf_M_place_7 : (T_M_place).1 7 = some (7, 2, 1, 2) := rfl
theorem tf_M_place_63 : (T_M_place).1 63 = some (7, 1, 0, 2) := rfl
theorem t_M_place (l : Launch) (sc : gX) : g_TOK l sc (gRm 1 0 0) (T_M_place) gEl "DataSetsModel" gCl gTb gNs gAT gAO := gTT_ok
  (List.forall_mem_cons.mpr ⟨⟨R_M, F_M, 21, t_M 2, rfl, by decide, rfl, by decide +kernel, rfl, by decide, Or.inl ⟨wd394, by decide⟩⟩, List.forall_mem_cons.mpr ⟨⟨R_M, F_M, 21, t_M 1, rfl, by decide, rfl, by decide +kernel, rfl, by decide, Or.inl ⟨wd393, by decide⟩⟩, fun _ h => absurd h List.not_mem_nil⟩⟩)
  (fun _ h => absurd h List.not_mem_nil)
  (fun _ h => absurd h List.not_mem_nil)
  (fun _ h => absurd h List.not_mem_nil)
  (fun _ h => absurd h List.not_mem_nil)
  (fun _ h => absurd h List.not_mem_nil)
set_option maxHeartbeats 4000000 in
set_option maxRecDepth 100000 in
theorem k_M_place (l : Launch) (sc : gX) : g_Met l sc gCl gTb gNs gAT gAO y_M_place b_M_place 4 (some .int) (gRm 1 0 0) (sp_M_place) 0 0 := by
  refine g_meth (T := (T_M_place)) (el := gEl) (ini := false) (rk := 1) (code := c_M_place) gG_ok (t_M_place l sc) (by decide) (by decide) rfl ⟨rfl, rfl, by decide, by decide⟩ ok_M_place ?_
  intro av σ P hsp
  obtain ⟨m, A, cd, R, n, rfl, hR, hN, hO, hn, hP⟩ := hsp
  obtain ⟨hm, h0, h1, h2, h3, h4, h5, h6, h7, h8, h9, h10, h11, h12, h13, h14, h15, h16, hA⟩ := id hR
  have gA := gA_of hA
  have gM := gM_of hA
  have gN := gN_of hA
  refine ⟨by simp [lg_sl, Value.category], iv_M_place σ m (rN R) n (r_fr R), ⟨200, ?_⟩, ?_⟩
  · simp only [w_iconst, w_istore_2, w_istore_3, w_iload_3, w_aload_0, w_get, w_icmp_ge, w_iald, w_if_ne, w_iload_2, w_iadd, w_goto, w_iload_1, w_icmp_ne, w_isub, w_iret, w_iinc, go_M_place_0, go_M_place_1, go_M_place_2, go_M_place_3, go_M_place_4, go_M_place_5, go_M_place_6, go_M_place_9, go_M_place_12, go_M_place_13, go_M_place_16, go_M_place_17, go_M_place_18, go_M_place_21, go_M_place_22, go_M_place_23, go_M_place_24, go_M_place_27, go_M_place_28, go_M_place_29, go_M_place_30, go_M_place_31, go_M_place_34, go_M_place_35, go_M_place_36, go_M_place_37, go_M_place_38, go_M_place_39, go_M_place_40, go_M_place_43, go_M_place_46, go_M_place_47, at_M_place_0, at_M_place_4, tf_M_place_7, tf_M_place_63, s_opt, s_oI, s_oL, s_oA, s_oAN, s_set0, s_set1, s_setn0, s_setn1, s_ok0, s_okn, s_oki, s_okr, s_okN, s_oko, s_oks, s_c1i, s_c1r, s_c1n, s_fi, s_fr, s_fn, s_fl, s_fz, s_rd, s_pt, s_ai, s_lds, s_ldsN, s_al, s_ar, s_cls, s_leni, s_lenz, s_lenr, s_lenN, s_lenl, s_rc0, s_rc1, s_rcv, s_clo, s_clx, s_cln, s_cl1, s_cl2, s_cl3, s_cl4, s_cl5, s_sw1, s_sw2, s_min0, s_min1, s_min2, List.getElem?_cons_zero, List.getElem?_cons_succ, List.take_succ_cons, List.take_zero, List.length_cons, List.length_nil, List.set_cons_zero, List.set_cons_succ, List.cons_append, List.nil_append, Option.toList_some, Option.toList_none, Nat.reduceAdd, Nat.reduceSub, Nat.reduceLeDiff, Nat.reduceLT, Nat.reduceEqDiff, Nat.zero_add, Nat.add_zero, Nat.le_refl, Nat.zero_le, true_and, and_true, true_or, or_true, or_false, false_or, and_self, not_false_eq_true, Nat.one_ne_zero, Nat.zero_ne_one, reduceCtorEq, false_and, and_false, g_ent, lg_sl, List.flatMap_cons, List.flatMap_nil, List.map_cons, List.map_nil, Value.category, ite_true, ite_false, if_true, if_false, if_pos, gEl, Option.isSome_some, s_c12, s_p12, s_c16, s_p16, s_c20, s_p20, s_c30, s_p30, s_c60, s_p60, s_c100, s_p100, s_c500, s_p500, s_c61, s_p61, s_c1952, s_p1952, s_c732, s_p732, s_c1830, s_p1830, s_c2000, s_p2000, not_true_eq_false, true_implies, false_implies, implies_true]
    exact ⟨rN R, 0, Nat.zero_le _, rfl, rfl, rfl, rfl, rfl, rfl, rfl, rfl⟩
  · rintro k pc lv st σ' c z ⟨i, hi, rfl, rfl, rfl, rfl, rfl, rfl, rfl, hans⟩
    refine ⟨200, ?_⟩
    have hcl : (nI i).toNatClampNeg = i := pk_cl i
    simp only [w_iconst, w_istore_2, w_istore_3, w_iload_3, w_aload_0, w_get, w_icmp_ge, w_iald, w_if_ne, w_iload_2, w_iadd, w_goto, w_iload_1, w_icmp_ne, w_isub, w_iret, w_iinc, go_M_place_0, go_M_place_1, go_M_place_2, go_M_place_3, go_M_place_4, go_M_place_5, go_M_place_6, go_M_place_9, go_M_place_12, go_M_place_13, go_M_place_16, go_M_place_17, go_M_place_18, go_M_place_21, go_M_place_22, go_M_place_23, go_M_place_24, go_M_place_27, go_M_place_28, go_M_place_29, go_M_place_30, go_M_place_31, go_M_place_34, go_M_place_35, go_M_place_36, go_M_place_37, go_M_place_38, go_M_place_39, go_M_place_40, go_M_place_43, go_M_place_46, go_M_place_47, at_M_place_0, at_M_place_4, tf_M_place_7, tf_M_place_63, s_opt, s_oI, s_oL, s_oA, s_oAN, s_set0, s_set1, s_setn0, s_setn1, s_ok0, s_okn, s_oki, s_okr, s_okN, s_oko, s_oks, s_c1i, s_c1r, s_c1n, s_fi, s_fr, s_fn, s_fl, s_fz, s_rd, s_pt, s_ai, s_lds, s_ldsN, s_al, s_ar, s_cls, s_leni, s_lenz, s_lenr, s_lenN, s_lenl, s_rc0, s_rc1, s_rcv, s_clo, s_clx, s_cln, s_cl1, s_cl2, s_cl3, s_cl4, s_cl5, s_sw1, s_sw2, s_min0, s_min1, s_min2, List.getElem?_cons_zero, List.getElem?_cons_succ, List.take_succ_cons, List.take_zero, List.length_cons, List.length_nil, List.set_cons_zero, List.set_cons_succ, List.cons_append, List.nil_append, Option.toList_some, Option.toList_none, Nat.reduceAdd, Nat.reduceSub, Nat.reduceLeDiff, Nat.reduceLT, Nat.reduceEqDiff, Nat.zero_add, Nat.add_zero, Nat.le_refl, Nat.zero_le, true_and, and_true, true_or, or_true, or_false, false_or, and_self, not_false_eq_true, Nat.one_ne_zero, Nat.zero_ne_one, reduceCtorEq, false_and, and_false, g_ent, lg_sl, List.flatMap_cons, List.flatMap_nil, List.map_cons, List.map_nil, Value.category, ite_true, ite_false, if_true, if_false, if_pos, gEl, Option.isSome_some, s_c12, s_p12, s_c16, s_p16, s_c20, s_p20, s_c30, s_p30, s_c60, s_p60, s_c100, s_p100, s_c500, s_p500, s_c61, s_p61, s_c1952, s_p1952, s_c732, s_p732, s_c1830, s_p1830, s_c2000, s_p2000, not_true_eq_false, true_implies, false_implies, implies_true, hm, h0, h1, h2, h3, h4, h5, h6, h7, h8, h9, h10, h11, h12, h13, h14, h15, h16, gA, gM, gN, g_up_s, ne_eq, Nat.reduceEqDiff, hcl]
    have hrl := m_run_le (r_fr R) i
    refine pk_le (rN R) i (fun h => ?_) (fun h => ?_)
    · have e0 : i = rN R := by omega
      rw [e0, Nat.sub_self] at hans
      have h0 : m_fr (r_fr R) n (rN R) 0 = none := hans.symm
      rw [h0] at hP
      exact hP
    · have hfr : m_fr (r_fr R) n (rN R - i) i = if m_run (r_fr R) (i + 1) = n then some (i + 1 - n) else m_fr (r_fr R) n (rN R - (i + 1)) (i + 1) := by
        rw [show rN R - i = (rN R - (i + 1)) + 1 by omega]
        rfl
      have go : m_run (r_fr R) (i + 1) ≠ n → ∀ x, x = nI (m_run (r_fr R) (i + 1)) → ∃ k', k' < rN R - i ∧ iv_M_place σ' m (rN R) n (r_fr R) k' 4 [some (.ref m), some (.int (nI n)), some (.int x), some (.int (nI i + 1))] [] σ' 0 0 := by
        intro hne x hx
        rw [if_neg hne] at hfr
        refine ⟨rN R - (i + 1), by omega, i + 1, by omega, rfl, rfl, by rw [hx, nI_1], rfl, rfl, rfl, rfl, ?_⟩
        rw [← hfr]; exact hans
      have hit : m_run (r_fr R) (i + 1) = n → P (some (.int (nI i - nI n + 1))) σ' := by
        intro he
        rw [if_pos he] at hfr
        rw [← hans, hfr] at hP
        have hle := m_run_le (r_fr R) (i + 1)
        have e1 : nI i - nI n + 1 = nI (i + 1 - n) := by
          rw [← pk_sub (by omega), ← nI_1]
          rw [Int32.sub_eq_add_neg, Int32.sub_eq_add_neg, Int32.add_assoc, Int32.add_assoc, Int32.add_comm (-nI n) 1]
        rw [e1]
        exact hP
      have hOi := hO i h
      refine ⟨pk_in i 500 (by omega), pk_ne (rO R i) 0 (fun hb => ?_) (fun hb => ?_)⟩
      · have hr : m_run (r_fr R) (i + 1) = 0 := by
          show (if r_fr R i = true then _ else _) = _
          rw [if_neg (by simpa [r_fr] using hb)]
        exact pk_ne 0 n (fun q => go (by rw [hr]; exact q) _ (by rw [hr]; rfl)) (fun q => hit (by rw [hr]; exact q))
      · have hr : m_run (r_fr R) (i + 1) = m_run (r_fr R) i + 1 := by
          show (if r_fr R i = true then _ else _) = _
          rw [if_pos (by simpa [r_fr] using hb)]
        refine pk_ne (m_run (r_fr R) i + 1) n (fun q => go (by rw [hr]; exact q) _ (by rw [hr, nI_1])) (fun q => hit (by rw [hr]; exact q)) (by rw [nI_1])
