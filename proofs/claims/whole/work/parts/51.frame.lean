/-! the frame: what a method does not hold stays -/
def g_un (σ1 σ2 : gS) : gS := fun a => match σ1 a with
  | some e => some e
  | none => σ2 a
def g_dj (σ1 σ2 : gS) : Prop := ∀ a, σ1 a = none ∨ σ2 a = none
theorem g_un_l {σ1 σ2 : gS} {a : Nat} {e : gE} (h : σ1 a = some e) : g_un σ1 σ2 a = some e := by unfold g_un; rw [h]
theorem g_un_r {σ1 σ2 : gS} {a : Nat} (h : σ1 a = none) : g_un σ1 σ2 a = σ2 a := by unfold g_un; rw [h]
theorem g_un_comm {σ1 σ2 : gS} (h : g_dj σ1 σ2) : g_un σ1 σ2 = g_un σ2 σ1 := by
  funext a
  cases h1 : σ1 a with
  | some e =>
    rw [g_un_l h1]
    rcases h a with h2 | h2
    · rw [h1] at h2; cases h2
    · rw [g_un_r h2, h1]
  | none =>
    rw [g_un_r h1]
    cases h2 : σ2 a with
    | some e => rw [g_un_l h2]
    | none => rw [g_un_r h2, h1]
theorem g_dj_comm {σ1 σ2 : gS} (h : g_dj σ1 σ2) : g_dj σ2 σ1 := fun a => (h a).symm
theorem g_un_none {σ1 σ2 : gS} {a : Nat} (h1 : σ1 a = none) (h2 : σ2 a = none) : g_un σ1 σ2 a = none := by rw [g_un_r h1, h2]
def g_fr (sc : gX) (sp : gSpec) : gSpec := fun av σ P => ∃ σ1 σ2, σ = g_un σ1 σ2 ∧ g_dj σ1 σ2 ∧ sp av σ1 (fun r σ' => g_dj σ' σ2 → σ' sc.1 = none → P r (g_un σ' σ2))
theorem nd_of_ix : ∀ {ws : va_W}, (∀ (i j : Nat) (p q : Nat × va_E), ws[i]? = some p → ws[j]? = some q → p.1 = q.1 → i = j) → (ws.map Prod.fst).Nodup
  | [], _ => List.nodup_nil
  | w :: ws, h => by
    rw [List.map_cons, List.nodup_cons]
    refine ⟨fun hm => ?_, nd_of_ix (fun i j p q hi hj e => ?_)⟩
    · obtain ⟨q, hq, e⟩ := List.mem_map.mp hm
      obtain ⟨j, hj, hjq⟩ := List.getElem_of_mem hq
      have := h 0 (j + 1) w q rfl (by rw [List.getElem?_cons_succ, List.getElem?_eq_getElem hj, hjq]) e.symm
      omega
    · have := h (i + 1) (j + 1) p q (by rw [List.getElem?_cons_succ]; exact hi) (by rw [List.getElem?_cons_succ]; exact hj) e
      omega
theorem ix_of_nd {ws : va_W} (h : (ws.map Prod.fst).Nodup) : ∀ (i j : Nat) (p q : Nat × va_E), ws[i]? = some p → ws[j]? = some q → p.1 = q.1 → i = j := fun i j p q hi hj e =>
  nd_inj (a := q.1) h (by rw [List.getElem?_map, hi]; exact congrArg some e) (by rw [List.getElem?_map, hj]; rfl)
theorem ix_mem {ws : va_W} {q : Nat × va_E} (h : q ∈ ws) : ∃ k : Nat, ws[k]? = some q := by
  obtain ⟨k, hk, e⟩ := List.getElem_of_mem h
  exact ⟨k, by rw [List.getElem?_eq_getElem hk, e]⟩
theorem g_H_sub {D : gD} {cl : List vw_C} {σ σ' : gS} {H : Heap} (h : g_H D cl σ H) (hs : ∀ a e, σ' a = some e → σ a = some e) : g_H D cl σ' H := by
  obtain ⟨ws, hP, hD, hm⟩ := h
  refine ⟨ws.filter (fun q => (σ' q.1).isSome), fun k q hk => ?_, ⟨?_, fun k q hk => ?_⟩, fun a e ha => ?_⟩
  · obtain ⟨k', hk'⟩ := ix_mem (List.mem_filter.mp (List.mem_of_getElem? hk)).1
    exact hP k' q hk'
  · refine ix_of_nd (List.Nodup.sublist ?_ (nd_of_ix hD.1))
    exact (List.filter_sublist).map _
  · have := (List.mem_filter.mp (List.mem_of_getElem? hk)).2
    exact Option.isSome_iff_exists.mp this
  · obtain ⟨k, hk⟩ := hm a e (hs a e ha)
    exact ix_mem (List.mem_filter.mpr ⟨List.mem_of_getElem? hk, by rw [ha]; rfl⟩)
theorem g_H_kept {D : gD} {cl : List vw_C} {σ : gS} {H H1 : Heap} (h : g_H D cl σ H) (hk : ∀ a, g_dom σ a → a < H.size → H1[a]? = H[a]?) : g_H D cl σ H1 := by
  obtain ⟨ws, hP, hD, hm⟩ := h
  refine ⟨ws, fun k q hq => ?_, hD, hm⟩
  exact (hP k q hq).kept (hk _ (hD.2 k q hq) (hP k q hq).lt)
theorem g_H_join {D : gD} {cl : List vw_C} {σ1 σ2 : gS} {H : Heap} (h1 : g_H D cl σ1 H) (h2 : g_H D cl σ2 H) (hd : g_dj σ1 σ2) : g_H D cl (g_un σ1 σ2) H := by
  obtain ⟨w1, p1, d1, m1⟩ := h1
  obtain ⟨w2, p2, d2, m2⟩ := h2
  refine ⟨w1 ++ w2, fun k q hq => ?_, ⟨?_, fun k q hq => ?_⟩, fun a e ha => ?_⟩
  · rcases List.mem_append.mp (List.mem_of_getElem? hq) with hq | hq
    · obtain ⟨k', hk'⟩ := ix_mem hq
      exact p1 k' q hk'
    · obtain ⟨k', hk'⟩ := ix_mem hq
      exact p2 k' q hk'
  · refine ix_of_nd ?_
    rw [List.map_append, List.nodup_append]
    refine ⟨nd_of_ix d1.1, nd_of_ix d2.1, fun a ha b hb e => ?_⟩
    obtain ⟨q1, hq1, rfl⟩ := List.mem_map.mp ha
    obtain ⟨q2, hq2, rfl⟩ := List.mem_map.mp hb
    obtain ⟨k1, hk1⟩ := ix_mem hq1
    obtain ⟨k2, hk2⟩ := ix_mem hq2
    obtain ⟨e1, he1⟩ := d1.2 k1 q1 hk1
    obtain ⟨e2, he2⟩ := d2.2 k2 q2 hk2
    rcases hd q1.1 with z | z
    · rw [he1] at z; cases z
    · rw [e, he2] at z; cases z
  · rcases List.mem_append.mp (List.mem_of_getElem? hq) with hq | hq
    · obtain ⟨k', hk'⟩ := ix_mem hq
      obtain ⟨e1, he1⟩ := d1.2 k' q hk'
      exact ⟨e1, g_un_l he1⟩
    · obtain ⟨k', hk'⟩ := ix_mem hq
      obtain ⟨e2, he2⟩ := d2.2 k' q hk'
      rcases hd q.1 with z | z
      · exact ⟨e2, by rw [g_un_r z]; exact he2⟩
      · rw [he2] at z; cases z
  · cases hs : σ1 a with
    | some e1 =>
      rw [g_un_l hs] at ha
      cases ha
      obtain ⟨k, hk⟩ := m1 a _ hs
      exact ix_mem (List.mem_append.mpr (Or.inl (List.mem_of_getElem? hk)))
    | none =>
      rw [g_un_r hs] at ha
      obtain ⟨k, hk⟩ := m2 a e ha
      exact ix_mem (List.mem_append.mpr (Or.inr (List.mem_of_getElem? hk)))
theorem g_frame {l : Launch} {sc : gX} {cl : List vw_C} {tbl nest : List Jvm.Cond} {aT : List FieldType} {ao : List String} {y : MethodName} {b : ByteArray} {nL : Nat} {ret : Option FieldType} {rm : Room} {sp : gSpec} {mc ms : Nat} (h : g_Met l sc cl tbl nest aT ao y b nL ret rm sp mc ms) : g_Met l sc cl tbl nest aT ao y b nL ret rm (g_fr sc sp) mc ms := by
  intro D sz av σ P hsp
  obtain ⟨σ1, σ2, rfl, hdj, hsp⟩ := hsp
  have h1 := h D sz av σ1 _ hsp
  intro p e a1 a2 a3 s m args below b1 b2 hPc hK
  obtain ⟨hav, hsz, hH, ⟨hx1, hx2, hx3⟩, htab⟩ := hPc
  have hs1 : ∀ a e, σ1 a = some e → g_un σ1 σ2 a = some e := fun a e he => g_un_l he
  have hs2 : ∀ a e, σ2 a = some e → g_un σ1 σ2 a = some e := fun a e he => by
    rcases hdj a with z | z
    · rw [g_un_r z]; exact he
    · rw [he] at z; cases z
  have hn1 : ¬ g_dom σ1 sc.1 := fun ⟨e, he⟩ => hx3 ⟨e, hs1 _ _ he⟩
  have hA : ∀ q, g_A σ1 sz q → g_A (g_un σ1 σ2) sz q := fun q hq => hq.elim (fun ⟨e, he⟩ => Or.inl ⟨e, hs1 _ _ he⟩) Or.inr
  obtain ⟨n, o, c1, c2, c3, ⟨⟨r, σ', e1, e2, e3, e4⟩, e5⟩, L, f1, f2⟩ := h1 p e a1 a2 a3 s m args below b1 b2 ⟨hav, hsz, g_H_sub hH hs1, ⟨hx1, hx2, hn1⟩, htab⟩ hK
  have hlt : ∀ a, g_dom σ2 a → a < sz := fun a ⟨e, he⟩ => by
    obtain ⟨ws, hP, hD, hm⟩ := hH
    obtain ⟨k, hk⟩ := hm a e (hs2 a e he)
    rw [← hsz]
    exact (hP k _ hk).lt
  have hdj' : g_dj σ' σ2 := fun a => by
    cases h1 : σ' a with
    | none => exact Or.inl rfl
    | some e =>
      right
      cases h2 : σ2 a with
      | none => rfl
      | some e' =>
        rcases e4 a ⟨e, h1⟩ with ⟨e'', h3⟩ | h3
        · rcases hdj a with z | z
          · rw [h3] at z; cases z
          · rw [h2] at z; cases z
        · have := hlt a ⟨e', h2⟩
          omega
  have hnn : σ' sc.1 = none := by
    cases h1 : σ' sc.1 with
    | none => rfl
    | some e =>
      rcases e4 sc.1 ⟨e, h1⟩ with h3 | h3
      · exact absurd h3 hn1
      · omega
  refine ⟨n, o, c1, c2, c3, ⟨⟨r, g_un σ' σ2, e1, e2 hdj' hnn, g_H_join e3 (g_H_kept (g_H_sub hH hs2) (fun a ha hl => e5.2 a hl (fun hq => ?_))) hdj', fun q ⟨e, he⟩ => ?_⟩, e5.1, fun q h1 h2 => e5.2 q h1 (fun h3 => h2 (hA q h3))⟩, L, f1, fun q hq => hA _ (f2 q hq)⟩
  · rcases hq with ⟨e', h3⟩ | h3
    · obtain ⟨e'', h2⟩ := ha
      rcases hdj a with z | z
      · rw [h3] at z; cases z
      · rw [h2] at z; cases z
    · omega
  · cases h1 : σ' q with
    | some e' => exact hA q (e4 q ⟨e', h1⟩)
    | none =>
      rw [g_un_r h1] at he
      exact Or.inl ⟨e, hs2 q e he⟩
def g_em : gS := fun _ => none
theorem g_un_e {σ : gS} : g_un σ g_em = σ := by
  funext a
  cases h : σ a with
  | some e => rw [g_un_l h]
  | none => rw [g_un_r h]; rfl
theorem g_un_up {σ : gS} {q : Nat} {e : gE} : g_up σ q e = g_un (g_up g_em q e) σ := by
  funext a
  by_cases h : a = q
  · subst h; rw [g_up_s, g_un_l g_up_s]
  · rw [g_up_n h, g_un_r (by rw [g_up_n h]; rfl)]
theorem g_dj_up {σ : gS} {q : Nat} {e : gE} (h : σ q = none) : g_dj (g_up g_em q e) σ := fun a => by
  by_cases hq : a = q
  · subst hq; exact Or.inr h
  · exact Or.inl (by rw [g_up_n hq]; rfl)
