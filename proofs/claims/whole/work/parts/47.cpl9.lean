theorem CL_get {ML : Nat → Option mL} {l : List lA} {n n' : Nat} {L : mL} (h : CL1 ((ML n').getD mL0) n' l) (hne : n' ≠ n) : CL1 ((va_up ML n (some L) n').getD mL0) n' l := by
  rw [va_up_ne _ _ hne]; exact h
theorem i32_jb {x : Int32} : m_jb x = true ↔ 1 ≤ x ∧ x ≤ 20 := by
  unfold m_jb
  rw [Bool.and_eq_true, decide_eq_true_eq, decide_eq_true_eq]
theorem m_can_up {la : Nat → Bool} {s h : Nat} {b x : Bool} (hs : s ≠ 0 ∨ h = 0) : m_can (va_up la s b) h x = m_can la h x := by
  unfold m_can
  rcases hs with hs | hs
  · rw [va_up_ne _ _ (Ne.symm hs)]
  · subst hs; simp
theorem r_as_enq {R : mR} {x y : Nat} {b w : Bool} : r_as (enqR R x y b w) = r_as R ++ [(y, x, b, w)] := by
  unfold r_as
  show (List.range (rK R + 1)).map (fun k => (va_up (rAn R) (rK R) y k, va_up (rAj R) (rK R) x k, va_up (rAa R) (rK R) b k, va_up (rAw R) (rK R) w k)) = _
  rw [List.range_succ, List.map_append]
  congr 1
  · refine List.map_congr_left (fun k hk => ?_)
    have hk := List.mem_range.mp hk
    rw [va_up_ne _ _ (by omega), va_up_ne _ _ (by omega), va_up_ne _ _ (by omega), va_up_ne _ _ (by omega)]
  · simp [va_up_self]
/-- the line behind a new ask -/
theorem CL1_ask {L : mL} {n x : Nat} {l : List lA} {b w : Bool} (h : CL1 L n l) (hx1 : 1 ≤ x) (hx : x ≤ 20) (hm : m_lix L x = none) (hw : w = (decide (L.2.1 < L.1) || !m_can L.2.2.2 L.2.1 b)) : CL1 (askL L x b) n (l ++ [(n, x, b, w)]) ∧ (decide ((askL L x b).2.1 = L.1 + 1)) = !w := by
  obtain ⟨h1, h2, h3, h4, h5, h6⟩ := h
  have hs20 := m_full h2 h3 h4 hx1 hx hm
  have hno : ∀ i, i < L.1 → L.2.2.1 i ≠ x := fun i hi z => by
    have := m_ix_none _ _ hm i (by omega) (by omega)
    simp [z] at this
  have hhs := h2.2.1
  -- how many hold now
  have hh : (w = true ∧ (askL L x b).2.1 = L.2.1) ∨ (w = false ∧ L.2.1 = L.1 ∧ (askL L x b).2.1 = L.1 + 1 ∧ m_can L.2.2.2 L.1 b = true) := by
    show (w = true ∧ m_adm (va_up L.2.2.2 L.1 b) (L.1 + 1) (L.1 + 1 - L.2.1) L.2.1 = L.2.1) ∨ (w = false ∧ L.2.1 = L.1 ∧ m_adm (va_up L.2.2.2 L.1 b) (L.1 + 1) (L.1 + 1 - L.2.1) L.2.1 = L.1 + 1 ∧ _)
    by_cases hlt : L.2.1 < L.1
    · left
      have hw' : w = true := by rw [hw]; simp [hlt]
      refine ⟨hw', ?_⟩
      rw [show L.1 + 1 - L.2.1 = (L.1 - L.2.1) + 1 by omega]
      unfold m_adm
      rw [va_up_ne _ _ (show L.2.1 ≠ L.1 by omega), m_can_up (Or.inl (by omega)), if_neg (fun z => by rw [h6 hlt] at z; cases z.2)]
    · have he : L.2.1 = L.1 := by omega
      have hadm : m_adm (va_up L.2.2.2 L.1 b) (L.1 + 1) (L.1 + 1 - L.2.1) L.2.1 = if m_can L.2.2.2 L.1 b = true then L.1 + 1 else L.1 := by
        rw [he, show L.1 + 1 - L.1 = 0 + 1 by omega]
        unfold m_adm
        rw [va_up_self, m_can_up (by omega)]
        by_cases hc : m_can L.2.2.2 L.1 b = true
        · rw [if_pos ⟨by omega, hc⟩, if_pos hc]; rfl
        · rw [if_neg (fun z => hc z.2), if_neg hc]
      rw [hadm]
      cases hc : m_can L.2.2.2 L.1 b with
      | true =>
        right
        rw [he, hc] at hw
        exact ⟨by rw [hw]; simp, he, by simp, rfl⟩
      | false =>
        left
        rw [he, hc] at hw
        exact ⟨by rw [hw]; simp, by simp [he]⟩
  have hans : decide ((askL L x b).2.1 = L.1 + 1) = !w := by
    rcases hh with ⟨a1, a2⟩ | ⟨a1, a2, a3, a4⟩
    · rw [a1, a2]; simp; omega
    · rw [a1, a3]; simp
  refine ⟨⟨?_, ⟨by show L.1 + 1 ≤ 20; omega, ?_, fun i hi => ?_⟩, fun i hi => ?_, fun i j hi hj hij => ?_, fun i hi hl => ?_, fun hlt => ?_⟩, hans⟩
  · rw [List.filter_append, List.map_append, h1]
    show l_ln L ++ _ = (List.range (L.1 + 1)).map (fun i => (va_up L.2.2.1 L.1 x i, va_up L.2.2.2 L.1 b i, decide ((askL L x b).2.1 ≤ i)))
    rw [List.range_succ, List.map_append]
    congr 1
    · unfold l_ln
      refine List.map_congr_left (fun i hi => ?_)
      have hi := List.mem_range.mp hi
      rw [va_up_ne _ _ (by omega), va_up_ne _ _ (by omega)]
      rcases hh with ⟨a1, a2⟩ | ⟨a1, a2, a3, a4⟩
      · rw [a2]
      · rw [a3, a2]
        simp; omega
    · simp only [List.filter_cons, decide_true, if_true, List.filter_nil, List.map_cons, List.map_nil, va_up_self]
      congr 3
      rcases hh with ⟨a1, a2⟩ | ⟨a1, a2, a3, a4⟩
      · rw [a1, a2]; simp; omega
      · rw [a1, a3]; simp
  · show (askL L x b).2.1 ≤ L.1 + 1
    rcases hh with ⟨a1, a2⟩ | ⟨a1, a2, a3, a4⟩ <;> omega
  · have hi : i < L.1 + 1 := hi
    show va_up L.2.2.1 L.1 x i ≤ 20
    by_cases e : i = L.1
    · rw [e, va_up_self]; exact hx
    · rw [va_up_ne _ _ e]; exact h2.2.2 i (by omega)
  · have hi : i < L.1 + 1 := hi
    show 1 ≤ va_up L.2.2.1 L.1 x i
    by_cases e : i = L.1
    · rw [e, va_up_self]; exact hx1
    · rw [va_up_ne _ _ e]; exact h3 i (by omega)
  · have hi : i < L.1 + 1 := hi
    have hj : j < L.1 + 1 := hj
    have hij : va_up L.2.2.1 L.1 x i = va_up L.2.2.1 L.1 x j := hij
    by_cases e : i = L.1
    · by_cases e' : j = L.1
      · omega
      · rw [e, va_up_self, va_up_ne _ _ e'] at hij
        exact absurd hij.symm (hno j (by omega))
    · by_cases e' : j = L.1
      · rw [e', va_up_self, va_up_ne _ _ e] at hij
        exact absurd hij (hno i (by omega))
      · rw [va_up_ne _ _ e, va_up_ne _ _ e'] at hij
        exact h4 i j (by omega) (by omega) hij
  · have hl : va_up L.2.2.2 L.1 b i = true := hl
    rcases hh with ⟨a1, a2⟩ | ⟨a1, a2, a3, a4⟩
    · rw [a2] at hi ⊢
      rw [va_up_ne _ _ (by omega)] at hl
      exact h5 i hi hl
    · rw [a3] at hi ⊢
      by_cases h0 : L.1 = 0
      · omega
      · exfalso
        unfold m_can at a4
        simp only [Bool.or_eq_true, decide_eq_true_eq, Bool.and_eq_true, Bool.not_eq_true'] at a4
        rcases a4 with a4 | ⟨c1, c2⟩
        · exact h0 a4
        · by_cases e : i = L.1
          · rw [e, va_up_self, c1] at hl; cases hl
          · rw [va_up_ne _ _ e] at hl
            have := h5 i (by omega) hl
            rw [show i = 0 by omega, c2] at hl; cases hl
  · have hlt : (askL L x b).2.1 < L.1 + 1 := hlt
    rcases hh with ⟨a1, a2⟩ | ⟨a1, a2, a3, a4⟩
    · rw [a2]
      show m_can (va_up L.2.2.2 L.1 b) L.2.1 (va_up L.2.2.2 L.1 b L.2.1) = false
      by_cases hl2 : L.2.1 < L.1
      · rw [va_up_ne _ _ (by omega), m_can_up (Or.inl (by omega))]
        exact h6 hl2
      · rw [show L.2.1 = L.1 by omega, va_up_self, m_can_up (by omega)]
        rw [a1, show L.2.1 = L.1 by omega] at hw
        simpa using hw.symm
    · omega
theorem c_enqueue {M : mM} {R : mR} (h : Cpl M R) (hK : rK R < 2000) (x y : Int32) (b : Bool) : Res R (x_enqueue M x y b) (y_enqueue R x y b) := by
  unfold x_enqueue y_enqueue
  by_cases hc : 1 ≤ x ∧ x ≤ 20 ∧ m_nm y = true
  · rw [if_pos hc, if_pos ⟨i32_jb.mpr ⟨hc.1, hc.2.1⟩, hc.2.2⟩]
    obtain ⟨g1, g2, g3⟩ := hc
    obtain ⟨n, hn, rfl⟩ := m_nm_t g3
    obtain ⟨xn, hxn, rfl⟩ := m_nn (Int32.le_trans (by decide) g1)
    have x1 := (nI_leI (a := 1) (by decide) hxn).mp g1
    have x20 := (nI_leI (b := 20) hxn (by decide)).mp g2
    rw [nI_clamp (n := n) (by omega), nI_clamp (n := xn) hxn]
    obtain ⟨⟨a1, a2, a3, a4⟩, b', cN, cS, cV, cT, cF, cU, cL⟩ := id h
    have hL := cL.1 n hn
    have hLF := LF_of hL.1
    generalize hLd : (M.2.2.2.2 n).getD mL0 = L at hL hLF ⊢
    have hasked : m_any (r_pj R xn (nI n)) (rK R) = true ↔ m_lix L xn ≠ none := by
      rw [← c_asked hLF, m_any_t]
      constructor
      · rintro ⟨k, hk, hp⟩
        simp only [r_pj, Bool.and_eq_true, decide_eq_true_eq] at hp
        exact ⟨k, hk, (nI_eq (by have := (b'.2.2.2.2.2.2.2 k hk).1; omega) (by omega)).mp hp.1, hp.2⟩
      · rintro ⟨k, hk, p1, p2⟩
        exact ⟨k, hk, by simp [r_pj, p1, p2]⟩
    unfold x_enq
    by_cases hm : m_lix L xn = none
    · have hlt := m_full hL.2.1 hL.2.2.1 hL.2.2.2.1 x1 x20 hm
      rw [if_neg (fun z => z.elim (fun z => z hm) (fun z => by omega)), if_neg (fun z => hasked.mp z hm)]
      have hwt : r_wt R n b = (decide (L.2.1 < L.1) || !m_can L.2.2.2 L.2.1 b) := by
        unfold r_wt
        rw [c_awaited hLF, c_can hLF hL.2.1.2.1 hL.2.2.2.2.1]
      obtain ⟨k1, k2⟩ := CL1_ask hL x1 x20 hm hwt
      refine ⟨by show b2i _ = b2i _; rw [k2], ⟨⟨a1, a2, a3, fun n' L' hL' => ?_⟩, ?_, cN, cS, cV, cT, cF, cU, ?_⟩, Nat.le_refl _⟩
      · have hL' : va_up M.2.2.2.2 n (some (askL L xn b)) n' = some L' := hL'
        by_cases e : n' = n
        · rw [e, va_up_self] at hL'
          cases hL'
          exact k1.2.1
        · rw [va_up_ne _ _ e] at hL'
          exact a4 n' L' hL'
      · obtain ⟨b1, b2, b3, b4, b5, b6, b7⟩ := b'
        refine ⟨b1, b2, b3, b4, b5, b6, by show rK R + 1 ≤ 2000; omega, fun k hk => ?_⟩
        have hk : k < rK R + 1 := hk
        show va_up (rAn R) (rK R) n k < 100 ∧ va_up (rAj R) (rK R) xn k ≤ 20
        by_cases e : k = rK R
        · rw [e, va_up_self, va_up_self]; exact ⟨hn, x20⟩
        · rw [va_up_ne _ _ e, va_up_ne _ _ e]; exact b7.2 k (by omega)
      · show CL (va_up M.2.2.2.2 n (some (askL L xn b))) (r_as (enqR R xn n b (r_wt R n b)))
        rw [r_as_enq]
        refine ⟨fun n' hn' => ?_, fun q hq => ?_⟩
        · by_cases e : n' = n
          · subst e
            rw [va_up_self]
            exact k1
          · rw [va_up_ne _ _ e]
            obtain ⟨c1, c2⟩ := cL.1 n' hn'
            refine ⟨?_, c2⟩
            rw [List.filter_append, List.map_append, c1]
            simp [Ne.symm e]
        · rcases List.mem_append.mp hq with hq | hq
          · exact cL.2 q hq
          · rw [List.mem_singleton.mp hq]; exact hn
    · rw [if_pos (Or.inl hm), if_pos (hasked.mpr hm)]
      refine ⟨rfl, ?_, Nat.le_succ _⟩
      have hsome : M.2.2.2.2 n = some L := by
        cases hq : M.2.2.2.2 n with
        | none =>
          rw [hq] at hLd
          rw [← hLd] at hm
          exact absurd rfl hm
        | some L' => rw [hq] at hLd; exact congrArg some hLd
      show Cpl (setL M n L) R
      rw [setL_same hsome]
      exact h
  · rw [if_neg hc, if_neg (fun z => hc ⟨(i32_jb.mp z.1).1, (i32_jb.mp z.1).2, z.2⟩)]; exact Res_id h
