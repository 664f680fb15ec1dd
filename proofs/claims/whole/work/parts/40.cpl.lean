/-! class and reference side by side -/
def inE (S : mS) (t : Nat) : Prop := ∃ j, j < S.2.1.1 ∧ S.2.1.2.1 j ≤ t ∧ t < S.2.1.2.1 j + S.2.1.2.2 j
def CH (S : mS) (R : mR) (s : Nat) : Prop := S.1.1 = rNm R s ∧ S.1.2.1 = rFu R s ∧ S.1.2.2 = rGd R s
def CE (S : mS) (R : mR) (s : Nat) : Prop := S.2.1.1 = rMy R s ∧ rMy R s ≤ 16 ∧ (∀ j, j < rMy R s → S.2.1.2.1 j = r_fst R s j ∧ S.2.1.2.2 j = r_len R s j ∧ 1 ≤ r_len R s j) ∧ (∀ j k, j < rMy R s → k < rMy R s → j ≠ k → r_fst R s j + r_len R s j ≤ r_fst R s k ∨ r_fst R s k + r_len R s k ≤ r_fst R s j) ∧ ∀ t, t < rN R → (rO R t = s ↔ inE S t)
def CD (S : mS) (R : mR) (s : Nat) : Prop :=
  S.2.2.1.2.1 = rGv R s ∧ rGv R s ≤ m_sum S.2.1.2.2 S.2.1.1 ∧ S.2.2.1.1 = m_cnt (fun k => (rMn R (12 * s + k)).isSome) 12 ∧
  (∀ j, j < S.2.2.1.1 → S.2.2.1.2.2.1 j < 100 ∧ S.2.2.1.2.2.2.2 j ≤ 500 ∧ ∃ k, k < 12 ∧ rMn R (12 * s + k) = some (S.2.2.1.2.2.1 j) ∧ rMz R (12 * s + k) = S.2.2.1.2.2.2.2 j ∧ (S.2.2.1.2.2.2.2 j ≠ 0 → rMf R (12 * s + k) = S.2.2.1.2.2.2.1 j)) ∧
  (∀ k b, k < 12 → rMn R (12 * s + k) = some b → ∃ j, j < S.2.2.1.1 ∧ S.2.2.1.2.2.1 j = b) ∧
  (∀ j j', j < S.2.2.1.1 → j' < S.2.2.1.1 → S.2.2.1.2.2.1 j = S.2.2.1.2.2.1 j' → j = j') ∧
  (∀ k k' b, k < 12 → k' < 12 → rMn R (12 * s + k) = some b → rMn R (12 * s + k') = some b → k = k') ∧
  (∀ j, j < S.2.2.1.1 → S.2.2.1.2.2.2.1 j + S.2.2.1.2.2.2.2 j ≤ rGv R s) ∧
  ∀ j j', j < j' → j' < S.2.2.1.1 → S.2.2.1.2.2.2.1 j + S.2.2.1.2.2.2.2 j ≤ S.2.2.1.2.2.2.1 j'
def CA (S : mS) (R : mR) (s : Nat) : Prop := ∀ j, j < 30 → S.2.2.2.1 j = rTl R (30 * s + j) ∧ S.2.2.2.2 j = rAv R (30 * s + j)
def CS (S : mS) (R : mR) (s : Nat) : Prop := CH S R s ∧ CE S R s ∧ CD S R s ∧ CA S R s
def CVol (N : Nat) (k : Nat → Bool) (R : mR) : Prop := (∀ t, t < N → (k t = true ↔ rO R t ≠ 0)) ∧ ∀ t, t < N → rO R t ≠ 0 → 1 ≤ rO R t ∧ rO R t ≤ rS R ∧ rG R (rO R t) = false
def CSets (MS : Nat → Option mS) (R : mR) : Prop := ∀ i, (MS i = none ∧ (i < rS R → rG R (i + 1) = true)) ∨ ∃ S, MS i = some S ∧ i < rS R ∧ rG R (i + 1) = false ∧ CS S R (i + 1)
def CFresh (R : mR) : Prop := ∀ s, rS R < s → s ≤ 60 → rG R s = false ∧ rMy R s = 0 ∧ rGv R s = 0 ∧ (∀ k, k < 12 → rMn R (12 * s + k) = none) ∧ ∀ j, j < 30 → rTl R (30 * s + j) = false ∧ rAv R (30 * s + j) = 0
def CUniq (R : mR) : Prop := ∀ s s', 1 ≤ s → s ≤ rS R → 1 ≤ s' → s' ≤ rS R → rG R s = false → rG R s' = false → rNm R s = rNm R s' → s = s'
abbrev lA : Type := Nat × Nat × Bool × Bool
def r_as (R : mR) : List lA := (List.range (rK R)).map (fun k => (rAn R k, rAj R k, rAa R k, rAw R k))
def l_ln (L : mL) : List (Nat × Bool × Bool) := (List.range L.1).map (fun i => (L.2.2.1 i, L.2.2.2 i, decide (L.2.1 ≤ i)))
def CL1 (L : mL) (n : Nat) (l : List lA) : Prop := (l.filter (fun q => decide (q.1 = n))).map Prod.snd = l_ln L ∧ bLine L.1 L.2.1 L.2.2.1 ∧ (∀ i, i < L.1 → 1 ≤ L.2.2.1 i) ∧ (∀ i j, i < L.1 → j < L.1 → L.2.2.1 i = L.2.2.1 j → i = j) ∧ (∀ i, i < L.2.1 → L.2.2.2 i = true → L.2.1 = 1) ∧ (L.2.1 < L.1 → m_can L.2.2.2 L.2.1 (L.2.2.2 L.2.1) = false)
def CL (ML : Nat → Option mL) (l : List lA) : Prop := (∀ n, n < 100 → CL1 ((ML n).getD mL0) n l) ∧ ∀ q, q ∈ l → q.1 < 100
def Cpl (M : mM) (R : mR) : Prop := okM M ∧ okR R ∧ rN R = M.1 ∧ rS R = M.2.2.1 ∧ CVol M.1 M.2.1 R ∧ CSets M.2.2.2.1 R ∧ CFresh R ∧ CUniq R ∧ CL M.2.2.2.2 (r_as R)
def sameS (R R' : mR) (s : Nat) : Prop := rNm R' s = rNm R s ∧ rFu R' s = rFu R s ∧ rGd R' s = rGd R s ∧ rMy R' s = rMy R s ∧ rGv R' s = rGv R s ∧ (∀ j, 32 * s ≤ j → j < 32 * s + 32 → rEx R' j = rEx R j) ∧ (∀ k, 12 * s ≤ k → k < 12 * s + 12 → rMn R' k = rMn R k ∧ rMf R' k = rMf R k ∧ rMz R' k = rMz R k) ∧ (∀ k, 30 * s ≤ k → k < 30 * s + 30 → rTl R' k = rTl R k ∧ rAv R' k = rAv R k) ∧ ∀ t, t < rN R → (rO R' t = s ↔ rO R t = s)
theorem m_cnt_c {g g' : Nat → Bool} {n : Nat} (h : ∀ j, j < n → g j = g' j) : m_cnt g n = m_cnt g' n := m_cnt_cong n h
theorem CH_cong {S : mS} {R R' : mR} {s : Nat} (h : CH S R s) (e : sameS R R' s) : CH S R' s := ⟨h.1.trans e.1.symm, h.2.1.trans e.2.1.symm, h.2.2.trans e.2.2.1.symm⟩
theorem CE_cong {S : mS} {R R' : mR} {s : Nat} (h : CE S R s) (e : sameS R R' s) (eN : rN R' = rN R) : CE S R' s := by
  obtain ⟨h1, h2, h3, h4, h5⟩ := h
  obtain ⟨-, -, -, e4, -, e6, -, -, e9⟩ := e
  have ef : ∀ j, j < rMy R s → r_fst R' s j = r_fst R s j := fun j hj => e6 _ (by omega) (by omega)
  have el : ∀ j, j < rMy R s → r_len R' s j = r_len R s j := fun j hj => e6 _ (by omega) (by omega)
  refine ⟨h1.trans e4.symm, by rw [e4]; exact h2, fun j hj => ?_, fun j k hj hk hne => ?_, fun t ht => ?_⟩
  · rw [e4] at hj; rw [ef j hj, el j hj]; exact h3 j hj
  · rw [e4] at hj hk; rw [ef j hj, el j hj, ef k hk, el k hk]; exact h4 j k hj hk hne
  · rw [eN] at ht; rw [e9 t ht]; exact h5 t ht
theorem CD_cong {S : mS} {R R' : mR} {s : Nat} (h : CD S R s) (e : sameS R R' s) : CD S R' s := by
  obtain ⟨h1, h2, h3, h4, h5, h6, h7, h8, h9⟩ := h
  obtain ⟨-, -, -, -, e5, -, e7, -, -⟩ := e
  have en : ∀ k, k < 12 → rMn R' (12 * s + k) = rMn R (12 * s + k) := fun k hk => (e7 _ (by omega) (by omega)).1
  refine ⟨h1.trans e5.symm, by rw [e5]; exact h2, h3.trans (m_cnt_c (fun j hj => by rw [en j hj])), fun j hj => ?_, fun k b hk hb => ?_, h6, fun k k' b hk hk' hb hb' => ?_, fun j hj => by rw [e5]; exact h8 j hj, h9⟩
  · obtain ⟨a1, a2, k, hk, a3, a4, a5⟩ := h4 j hj
    obtain ⟨-, b2, b3⟩ := e7 (12 * s + k) (by omega) (by omega)
    exact ⟨a1, a2, k, hk, by rw [en k hk]; exact a3, b3.trans a4, fun z => b2.trans (a5 z)⟩
  · rw [en k hk] at hb; exact h5 k b hk hb
  · rw [en k hk] at hb; rw [en k' hk'] at hb'; exact h7 k k' b hk hk' hb hb'
theorem CA_cong {S : mS} {R R' : mR} {s : Nat} (h : CA S R s) (e : sameS R R' s) : CA S R' s := fun j hj => by
  have := e.2.2.2.2.2.2.2.1 (30 * s + j) (by omega) (by omega)
  rw [this.1, this.2]
  exact h j hj
theorem CS_cong {S : mS} {R R' : mR} {s : Nat} (h : CS S R s) (e : sameS R R' s) (eN : rN R' = rN R) : CS S R' s := ⟨CH_cong h.1 e, CE_cong h.2.1 e eN, CD_cong h.2.2.1 e, CA_cong h.2.2.2 e⟩
theorem CFresh_cong {R R' : mR} (h : CFresh R) (e1 : rS R ≤ rS R') (e2 : ∀ s, rS R' < s → s ≤ 60 → rG R' s = rG R s ∧ sameS R R' s) : CFresh R' := fun s hs hs6 => by
  obtain ⟨a0, a1, a2, a3, a4⟩ := h s (by omega) hs6
  obtain ⟨b0, -, -, -, b4, b5, -, b7, b8, -⟩ := e2 s hs hs6
  refine ⟨b0.trans a0, b4.trans a1, b5.trans a2, fun k hk => ?_, fun j hj => ?_⟩
  · rw [(b7 (12 * s + k) (by omega) (by omega)).1]; exact a3 k hk
  · rw [(b8 (30 * s + j) (by omega) (by omega)).1, (b8 (30 * s + j) (by omega) (by omega)).2]; exact a4 j hj
theorem Cpl_set {M : mM} {R R' : mR} {i : Nat} {k : Nat → Bool} {S' : mS} (h : Cpl M R) (hi : i < rS R) (hg : rG R (i + 1) = false) (hok : okR R') (hS' : okS M.1 S') (e1 : rN R' = rN R) (e2 : rS R' = rS R) (e3 : rG R' = rG R) (eA : r_as R' = r_as R) (hv : CVol M.1 k R') (hcs : CS S' R' (i + 1)) (hoth : ∀ s, s ≠ i + 1 → 1 ≤ s → s ≤ 60 → sameS R R' s) (hun : CUniq R') : Cpl (setM M i k S') R' := by
  obtain ⟨⟨a1, a2, a3, a4⟩, b, cN, cS, cV, cT, cF, cU, cL⟩ := h
  have hs60 := b.2.1
  refine ⟨⟨a1, a2, fun j S hj => ?_, a4⟩, hok, e1.trans cN, e2.trans cS, hv, fun j => ?_, CFresh_cong cF (by omega) (fun s hs h6 => ⟨by rw [e3], hoth s (by omega) (by omega) h6⟩), hun, by rw [eA]; exact cL⟩
  · have hj : (if j = i then some S' else M.2.2.2.1 j) = some S := hj
    by_cases hji : j = i
    · rw [if_pos hji] at hj
      cases hj
      exact ⟨by show j < M.2.2.1; omega, hS'⟩
    · rw [if_neg hji] at hj
      exact a3 j S hj
  · show ((if j = i then some S' else M.2.2.2.1 j) = none ∧ _) ∨ ∃ S, (if j = i then some S' else M.2.2.2.1 j) = some S ∧ _
    by_cases hji : j = i
    · subst hji
      rw [if_pos rfl]
      exact Or.inr ⟨S', rfl, by omega, by rw [e3]; exact hg, hcs⟩
    · rw [if_neg hji]
      rcases cT j with ⟨d1, d2⟩ | ⟨S, d1, d2, d3, d4⟩
      · exact Or.inl ⟨d1, fun hj => by rw [e3]; exact d2 (by omega)⟩
      · exact Or.inr ⟨S, d1, by omega, by rw [e3]; exact d3, CS_cong d4 (hoth (j + 1) (by omega) (by omega) (by omega)) e1⟩
theorem c_sel {M : mM} {R : mR} (h : Cpl M R) (x : Int32) : (r_is R x = false ∧ m_si M.2.2.2.1 x = none) ∨ ∃ i S, x = nI (i + 1) ∧ i < rS R ∧ r_is R x = true ∧ m_si M.2.2.2.1 x = some i ∧ M.2.2.2.1 i = some S ∧ rG R (i + 1) = false ∧ CS S R (i + 1) := by
  obtain ⟨a, b, cN, cS, cV, cT, cF, cU, cL⟩ := h
  have hs60 := b.2.1
  cases hr : r_is R x with
  | true =>
    obtain ⟨s, h1, h2, rfl, hg⟩ := r_is_t hs60 hr
    obtain ⟨i, rfl⟩ : ∃ i, s = i + 1 := ⟨s - 1, by omega⟩
    rcases cT i with ⟨d1, d2⟩ | ⟨S, d1, d2, d3, d4⟩
    · rw [d2 (by omega)] at hg; cases hg
    · exact Or.inr ⟨i, S, rfl, by omega, rfl, by rw [m_si_of (by omega), d1]; rfl, d1, d3, d4⟩
  | false =>
    refine Or.inl ⟨rfl, ?_⟩
    cases hm : m_si M.2.2.2.1 x with
    | none => rfl
    | some i =>
      obtain ⟨h1, rfl, S, hS⟩ := m_si_some hm
      rcases cT i with ⟨d1, d2⟩ | ⟨S', d1, d2, d3, d4⟩
      · rw [hS] at d1; cases d1
      · rw [r_is_of hs60 (by omega) (by omega), d3] at hr; cases hr
theorem m_last_0 {p : Nat → Bool} : ∀ {k : Nat}, m_last p k = 0 → ∀ j, 1 ≤ j → j ≤ k → p j = false
  | 0, _, j, h1, h2 => by omega
  | k + 1, h, j, h1, h2 => by
    unfold m_last at h
    by_cases hp : p (k + 1) = true
    · rw [if_pos hp] at h; omega
    · rw [if_neg hp] at h
      by_cases hj : j = k + 1
      · subst hj; simpa using hp
      · exact m_last_0 h j h1 (by omega)
theorem m_last_p {p : Nat → Bool} : ∀ {k : Nat}, m_last p k ≠ 0 → p (m_last p k) = true ∧ 1 ≤ m_last p k
  | 0, h => absurd rfl h
  | k + 1, h => by
    unfold m_last at h ⊢
    by_cases hp : p (k + 1) = true
    · rw [if_pos hp]; exact ⟨hp, by omega⟩
    · rw [if_neg hp] at h ⊢
      exact m_last_p h
theorem c_nam {M : mM} {R : mR} (h : Cpl M R) (x : Int32) : (m_last (r_pn R x) (rS R) = 0 ∧ m_ix (fun i => m_hasn x (M.2.2.2.1 i)) 60 0 = none ∧ m_num M.2.2.2.1 x = 0) ∨ ∃ i S, m_last (r_pn R x) (rS R) = i + 1 ∧ m_ix (fun i => m_hasn x (M.2.2.2.1 i)) 60 0 = some i ∧ m_num M.2.2.2.1 x = i + 1 ∧ i < rS R ∧ M.2.2.2.1 i = some S ∧ rG R (i + 1) = false ∧ CS S R (i + 1) ∧ x = nI (rNm R (i + 1)) ∧ rNm R (i + 1) < 100 := by
  obtain ⟨a, b, cN, cS, cV, cT, cF, cU, cL⟩ := h
  have hs60 := b.2.1
  have hle := m_last_le (r_pn R x) (rS R)
  unfold m_num
  cases hm : m_ix (fun i => m_hasn x (M.2.2.2.1 i)) 60 0 with
  | none =>
    left
    refine ⟨?_, rfl, rfl⟩
    by_cases hz : m_last (r_pn R x) (rS R) = 0
    · exact hz
    · obtain ⟨h1, h2⟩ := m_last_p hz
      generalize m_last (r_pn R x) (rS R) = s at *
      obtain ⟨i, rfl⟩ : ∃ i, s = i + 1 := ⟨s - 1, by omega⟩
      have h3 := m_ix_none 60 0 hm i (by omega) (by omega)
      simp only [r_pn, Bool.and_eq_true, Bool.not_eq_true', decide_eq_true_eq] at h1
      rcases cT i with ⟨d1, d2⟩ | ⟨S, d1, d2, d3, d4⟩
      · rw [d2 (by omega)] at h1; cases h1.1
      · simp only [m_hasn, d1, decide_eq_false_iff_not] at h3
        rw [d4.1.1] at h3
        exact absurd h1.2 h3
  | some i =>
    right
    obtain ⟨-, h2, h3, -⟩ := m_ix_some 60 0 i hm
    rcases cT i with ⟨d1, d2⟩ | ⟨S, d1, d2, d3, d4⟩
    · simp only [d1, m_hasn] at h3; cases h3
    · simp only [d1, m_hasn, decide_eq_true_eq] at h3
      have hnm := (a.2.2.1 i S d1).2.2.2.2.2
      rw [d4.1.1] at h3 hnm
      refine ⟨i, S, ?_, rfl, rfl, d2, d1, d3, d4, h3.symm, hnm⟩
      have hp : r_pn R x (i + 1) = true := by simp [r_pn, d3, h3]
      by_cases hz : m_last (r_pn R x) (rS R) = 0
      · rw [m_last_0 hz (i + 1) (by omega) (by omega)] at hp; cases hp
      · obtain ⟨h4, h5⟩ := m_last_p hz
        simp only [r_pn, Bool.and_eq_true, Bool.not_eq_true', decide_eq_true_eq] at h4
        obtain ⟨j, hj⟩ : ∃ j, m_last (r_pn R x) (rS R) = j + 1 := ⟨m_last (r_pn R x) (rS R) - 1, by omega⟩
        rw [hj] at h4 hle ⊢
        rcases cT j with ⟨f1, f2⟩ | ⟨S', f1, f2, f3, f4⟩
        · rw [f2 (by omega)] at h4; cases h4.1
        · have hnm' := (a.2.2.1 j S' f1).2.2.2.2.2
          rw [f4.1.1] at hnm'
          exact cU (j + 1) (i + 1) (by omega) (by omega) (by omega) (by omega) f3 d3 ((nI_eq (by omega) (by omega)).mp (h4.2.trans h3.symm))
