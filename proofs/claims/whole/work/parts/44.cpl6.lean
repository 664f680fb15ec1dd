theorem m_pos_cong {xf xf' xl xl' : Nat → Nat} : ∀ (k i p : Nat), (∀ j, i ≤ j → j < i + k → xf j = xf' j ∧ xl j = xl' j) → m_pos xf xl k i p = m_pos xf' xl' k i p
  | 0, _, _, _ => rfl
  | k + 1, i, p, h => by
    unfold m_pos
    rw [(h i (by omega) (by omega)).1, (h i (by omega) (by omega)).2, m_pos_cong k (i + 1) _ (fun j h1 h2 => h j (by omega) (by omega))]
theorem m_lst_none {p : Nat → Bool} {b : Nat} : ∀ {k : Nat}, m_lst p b k = none → ∀ j, j < k → p (b + j) = false
  | 0, _, j, hj => absurd hj (Nat.not_lt_zero _)
  | k + 1, h, j, hj => by
    unfold m_lst at h
    by_cases hp : p (b + k) = true
    · rw [if_pos hp] at h; cases h
    · rw [if_neg hp] at h
      by_cases hjk : j = k
      · rw [hjk]; simpa using hp
      · exact m_lst_none h j (by omega)
/-- a member, in both -/
theorem c_mem {S : mS} {R : mR} {s : Nat} (h : CD S R s) (y : Int32) : (m_dix S y = none ∧ m_lst (r_mp R y) (12 * s) 12 = none) ∨ ∃ j k b, y = nI b ∧ b < 100 ∧ m_dix S y = some j ∧ j < S.2.2.1.1 ∧ S.2.2.1.2.2.1 j = b ∧ m_lst (r_mp R y) (12 * s) 12 = some (12 * s + k) ∧ k < 12 ∧ rMn R (12 * s + k) = some b ∧ rMz R (12 * s + k) = S.2.2.1.2.2.2.2 j ∧ (S.2.2.1.2.2.2.2 j ≠ 0 → rMf R (12 * s + k) = S.2.2.1.2.2.2.1 j) := by
  obtain ⟨h1, h2, h3, h4, h5, h6, h7, h8, h9⟩ := h
  unfold m_dix
  cases hm : m_ix (fun j => decide (nI (S.2.2.1.2.2.1 j) = y)) S.2.2.1.1 0 with
  | none =>
    left
    refine ⟨rfl, ?_⟩
    cases hl : m_lst (r_mp R y) (12 * s) 12 with
    | none => rfl
    | some a =>
      exfalso
      obtain ⟨q1, q2, q3⟩ := m_lst_b hl
      obtain ⟨k, rfl⟩ : ∃ k, a = 12 * s + k := ⟨a - 12 * s, by omega⟩
      simp only [r_mp, Bool.and_eq_true, decide_eq_true_eq] at q3
      obtain ⟨b, hb, rfl⟩ := m_nm_t q3.1
      cases hn : rMn R (12 * s + k) with
      | none => rw [hn] at q3; exact oI_ne (show b < 2 ^ 31 by omega) q3.2.symm
      | some b' =>
        obtain ⟨j, j1, j2⟩ := h5 k b' (by omega) hn
        have := m_ix_none _ _ hm j (by omega) (by omega)
        rw [hn] at q3
        have q4 : nI b' = nI b := q3.2
        simp only [decide_eq_false_iff_not] at this
        exact this (by rw [j2]; exact q4)
  | some j =>
    right
    obtain ⟨-, q2, q3, -⟩ := m_ix_some _ _ _ hm
    simp only [decide_eq_true_eq] at q3
    have hj : j < S.2.2.1.1 := by omega
    obtain ⟨a1, a2, k, hk, a3, a4, a5⟩ := h4 j hj
    refine ⟨j, k, S.2.2.1.2.2.1 j, q3.symm, a1, rfl, hj, rfl, ?_, hk, a3, a4, a5⟩
    cases hl : m_lst (r_mp R y) (12 * s) 12 with
    | none =>
      exfalso
      have := m_lst_none hl k hk
      rw [← q3] at this
      simp [r_mp, m_nm_n a1, a3, oI] at this
    | some a =>
      obtain ⟨p1, p2, p3⟩ := m_lst_b hl
      obtain ⟨k', rfl⟩ : ∃ k, a = 12 * s + k := ⟨a - 12 * s, by omega⟩
      simp only [r_mp, Bool.and_eq_true, decide_eq_true_eq] at p3
      rw [← q3] at p3
      cases hn : rMn R (12 * s + k') with
      | none => rw [hn] at p3; exact absurd p3.2.symm (oI_ne (by omega))
      | some b' =>
        rw [hn] at p3
        have q4 : nI b' = nI (S.2.2.1.2.2.1 j) := p3.2
        obtain ⟨j', j1, j2⟩ := h5 k' b' (by omega) hn
        have hb' := (h4 j' j1).1
        have e : b' = S.2.2.1.2.2.1 j := (nI_eq (by omega) (by omega)).mp q4
        rw [h7 k' k b' (by omega) hk hn (by rw [e]; exact a3)]
theorem CE_sum {S : mS} {R : mR} {s : Nat} (h : CE S R s) : m_sum S.2.1.2.2 S.2.1.1 = m_sum (r_len R s) (rMy R s) := by
  rw [← h.1]
  exact m_sum_cong _ (fun j hj => (h.2.2.1 j (by rw [← h.1]; exact hj)).2.1)
theorem c_track {M : mM} {R : mR} (h : Cpl M R) (x y : Int32) : pr_track R x y ∧ Res R (x_track M x y) (y_track R x y) := by
  unfold x_track y_track
  rcases c_sel h x with ⟨h1, h2⟩ | ⟨i, S, rfl, hi, h1, h2, h3, hg, hcs⟩
  · rw [x_sel_n h2, if_neg (by rw [h1]; decide)]
    exact ⟨fun s k _ z => (by rw [h1] at z; cases z), Res_id h⟩
  · have hs60 := h.2.1.2.1
    rw [x_sel_s h2 h3, if_pos h1, c_clamp (by omega)]
    have ce := hcs.2.1
    have hpos : m_pos S.2.1.2.1 S.2.1.2.2 S.2.1.1 0 = m_pos (r_fst R (i + 1)) (r_len R (i + 1)) (rMy R (i + 1)) 0 := by
      funext p
      rw [ce.1]
      exact m_pos_cong _ _ _ (fun j _ hj => ⟨(ce.2.2.1 j (by omega)).1, (ce.2.2.1 j (by omega)).2.1⟩)
    rcases c_mem hcs.2.2.1 y with ⟨q1, q2⟩ | ⟨j, k, b, rfl, hb, q1, q2, q3, q4, hk, q5, q6, q7⟩
    · refine ⟨fun s k hs hr hs6 hl => ?_, ?_, h, Nat.le_succ _⟩
      · rw [← (nI_eq (show i + 1 < 2 ^ 31 by omega) (show s < 2 ^ 31 by omega)).mp hs, q2] at hl; cases hl
      · show (match m_startOf S.2.2.1.2.2.1 S.2.2.1.2.2.2.1 S.2.2.1.2.2.2.2 S.2.2.1.1 y with | none => -1 | some p => oI (m_pos S.2.1.2.1 S.2.1.2.2 S.2.1.1 0 p)) = _
        have e : m_startOf S.2.2.1.2.2.1 S.2.2.1.2.2.2.1 S.2.2.1.2.2.2.2 S.2.2.1.1 y = none := by
          unfold m_startOf
          unfold m_dix at q1
          rw [q1]
        rw [e, q2]
    · have d8 := hcs.2.2.1.2.2.2.2.2.2.2.1 j q2
      have d2 := hcs.2.2.1.2.1
      rw [CE_sum ce] at d2
      refine ⟨fun s k' hs hr hs6 hl hz => ?_, ?_, h, Nat.le_succ _⟩
      · rw [← (nI_eq (show i + 1 < 2 ^ 31 by omega) (show s < 2 ^ 31 by omega)).mp hs, q4] at hl
        cases hl
        rw [← (nI_eq (show i + 1 < 2 ^ 31 by omega) (show s < 2 ^ 31 by omega)).mp hs]
        rw [q6] at hz
        rw [q7 hz]
        omega
      · show (match m_startOf S.2.2.1.2.2.1 S.2.2.1.2.2.2.1 S.2.2.1.2.2.2.2 S.2.2.1.1 (nI b) with | none => -1 | some p => oI (m_pos S.2.1.2.1 S.2.1.2.2 S.2.1.1 0 p)) = _
        have e : m_startOf S.2.2.1.2.2.1 S.2.2.1.2.2.2.1 S.2.2.1.2.2.2.2 S.2.2.1.1 (nI b) = if S.2.2.1.2.2.2.2 j = 0 then none else some (S.2.2.1.2.2.2.1 j) := by
          unfold m_startOf
          unfold m_dix at q1
          rw [q1]
        rw [e, q4]
        dsimp only
        rw [q6]
        by_cases hz : S.2.2.1.2.2.2.2 j = 0
        · rw [if_pos hz, if_pos hz]
        · rw [if_neg hz, if_neg hz, q7 hz, hpos]
theorem r_cin_none {mn : Nat → Option Nat} {mz : Nat → Nat} {fr : Nat} {q : (Nat → Nat) × Nat} : ∀ {f b : Nat}, (∀ k, b ≤ k → k < b + f → ¬ ((mn k).isSome = true ∧ mz k ≠ 0 ∧ q.1 k = fr)) → r_cin mn mz fr f b q = q
  | 0, _, _ => rfl
  | f + 1, b, h => by
    unfold r_cin
    rw [if_neg (h b (Nat.le_refl _) (by omega))]
    exact r_cin_none (fun k h1 h2 => h k (by omega) (by omega))
theorem r_cin_one {mn : Nat → Option Nat} {mz : Nat → Nat} {fr k0 : Nat} {q : (Nat → Nat) × Nat} : ∀ {f b : Nat}, b ≤ k0 → k0 < b + f → ((mn k0).isSome = true ∧ mz k0 ≠ 0 ∧ q.1 k0 = fr) → (∀ k, b ≤ k → k < b + f → k ≠ k0 → ¬ ((mn k).isSome = true ∧ mz k ≠ 0 ∧ q.1 k = fr)) → r_cin mn mz fr f b q = (va_up q.1 k0 q.2, q.2 + mz k0)
  | 0, b, h1, h2, _, _ => by omega
  | f + 1, b, h1, h2, hp, h => by
    unfold r_cin
    by_cases hb : b = k0
    · subst hb
      rw [if_pos hp]
      exact r_cin_none (fun k k1 k2 z => h k (by omega) (by omega) (by omega) ⟨z.1, z.2.1, by have this : va_up q.1 b q.2 k = fr := z.2.2; rw [va_up_ne _ _ (by omega)] at this; exact this⟩)
    · rw [if_neg (h b (Nat.le_refl _) (by omega) hb)]
      exact r_cin_one (by omega) (by omega) hp (fun k k1 k2 => h k (by omega) (by omega))
/-- what compress has done when the starts below fr are through -/
def cInv (dc : Nat) (dn ds dl : Nat → Nat) (R : mR) (s fr J : Nat) (q : (Nat → Nat) × Nat) : Prop := J ≤ dc ∧ (∀ j, j < J → dl j ≠ 0 → ds j < fr) ∧ (∀ j, J ≤ j → j < dc → dl j ≠ 0 → fr ≤ ds j) ∧ q.2 = m_sum dl J ∧ (∀ j k, j < dc → k < 12 → rMn R (12 * s + k) = some (dn j) → dl j ≠ 0 → q.1 (12 * s + k) = if j < J then m_sum dl j else ds j) ∧ ∀ a, ¬ (∃ j k, j < dc ∧ k < 12 ∧ a = 12 * s + k ∧ rMn R a = some (dn j) ∧ dl j ≠ 0) → q.1 a = rMf R a
theorem m_sum_gap {dc : Nat} {ds dl : Nat → Nat} (h9 : ∀ j j', j < j' → j' < dc → ds j + dl j ≤ ds j') : ∀ j, j < dc → m_sum dl j ≤ ds j
  | 0, _ => Nat.zero_le _
  | j + 1, h => by
    have h1 := m_sum_gap h9 j (by omega)
    have h2 := h9 j (j + 1) (by omega) h
    show m_sum dl j + dl j ≤ _
    omega
theorem cInv_step {S : mS} {R : mR} {s fr J : Nat} {q : (Nat → Nat) × Nat} (h : CD S R s) (hI : cInv S.2.2.1.1 S.2.2.1.2.2.1 S.2.2.1.2.2.2.1 S.2.2.1.2.2.2.2 R s fr J q) : ∃ J', cInv S.2.2.1.1 S.2.2.1.2.2.1 S.2.2.1.2.2.2.1 S.2.2.1.2.2.2.2 R s (fr + 1) J' (r_cin (rMn R) (rMz R) fr 12 (12 * s) q) := by
  obtain ⟨-, -, -, h4, h5, h6, h7, h8, h9⟩ := h
  generalize S.2.2.1.1 = dc at *
  generalize S.2.2.1.2.2.1 = dn at *
  generalize S.2.2.1.2.2.2.1 = ds at *
  generalize S.2.2.1.2.2.2.2 = dl at *
  obtain ⟨i1, i2, i3, i4, i5, i6⟩ := hI
  have hgap := m_sum_gap h9
  -- who has its start here
  have hP : ∀ k, k < 12 → ((rMn R (12 * s + k)).isSome = true ∧ rMz R (12 * s + k) ≠ 0 ∧ q.1 (12 * s + k) = fr) → ∃ j, J ≤ j ∧ j < dc ∧ dl j ≠ 0 ∧ ds j = fr ∧ rMn R (12 * s + k) = some (dn j) := fun k hk ⟨p1, p2, p3⟩ => by
    obtain ⟨b, hb⟩ := Option.isSome_iff_exists.mp p1
    obtain ⟨j, j1, rfl⟩ := h5 k b hk hb
    obtain ⟨-, -, k', hk', a3, a4, a5⟩ := h4 j j1
    have e := h7 k k' (dn j) hk hk' hb a3
    subst e
    rw [a4] at p2
    have := i5 j k j1 hk hb p2
    by_cases hJ : j < J
    · rw [if_pos hJ] at this
      have g1 := hgap j j1
      have g2 := i2 j hJ p2
      omega
    · rw [if_neg hJ] at this
      exact ⟨j, by omega, j1, p2, by omega, hb⟩
  by_cases hA : ∃ j0, J ≤ j0 ∧ j0 < dc ∧ dl j0 ≠ 0 ∧ ds j0 = fr
  · obtain ⟨j0, a1, a2, a3, a4⟩ := hA
    obtain ⟨-, -, k0, hk0, b3, b4, b5⟩ := h4 j0 a2
    have hz : ∀ j, J ≤ j → j < j0 → dl j = 0 := fun j j1 j2 => Classical.byContradiction (fun hn => by
      have g1 := i3 j j1 (by omega) hn
      have g2 := h9 j j0 j2 a2
      omega)
    have hsum : m_sum dl j0 = m_sum dl J := m_sum_z a1 hz
    have hq0 := i5 j0 k0 a2 hk0 b3 a3
    rw [if_neg (by omega)] at hq0
    rw [r_cin_one (k0 := 12 * s + k0) (by omega) (by omega) ⟨by rw [b3]; rfl, by rw [b4]; exact a3, by rw [hq0, a4]⟩ (fun k k1 k2 k3 hp => ?_)]
    · refine ⟨j0 + 1, by omega, fun j j1 j2 => ?_, fun j j1 j2 j3 => ?_, ?_, fun j k j1 k1 hn hd => ?_, fun a ha => ?_⟩
      · by_cases hj : j = j0
        · subst hj; omega
        · by_cases hJ : j < J
          · have := i2 j hJ j2; omega
          · exact absurd (hz j (by omega) (by omega)) j2
      · have := h9 j0 j (by omega) j2; omega
      · show q.2 + rMz R (12 * s + k0) = m_sum dl j0 + dl j0
        rw [b4, i4, hsum]
      · show va_up q.1 (12 * s + k0) q.2 (12 * s + k) = _
        by_cases hkk : k = k0
        · subst hkk
          have hjj : j = j0 := h6 j j0 j1 a2 (by rw [hn] at b3; exact Option.some.inj b3)
          subst hjj
          rw [va_up_self, if_pos (by omega), i4, hsum]
        · rw [va_up_ne _ _ (by omega), i5 j k j1 k1 hn hd]
          have hne : j ≠ j0 := fun z => hkk (h7 k k0 (dn j) k1 hk0 hn (by rw [z]; exact b3))
          by_cases hJ : j < J
          · rw [if_pos hJ, if_pos (by omega)]
          · rw [if_neg hJ]
            by_cases hj0 : j < j0
            · exact absurd (hz j (by omega) hj0) hd
            · rw [if_neg (by omega)]
      · show va_up q.1 (12 * s + k0) q.2 a = _
        rw [va_up_ne _ _ (fun z => ha ⟨j0, k0, a2, hk0, z, by rw [z]; exact b3, a3⟩)]
        exact i6 a ha
    · obtain ⟨k', rfl⟩ : ∃ k', k = 12 * s + k' := ⟨k - 12 * s, by omega⟩
      obtain ⟨j, c1, c2, c3, c4, c5⟩ := hP k' (by omega) hp
      have hjj : j = j0 := by
        rcases Nat.lt_trichotomy j j0 with q1 | q1 | q1
        · have := h9 j j0 q1 a2; omega
        · exact q1
        · have := h9 j0 j q1 c2; omega
      subst hjj
      exact k3 (by rw [h7 k' k0 (dn j) (by omega) hk0 c5 b3])
  · rw [r_cin_none (fun k k1 k2 hp => ?_)]
    · exact ⟨J, i1, fun j j1 j2 => by have := i2 j j1 j2; omega, fun j j1 j2 j3 => by
        have g1 := i3 j j1 j2 j3
        have g2 : ds j ≠ fr := fun z => hA ⟨j, j1, j2, j3, z⟩
        omega, i4, i5, i6⟩
    · obtain ⟨k', rfl⟩ : ∃ k', k = 12 * s + k' := ⟨k - 12 * s, by omega⟩
      obtain ⟨j, c1, c2, c3, c4, c5⟩ := hP k' (by omega) hp
      exact hA ⟨j, c1, c2, c3, c4⟩
theorem cInv_out {S : mS} {R : mR} {s : Nat} (h : CD S R s) : ∀ (f fr J : Nat) (q : (Nat → Nat) × Nat), cInv S.2.2.1.1 S.2.2.1.2.2.1 S.2.2.1.2.2.2.1 S.2.2.1.2.2.2.2 R s fr J q → ∃ J', cInv S.2.2.1.1 S.2.2.1.2.2.1 S.2.2.1.2.2.2.1 S.2.2.1.2.2.2.2 R s (fr + f) J' (r_cout (rMn R) (rMz R) s f fr q)
  | 0, fr, J, q, hI => ⟨J, hI⟩
  | f + 1, fr, J, q, hI => by
    obtain ⟨J1, h1⟩ := cInv_step h hI
    have := cInv_out h f (fr + 1) J1 _ h1
    rw [show fr + 1 + f = fr + (f + 1) by omega] at this
    exact this
/-- what compress does in the reference -/
theorem c_cmp {S : mS} {R : mR} {s : Nat} (h : CD S R s) : (r_cmp R s).2 = m_sum S.2.2.1.2.2.2.2 S.2.2.1.1 ∧ (∀ j k, j < S.2.2.1.1 → k < 12 → rMn R (12 * s + k) = some (S.2.2.1.2.2.1 j) → S.2.2.1.2.2.2.2 j ≠ 0 → (r_cmp R s).1 (12 * s + k) = m_sum S.2.2.1.2.2.2.2 j) ∧ (∀ a, (a < 12 * s ∨ 12 * s + 12 ≤ a) → (r_cmp R s).1 a = rMf R a) ∧ ∀ a, (r_cmp R s).1 a = rMf R a ∨ (r_cmp R s).1 a ≤ rGv R s := by
  have hgap := m_sum_gap h.2.2.2.2.2.2.2.2
  obtain ⟨J, hI⟩ := cInv_out h (rGv R s) 0 0 (rMf R, 0) ⟨Nat.zero_le _, fun j hj => absurd hj (Nat.not_lt_zero _), fun j _ _ _ => Nat.zero_le _, rfl, fun j k j1 k1 hn hd => by
    obtain ⟨-, -, k', hk', a3, a4, a5⟩ := h.2.2.2.1 j j1
    rw [h.2.2.2.2.2.2.1 k k' _ k1 hk' hn a3, if_neg (by omega)]
    exact a5 hd, fun a _ => rfl⟩
  rw [Nat.zero_add] at hI
  have hI : cInv S.2.2.1.1 S.2.2.1.2.2.1 S.2.2.1.2.2.2.1 S.2.2.1.2.2.2.2 R s (rGv R s) J (r_cmp R s) := hI
  obtain ⟨i1, i2, i3, i4, i5, i6⟩ := hI
  have h8 := h.2.2.2.2.2.2.2.1
  have hz : ∀ j, J ≤ j → j < S.2.2.1.1 → S.2.2.1.2.2.2.2 j = 0 := fun j j1 j2 => Classical.byContradiction (fun hn => by
    have g1 := i3 j j1 j2 hn
    have g2 := h8 j j2
    omega)
  have hv : ∀ j k, j < S.2.2.1.1 → k < 12 → rMn R (12 * s + k) = some (S.2.2.1.2.2.1 j) → S.2.2.1.2.2.2.2 j ≠ 0 → (r_cmp R s).1 (12 * s + k) = m_sum S.2.2.1.2.2.2.2 j := fun j k j1 k1 hn hd => by
    rw [i5 j k j1 k1 hn hd, if_pos]
    exact Classical.byContradiction (fun z => hd (hz j (by omega) j1))
  refine ⟨by rw [i4, m_sum_z i1 hz], hv, fun a ha => i6 a (fun ⟨j, k, _, hk, e, _⟩ => by omega), fun a => ?_⟩
  by_cases hc : ∃ j k, j < S.2.2.1.1 ∧ k < 12 ∧ a = 12 * s + k ∧ rMn R a = some (S.2.2.1.2.2.1 j) ∧ S.2.2.1.2.2.2.2 j ≠ 0
  · obtain ⟨j, k, j1, k1, rfl, hn, hd⟩ := hc
    right
    rw [hv j k j1 k1 hn hd]
    have g1 := hgap j j1
    have g2 := h8 j j1
    omega
  · exact Or.inl (i6 a hc)
