theorem c_fr {M : mM} {R : mR} (h : Cpl M R) (n : Nat) : m_fr (fun t => !M.2.1 t) n M.1 0 = m_fr (r_fr R) n (rN R) 0 := by
  rw [h.2.2.1]
  refine m_fr_cong _ _ (fun j hj => ?_)
  have := h.2.2.2.2.1.1 j (by omega)
  unfold r_fr
  cases hk : M.2.1 j with
  | true => have h0 := this.mp hk; simp [h0]
  | false =>
    have h0 : rO R j = 0 := Classical.byContradiction (fun z => by rw [this.mpr z] at hk; cases hk)
    simp [h0]
theorem m_sum_up {f : Nat → Nat} {c n : Nat} : m_sum (va_up f c n) (c + 1) = m_sum f c + n := by
  show m_sum (va_up f c n) c + va_up f c n c = _
  rw [va_up_self, m_sum_cong (f' := f) c (fun j hj => va_up_ne _ _ (by omega))]
theorem m_fill_in {α : Type} {f : Nat → α} {a k j : Nat} {b : α} (h1 : a ≤ j) (h2 : j < a + k) : m_fill f a k b j = b := if_pos ⟨h1, h2⟩
theorem m_fill_out {α : Type} {f : Nat → α} {a k j : Nat} {b : α} (h : ¬ (a ≤ j ∧ j < a + k)) : m_fill f a k b j = f j := if_neg h
/-- a set takes a run of free tracks -/
theorem CE_take {S : mS} {R : mR} {s st n : Nat} (h : CE S R s) (hs : s ≠ 0) (hc : rMy R s < 16) (hn : 1 ≤ n) (hN : st + n ≤ rN R) (hfit : ∀ j, j < rMy R s → r_fst R s j + r_len R s j ≤ rN R) (hfree : ∀ t, st ≤ t → t < st + n → rO R t = 0) : CE (addE S st n) (takeR R s st n) s := by
  obtain ⟨h1, h2, h3, h4, h5⟩ := h
  have emy : rMy (takeR R s st n) s = rMy R s + 1 := va_up_self _ _ _
  have ex : ∀ j, j < rMy R s → r_fst (takeR R s st n) s j = r_fst R s j ∧ r_len (takeR R s st n) s j = r_len R s j := fun j hj => by
    show va_up (va_up (rEx R) (32 * s + 2 * rMy R s) st) (32 * s + 2 * rMy R s + 1) n (32 * s + 2 * j) = rEx R (32 * s + 2 * j) ∧ va_up (va_up (rEx R) (32 * s + 2 * rMy R s) st) (32 * s + 2 * rMy R s + 1) n (32 * s + 2 * j + 1) = rEx R (32 * s + 2 * j + 1)
    rw [va_up_ne _ _ (by omega), va_up_ne _ _ (by omega), va_up_ne _ _ (by omega), va_up_ne _ _ (by omega)]
    exact ⟨rfl, rfl⟩
  have ec : r_fst (takeR R s st n) s (rMy R s) = st ∧ r_len (takeR R s st n) s (rMy R s) = n := by
    show va_up (va_up (rEx R) (32 * s + 2 * rMy R s) st) (32 * s + 2 * rMy R s + 1) n (32 * s + 2 * rMy R s) = st ∧ va_up (va_up (rEx R) (32 * s + 2 * rMy R s) st) (32 * s + 2 * rMy R s + 1) n (32 * s + 2 * rMy R s + 1) = n
    rw [va_up_ne _ _ (by omega), va_up_self, va_up_self]
    exact ⟨rfl, rfl⟩
  have dis : ∀ j, j < rMy R s → r_fst R s j + r_len R s j ≤ st ∨ st + n ≤ r_fst R s j := fun j hj => by
    obtain ⟨e1, e2, e3⟩ := h3 j hj
    have hf := hfit j hj
    rcases Nat.lt_or_ge st (r_fst R s j + r_len R s j) with q1 | q1
    · rcases Nat.lt_or_ge (r_fst R s j) (st + n) with q2 | q2
      · exfalso
        have key : ∀ t, r_fst R s j ≤ t → t < r_fst R s j + r_len R s j → st ≤ t → t < st + n → False := fun t t1 t2 t3 t4 => by
          have k1 := (h5 t (by omega)).mpr ⟨j, by omega, by omega, by omega⟩
          have k2 := hfree t t3 t4
          omega
        rcases Nat.le_total st (r_fst R s j) with q3 | q3
        · exact key (r_fst R s j) (by omega) (by omega) q3 q2
        · exact key st q3 q1 (by omega) (by omega)
      · exact Or.inr q2
    · exact Or.inl q1
  refine ⟨by rw [emy, ← h1]; rfl, by omega, fun j hj => ?_, fun j k hj hk hne => ?_, fun t ht => ?_⟩
  · rw [emy] at hj
    show va_up S.2.1.2.1 S.2.1.1 st j = _ ∧ va_up S.2.1.2.2 S.2.1.1 n j = _ ∧ _
    by_cases hj2 : j = rMy R s
    · subst hj2
      rw [h1, va_up_self, va_up_self, ec.1, ec.2]
      exact ⟨rfl, rfl, hn⟩
    · rw [va_up_ne _ _ (by omega), va_up_ne _ _ (by omega), (ex j (by omega)).1, (ex j (by omega)).2]
      exact h3 j (by omega)
  · rw [emy] at hj hk
    by_cases hj2 : j = rMy R s
    · subst hj2
      rw [ec.1, ec.2, (ex k (by omega)).1, (ex k (by omega)).2]
      have := dis k (by omega)
      omega
    · by_cases hk2 : k = rMy R s
      · subst hk2
        rw [ec.1, ec.2, (ex j (by omega)).1, (ex j (by omega)).2]
        exact dis j (by omega)
      · rw [(ex j (by omega)).1, (ex j (by omega)).2, (ex k (by omega)).1, (ex k (by omega)).2]
        exact h4 j k (by omega) (by omega) hne
  · have ht : t < rN R := ht
    show m_fill (rO R) st n s t = s ↔ ∃ j, j < S.2.1.1 + 1 ∧ va_up S.2.1.2.1 S.2.1.1 st j ≤ t ∧ t < va_up S.2.1.2.1 S.2.1.1 st j + va_up S.2.1.2.2 S.2.1.1 n j
    by_cases hin : st ≤ t ∧ t < st + n
    · rw [m_fill_in hin.1 hin.2]
      exact ⟨fun _ => ⟨S.2.1.1, by omega, by rw [va_up_self]; exact hin.1, by rw [va_up_self, va_up_self]; exact hin.2⟩, fun _ => rfl⟩
    · rw [m_fill_out hin, h5 t ht]
      constructor
      · rintro ⟨j, j1, j2, j3⟩
        exact ⟨j, by omega, by rw [va_up_ne _ _ (by omega)]; exact j2, by rw [va_up_ne _ _ (by omega), va_up_ne _ _ (by omega)]; exact j3⟩
      · rintro ⟨j, j1, j2, j3⟩
        by_cases hj2 : j = S.2.1.1
        · subst hj2
          rw [va_up_self] at j2 j3
          rw [va_up_self] at j3
          exact absurd ⟨j2, j3⟩ hin
        · rw [va_up_ne _ _ hj2] at j2 j3
          rw [va_up_ne _ _ hj2] at j3
          exact ⟨j, by omega, j2, j3⟩
theorem takeR_same {R : mR} {s st n s' : Nat} (hne : s' ≠ s) (hs' : s' ≠ 0) (hmy : rMy R s < 16) (hfree : ∀ t, st ≤ t → t < st + n → rO R t = 0) : sameS R (takeR R s st n) s' := by
  refine ⟨rfl, rfl, rfl, va_up_ne _ _ hne, rfl, fun j h1 h2 => ?_, fun _ _ _ => ⟨rfl, rfl, rfl⟩, fun _ _ _ => ⟨rfl, rfl⟩, fun t ht => ?_⟩
  · show va_up (va_up (rEx R) (32 * s + 2 * rMy R s) st) (32 * s + 2 * rMy R s + 1) n j = rEx R j
    rw [va_up_ne _ _ (by omega), va_up_ne _ _ (by omega)]
  · show m_fill (rO R) st n s t = s' ↔ rO R t = s'
    by_cases hin : st ≤ t ∧ t < st + n
    · rw [m_fill_in hin.1 hin.2, hfree t hin.1 hin.2]
      exact ⟨fun z => absurd z.symm hne, fun z => absurd z.symm hs'⟩
    · rw [m_fill_out hin]
theorem CVol_take {N : Nat} {k : Nat → Bool} {R : mR} {s st n : Nat} (h : CVol N k R) (hs : s ≠ 0) (hs1 : s ≤ rS R) (hg : rG R s = false) : CVol N (m_fill k st n true) (takeR R s st n) := by
  refine ⟨fun t ht => ?_, fun t ht hz => ?_⟩
  · show m_fill k st n true t = true ↔ m_fill (rO R) st n s t ≠ 0
    by_cases hin : st ≤ t ∧ t < st + n
    · rw [m_fill_in hin.1 hin.2, m_fill_in hin.1 hin.2]
      exact ⟨fun _ => hs, fun _ => rfl⟩
    · rw [m_fill_out hin, m_fill_out hin]
      exact h.1 t ht
  · have hz : m_fill (rO R) st n s t ≠ 0 := hz
    show 1 ≤ m_fill (rO R) st n s t ∧ m_fill (rO R) st n s t ≤ rS R ∧ rG R (m_fill (rO R) st n s t) = false
    by_cases hin : st ≤ t ∧ t < st + n
    · rw [m_fill_in hin.1 hin.2]
      exact ⟨by omega, hs1, hg⟩
    · rw [m_fill_out hin] at hz ⊢
      exact h.2 t ht hz
theorem okR_take {R : mR} {s st n : Nat} (h : okR R) (hs : s ≠ 0) (hs1 : s ≤ rS R) (hmy : rMy R s < 16) (hN : st + n ≤ rN R) : okR (takeR R s st n) := by
  obtain ⟨h1, h2, h3, h4, h5, h6, h7⟩ := h
  refine ⟨h1, h2, fun t ht => ?_, fun s' q1 q2 => ?_, fun s' q1 q2 => ?_, h6, h7⟩
  · show m_fill (rO R) st n s t ≤ 60
    by_cases hin : st ≤ t ∧ t < st + n
    · rw [m_fill_in hin.1 hin.2]; omega
    · rw [m_fill_out hin]; exact h3 t ht
  · obtain ⟨⟨b1, b2⟩, b3, b4, b5⟩ := h4 s' q1 q2
    have q2 : s' ≤ rS R := q2
    have em : rMy (takeR R s st n) s' = va_up (rMy R) s (rMy R s + 1) s' := rfl
    have ef : ∀ j, r_fst (takeR R s st n) s' j = va_up (va_up (rEx R) (32 * s + 2 * rMy R s) st) (32 * s + 2 * rMy R s + 1) n (32 * s' + 2 * j) := fun j => rfl
    have el : ∀ j, r_len (takeR R s st n) s' j = va_up (va_up (rEx R) (32 * s + 2 * rMy R s) st) (32 * s + 2 * rMy R s + 1) n (32 * s' + 2 * j + 1) := fun j => rfl
    have key : ∀ j, j < rMy (takeR R s st n) s' → (r_fst (takeR R s st n) s' j ≤ 500 ∧ r_len (takeR R s st n) s' j ≤ 500) ∧ r_fst (takeR R s st n) s' j + r_len (takeR R s st n) s' j ≤ rN R := fun j hj => by
      rw [em] at hj
      rw [ef, el]
      by_cases hs' : s' = s
      · subst hs'
        rw [va_up_self] at hj
        by_cases hj2 : j = rMy R s'
        · subst hj2
          rw [va_up_ne _ _ (by omega), va_up_self, va_up_self]
          omega
        · rw [va_up_ne _ _ (by omega), va_up_ne _ _ (by omega), va_up_ne _ _ (by omega), va_up_ne _ _ (by omega)]
          exact ⟨b2 j (by omega), b5 j (by omega)⟩
      · rw [va_up_ne _ _ hs'] at hj
        rw [va_up_ne _ _ (by omega), va_up_ne _ _ (by omega), va_up_ne _ _ (by omega), va_up_ne _ _ (by omega)]
        exact ⟨b2 j hj, b5 j hj⟩
    refine ⟨⟨?_, fun j hj => (key j hj).1⟩, b3, b4, fun j hj => (key j hj).2⟩
    rw [em]
    by_cases hs' : s' = s
    · subst hs'; rw [va_up_self]; omega
    · rw [va_up_ne _ _ hs']; exact b1
  · have q1 : rS R < s' := q1
    show va_up (rMy R) s (rMy R s + 1) s' = 0
    rw [va_up_ne _ _ (by omega)]
    exact h5 s' q1 q2
theorem okS_add {N : Nat} {S : mS} {st n : Nat} (h : okS N S) (hc : S.2.1.1 < 16) (hN : st + n ≤ N) (hN5 : N ≤ 500) : okS N (addE S st n) := by
  obtain ⟨⟨h1, h2⟩, h3, h4, h5, h6⟩ := h
  refine ⟨⟨by show S.2.1.1 + 1 ≤ 16; omega, fun j hj => ?_⟩, fun j hj => ?_, h4, h5, h6⟩
  · have hj : j < S.2.1.1 + 1 := hj
    show va_up S.2.1.2.1 S.2.1.1 st j ≤ 500 ∧ va_up S.2.1.2.2 S.2.1.1 n j ≤ 500
    by_cases hj2 : j = S.2.1.1
    · subst hj2; rw [va_up_self, va_up_self]; omega
    · rw [va_up_ne _ _ hj2, va_up_ne _ _ hj2]; exact h2 j (by omega)
  · have hj : j < S.2.1.1 + 1 := hj
    show va_up S.2.1.2.1 S.2.1.1 st j + va_up S.2.1.2.2 S.2.1.1 n j ≤ N
    by_cases hj2 : j = S.2.1.1
    · subst hj2; rw [va_up_self, va_up_self]; omega
    · rw [va_up_ne _ _ hj2, va_up_ne _ _ hj2]; exact h3 j (by omega)
theorem CD_add {S : mS} {R : mR} {s st n : Nat} (h : CD S R s) : CD (addE S st n) (takeR R s st n) s := by
  obtain ⟨h1, h2, h3⟩ := h
  refine ⟨h1, ?_, h3⟩
  show rGv R s ≤ m_sum (va_up S.2.1.2.2 S.2.1.1 n) (S.2.1.1 + 1)
  rw [m_sum_up]
  omega
theorem c_extend {M : mM} {R : mR} (h : Cpl M R) (x : Int32) : Res R (x_extend M x) (y_extend R x) := by
  unfold x_extend y_extend
  rcases c_sel h x with ⟨h1, h2⟩ | ⟨i, S, rfl, hi, h1, h2, h3, hg, hcs⟩
  · rw [x_sel_n h2, if_neg (by rw [h1]; decide)]; exact Res_id h
  · have hs60 := h.2.1.2.1
    rw [x_sel_s h2 h3, if_pos h1, c_clamp (by omega)]
    obtain ⟨a1, a2, a3⟩ := hcs.1
    have ce := hcs.2.1
    have hoS := (h.1.2.2.1 i S h3).2
    rw [a2, ce.1]
    by_cases hc : rMy R (i + 1) = 16 ∨ rFu R (i + 1) = 0
    · rw [if_pos hc, if_pos (by have := ce.2.1; omega)]; exact Res_id h
    · rw [if_neg hc, if_neg (by have := ce.2.1; omega), c_fr h]
      cases hf : m_fr (r_fr R) (rFu R (i + 1)) (rN R) 0 with
      | none => exact Res_id h
      | some st =>
        dsimp only
        obtain ⟨f1, f2⟩ := m_fr_spec _ _ _ hf
        have hfree : ∀ t, st ≤ t → t < st + rFu R (i + 1) → rO R t = 0 := fun t t1 t2 => by simpa [r_fr] using f2 t t1 t2
        have hmy := ce.2.1
        have hfit := (h.2.1.2.2.2.1 (i + 1) (by omega) (by omega)).2.2.2
        refine ⟨rfl, Cpl_set h hi hg (okR_take h.2.1 (by omega) (by omega) (by omega) (by omega)) (okS_add hoS (by rw [ce.1]; omega) (by rw [← h.2.2.1]; omega) h.1.1) rfl rfl rfl rfl (CVol_take h.2.2.2.2.1 (by omega) (by omega) hg) ⟨⟨a1, a2, a3⟩, CE_take ce (by omega) (by omega) (by omega) (by omega) hfit hfree, CD_add hcs.2.2.1, hcs.2.2.2⟩ (fun s hs hs0 _ => takeR_same hs (by omega) (by omega) hfree) h.2.2.2.2.2.2.2.1, Nat.le_succ _⟩
/-- a new set, still without an extent -/
theorem c_make {M : mM} {R : mR} (h : Cpl M R) (x y w : Int32) : Res R (x_make M x y w) (y_make R x y w) := by
  unfold x_make y_make
  by_cases hc : m_nm x = true ∧ 1 ≤ y ∧ y ≤ 500 ∧ 0 ≤ w ∧ w ≤ 500
  · rw [if_pos hc, if_pos hc]
    have hny : (m_num M.2.2.2.1 x = 0 ↔ m_last (r_pn R x) (rS R) = 0) := by
      rcases c_nam h x with ⟨k1, -, k2⟩ | ⟨j, S', k1, -, k2, -⟩ <;> rw [k1, k2]
    by_cases hz : m_last (r_pn R x) (rS R) = 0
    · rw [if_pos (hny.mpr hz), if_pos hz, c_fr h]
      obtain ⟨c1, c2, c3, c4, c5⟩ := hc
      obtain ⟨nm, hnm, rfl⟩ := m_nm_t c1
      obtain ⟨yn, hyn, rfl⟩ := m_nn (Int32.le_trans (by decide) c2)
      obtain ⟨wn, hwn, rfl⟩ := m_nn c4
      have y1 := (nI_leI (a := 1) (by decide) hyn).mp c2
      have y5 := (nI_leI (b := 500) hyn (by decide)).mp c3
      have w5 := (nI_leI (b := 500) hwn (by decide)).mp c5
      rw [nI_clamp hyn, nI_clamp (n := nm) (by omega), nI_clamp hwn]
      cases hf : m_fr (r_fr R) yn (rN R) 0 with
      | none => exact Res_id h
      | some st =>
        dsimp only
        obtain ⟨⟨a1, a2, a3, a4⟩, b, cN, cS, cV, cT, cF, cU, cL⟩ := id h
        have hs60 := b.2.1
        by_cases h60 : rS R = 60
        · rw [if_pos (by omega), if_pos h60]; exact Res_id h
        · rw [if_neg (by omega), if_neg h60]
          obtain ⟨f1, f2⟩ := m_fr_spec _ _ _ hf
          have hfree : ∀ t, st ≤ t → t < st + yn → rO R t = 0 := fun t t1 t2 => by simpa [r_fr] using f2 t t1 t2
          obtain ⟨g0, g1, g2, g3, g4⟩ := cF (rS R + 1) (by omega) (by omega)
          have hno : ∀ s, 1 ≤ s → s ≤ rS R → rG R s = false → rNm R s ≠ nm := fun s s1 s2 sg hn => by
            have := m_last_0 hz s s1 s2
            simp [r_pn, sg, hn] at this
          -- the reference without the extent
          have hR1 : okR (makeR R nm wn) := by
            obtain ⟨b1, b2, b3, b4, b5, b6, b7⟩ := b
            refine ⟨b1, by show rS R + 1 ≤ 60; omega, b3, fun s s1 s2 => ?_, fun s s1 s2 => b5 s (by have : rS R + 1 < s := s1; omega) s2, b6, b7⟩
            have s2 : s ≤ rS R + 1 := s2
            by_cases hs : s = rS R + 1
            · subst hs
              refine ⟨⟨by show rMy R (rS R + 1) ≤ 16; omega, fun j hj => ?_⟩, by show va_up (rFu R) (rS R + 1) wn (rS R + 1) ≤ 500; rw [va_up_self]; exact w5, by show rGv R (rS R + 1) ≤ 100000; omega, fun j hj => ?_⟩
              · have hj : j < rMy R (rS R + 1) := hj
                omega
              · have hj : j < rMy R (rS R + 1) := hj
                omega
            · obtain ⟨k1, k2, k3, k4⟩ := b4 s s1 (by omega)
              exact ⟨k1, by show va_up (rFu R) (rS R + 1) wn s ≤ 500; rw [va_up_ne _ _ hs]; exact k2, k3, k4⟩
          have sm1 : ∀ s, s ≠ rS R + 1 → sameS R (makeR R nm wn) s := fun s hs => ⟨va_up_ne _ _ hs, va_up_ne _ _ hs, pk_uLn hs, rfl, rfl, fun _ _ _ => rfl, fun _ _ _ => ⟨rfl, rfl, rfl⟩, fun _ _ _ => ⟨rfl, rfl⟩, fun _ _ => Iff.rfl⟩
          have cs1 : CS (mS0 nm wn) (makeR R nm wn) (rS R + 1) := by
            refine ⟨⟨(va_up_self _ _ _).symm, (va_up_self _ _ _).symm, pk_uLs.symm⟩, ⟨g1.symm, by show rMy R (rS R + 1) ≤ 16; omega, fun j hj => ?_, fun j k hj hk hne => ?_, fun t ht => ⟨fun z => ?_, fun z => ?_⟩⟩, ⟨g2.symm, by show rGv R (rS R + 1) ≤ 0; omega, ?_, fun j hj => absurd hj (Nat.not_lt_zero _), fun k b' hk hb' => ?_, fun j j' hj => absurd hj (Nat.not_lt_zero _), fun k k' b' hk hk' hb' => ?_, fun j hj => absurd hj (Nat.not_lt_zero _), fun j j' hj hj' => absurd hj' (Nat.not_lt_zero _)⟩, fun j hj => ⟨(g4 j hj).1.symm, (g4 j hj).2.symm⟩⟩
            · have hj : j < rMy R (rS R + 1) := hj
              omega
            · have hj : j < rMy R (rS R + 1) := hj
              omega
            · have z : rO R t = rS R + 1 := z
              have ht : t < rN R := ht
              have := cV.2 t (by omega) (by omega)
              omega
            · obtain ⟨j, hj, -⟩ := z
              exact absurd hj (Nat.not_lt_zero _)
            · show 0 = m_cnt (fun k => (rMn R (12 * (rS R + 1) + k)).isSome) 12
              rw [m_cnt_c (g' := fun _ => false) (fun k hk => by rw [g3 k hk]; rfl)]
              rfl
            · have hb' : rMn R (12 * (rS R + 1) + k) = some b' := hb'
              rw [g3 k hk] at hb'; cases hb'
            · have hb' : rMn R (12 * (rS R + 1) + k) = some b' := hb'
              rw [g3 k hk] at hb'; cases hb'
          have hmy : rMy (makeR R nm wn) (rS R + 1) < 16 := by show rMy R (rS R + 1) < 16; omega
          have sm2 : ∀ s, s ≠ rS R + 1 → 1 ≤ s → sameS (makeR R nm wn) (takeR (makeR R nm wn) (rS R + 1) st yn) s := fun s hs h1 => takeR_same hs (by omega) hmy hfree
          have sm : ∀ s, s ≠ rS R + 1 → 1 ≤ s → sameS R (takeR (makeR R nm wn) (rS R + 1) st yn) s := fun s hs h1 => by
            obtain ⟨p1, p2, p3, p4, p5, p6, p7, p8, p9⟩ := sm1 s hs
            obtain ⟨q1, q2, q3, q4, q5, q6, q7, q8, q9⟩ := sm2 s hs h1
            exact ⟨q1.trans p1, q2.trans p2, q3.trans p3, q4.trans p4, q5.trans p5, fun j j1 j2 => (q6 j j1 j2).trans (p6 j j1 j2), fun k k1 k2 => ⟨(q7 k k1 k2).1.trans (p7 k k1 k2).1, (q7 k k1 k2).2.1.trans (p7 k k1 k2).2.1, (q7 k k1 k2).2.2.trans (p7 k k1 k2).2.2⟩, fun k k1 k2 => ⟨(q8 k k1 k2).1.trans (p8 k k1 k2).1, (q8 k k1 k2).2.trans (p8 k k1 k2).2⟩, fun t ht => (q9 t ht).trans (p9 t ht)⟩
          have okS0 : okS M.1 (mS0 nm wn) := ⟨⟨Nat.zero_le _, fun j hj => absurd hj (Nat.not_lt_zero _)⟩, fun j hj => absurd hj (Nat.not_lt_zero _), ⟨Nat.zero_le _, Nat.zero_le _, fun j hj => absurd hj (Nat.not_lt_zero _)⟩, w5, hnm⟩
          have hcs : CS (addE (mS0 nm wn) st yn) (takeR (makeR R nm wn) (rS R + 1) st yn) (rS R + 1) := ⟨cs1.1, CE_take cs1.2.1 (by omega) hmy y1 (by show st + yn ≤ rN R; omega) (fun j hj => by have hj : j < rMy R (rS R + 1) := hj; omega) hfree, CD_add cs1.2.2.1, cs1.2.2.2⟩
          have cV1 : CVol M.1 M.2.1 (makeR R nm wn) := ⟨cV.1, fun t ht hz => by
            have := cV.2 t ht hz
            exact ⟨this.1, by show rO R t ≤ rS R + 1; omega, this.2.2⟩⟩
          refine ⟨by show nI (M.2.2.1 + 1) = nI (rS R + 1); rw [cS], ⟨⟨a1, by show M.2.2.1 + 1 ≤ 60; omega, fun j S hj => ?_, a4⟩, okR_take hR1 (by omega) (Nat.le_refl _) hmy (by show st + yn ≤ rN R; omega), cN, by show rS R + 1 = M.2.2.1 + 1; omega, CVol_take cV1 (by omega) (Nat.le_refl _) g0, fun j => ?_, CFresh_cong cF (by show rS R ≤ rS R + 1; omega) (fun s hs h6 => ⟨rfl, sm s (by have : rS R + 1 < s := hs; omega) (by omega)⟩), fun s s' s1 s2 t1 t2 v1 v2 hn => ?_, cL⟩, Nat.le_succ _⟩
          · have hj : (if j = M.2.2.1 then some (addE (mS0 nm wn) st yn) else M.2.2.2.1 j) = some S := hj
            by_cases hji : j = M.2.2.1
            · rw [if_pos hji] at hj
              cases hj
              exact ⟨by show j < M.2.2.1 + 1; omega, okS_add okS0 (by show 0 < 16; omega) (by show st + yn ≤ M.1; omega) a1⟩
            · rw [if_neg hji] at hj
              have := a3 j S hj
              exact ⟨by show j < M.2.2.1 + 1; omega, this.2⟩
          · show ((if j = M.2.2.1 then some (addE (mS0 nm wn) st yn) else M.2.2.2.1 j) = none ∧ (j < rS R + 1 → rG R (j + 1) = true)) ∨ ∃ S, (if j = M.2.2.1 then some (addE (mS0 nm wn) st yn) else M.2.2.2.1 j) = some S ∧ j < rS R + 1 ∧ rG R (j + 1) = false ∧ CS S (takeR (makeR R nm wn) (rS R + 1) st yn) (j + 1)
            by_cases hji : j = M.2.2.1
            · rw [if_pos hji]
              have e : j = rS R := by omega
              subst e
              exact Or.inr ⟨_, rfl, by omega, g0, hcs⟩
            · rw [if_neg hji]
              rcases cT j with ⟨d1, d2⟩ | ⟨S, d1, d2, d3, d4⟩
              · exact Or.inl ⟨d1, fun hj => d2 (by omega)⟩
              · exact Or.inr ⟨S, d1, by omega, d3, CS_cong d4 (sm (j + 1) (by omega) (by omega)) rfl⟩
          · have hn : va_up (rNm R) (rS R + 1) nm s = va_up (rNm R) (rS R + 1) nm s' := hn
            have s2 : s ≤ rS R + 1 := s2
            have t2 : s' ≤ rS R + 1 := t2
            by_cases p1 : s = rS R + 1
            · by_cases p2 : s' = rS R + 1
              · omega
              · rw [p1, va_up_self, va_up_ne _ _ p2] at hn
                exact absurd hn.symm (hno s' t1 (by omega) v2)
            · by_cases p2 : s' = rS R + 1
              · rw [p2, va_up_self, va_up_ne _ _ p1] at hn
                exact absurd hn (hno s s1 (by omega) v1)
              · rw [va_up_ne _ _ p1, va_up_ne _ _ p2] at hn
                exact cU s s' s1 (by omega) t1 (by omega) v1 v2 hn
    · rw [if_neg (fun z => hz (hny.mp z)), if_neg hz]; exact Res_id h
  · rw [if_neg hc, if_neg hc]; exact Res_id h
