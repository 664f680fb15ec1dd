theorem bExt_sum {c : Nat} {xf xl : Nat → Nat} (h : bExt c xf xl) : m_sum xl c ≤ 8000 := Nat.le_trans (m_sum_le (b := 500) _ (fun j hj => (h.2 j hj).2)) (by have := h.1; omega)
theorem bDir_of {S : mS} {R : mR} {s : Nat} (h : CD S R s) (hb : bExt S.2.1.1 S.2.1.2.1 S.2.1.2.2) : bDir S.2.2.1.1 S.2.2.1.2.1 S.2.2.1.2.2.2.1 S.2.2.1.2.2.2.2 := by
  have h0 := bExt_sum hb
  obtain ⟨h1, h2, h3, h4, h5, h6, h7, h8, h9⟩ := h
  refine ⟨by rw [h3]; exact m_cnt_le _ _, by omega, fun j hj => ⟨by have := h8 j hj; omega, (h4 j hj).2.1⟩⟩
theorem c_compress {M : mM} {R : mR} (h : Cpl M R) (x : Int32) : Res R (x_compress M x) (y_compress R x) := by
  unfold x_compress y_compress
  rcases c_sel h x with ⟨h1, h2⟩ | ⟨i, S, rfl, hi, h1, h2, h3, hg, hcs⟩
  · rw [x_sel_n h2, if_neg (by rw [h1]; decide)]; exact Res_id h
  · have hs60 := h.2.1.2.1
    rw [x_sel_s h2 h3, if_pos h1, c_clamp (by omega)]
    obtain ⟨q1, q2, q3, q4⟩ := c_cmp hcs.2.2.1
    obtain ⟨d1, d2, d3, d4, d5, d6, d7, d8, d9⟩ := hcs.2.2.1
    obtain ⟨o1, o2, o3, o4, o5⟩ := (h.1.2.2.1 i S h3).2
    have hgap := m_sum_gap d9
    have hle : m_sum S.2.2.1.2.2.2.2 S.2.2.1.1 ≤ rGv R (i + 1) := by
      cases hdc : S.2.2.1.1 with
      | zero => exact Nat.zero_le _
      | succ n =>
        have g1 := hgap n (by omega)
        have g2 := d8 n (by omega)
        show m_sum S.2.2.1.2.2.2.2 n + S.2.2.1.2.2.2.2 n ≤ _
        omega
    have hcl : ∀ j, j < S.2.2.1.1 → m_close S.2.2.1.2.2.2.1 S.2.2.1.2.2.2.2 S.2.2.1.1 j = m_sum S.2.2.1.2.2.2.2 j := fun j hj => if_pos hj
    suffices hmain : Cpl (setM M i M.2.1 (closeD S)) (sGv (sMf R (r_cmp R (i + 1)).1) (va_up (rGv R) (i + 1) (r_cmp R (i + 1)).2)) from ⟨by show nI _ - nI _ = nI _ - nI _; rw [q1, d1], hmain, Nat.le_succ _⟩
    have hcd : CD (closeD S) (sGv (sMf R (r_cmp R (i + 1)).1) (va_up (rGv R) (i + 1) (r_cmp R (i + 1)).2)) (i + 1) := by
      have eG : rGv (sGv (sMf R (r_cmp R (i + 1)).1) (va_up (rGv R) (i + 1) (r_cmp R (i + 1)).2)) (i + 1) = m_sum S.2.2.1.2.2.2.2 S.2.2.1.1 := by
        show va_up (rGv R) (i + 1) (r_cmp R (i + 1)).2 (i + 1) = _
        rw [va_up_self, q1]
      refine ⟨eG.symm, by rw [eG]; exact Nat.le_trans hle d2, d3, fun j hj => ?_, d5, d6, d7, fun j hj => ?_, fun j j' hj hj' => ?_⟩
      · obtain ⟨a1, a2, k, hk, a3, a4, a5⟩ := d4 j hj
        refine ⟨a1, a2, k, hk, a3, a4, fun hz => ?_⟩
        show (r_cmp R (i + 1)).1 (12 * (i + 1) + k) = m_close S.2.2.1.2.2.2.1 S.2.2.1.2.2.2.2 S.2.2.1.1 j
        rw [hcl j hj]
        exact q2 j k hj hk a3 hz
      · rw [eG]
        show m_close S.2.2.1.2.2.2.1 S.2.2.1.2.2.2.2 S.2.2.1.1 j + S.2.2.1.2.2.2.2 j ≤ _
        rw [hcl j hj]
        exact m_sum_mono (a := j + 1) hj
      · have hj' : j' < S.2.2.1.1 := hj'
        show m_close S.2.2.1.2.2.2.1 S.2.2.1.2.2.2.2 S.2.2.1.1 j + S.2.2.1.2.2.2.2 j ≤ m_close S.2.2.1.2.2.2.1 S.2.2.1.2.2.2.2 S.2.2.1.1 j'
        rw [hcl j (by omega), hcl j' hj']
        exact m_sum_mono (a := j + 1) hj
    refine Cpl_set h hi hg ?_ ⟨o1, o2, bDir_of (S := closeD S) hcd o1, o4, o5⟩ rfl rfl rfl rfl h.2.2.2.2.1 ⟨hcs.1, hcs.2.1, hcd, hcs.2.2.2⟩ (fun s hs s1 s6 => ⟨rfl, rfl, rfl, rfl, va_up_ne _ _ hs, fun _ _ _ => rfl, fun k k1 k2 => ⟨rfl, q3 k (by omega), rfl⟩, fun _ _ _ => ⟨rfl, rfl⟩, fun _ _ => Iff.rfl⟩) h.2.2.2.2.2.2.2.1
    obtain ⟨b1, b2, b3, b4, b5, b6, b7⟩ := h.2.1
    have hgv := (b4 (i + 1) (by omega) (by omega)).2.2.1
    refine ⟨b1, b2, b3, fun s s1 s2 => ?_, b5, fun k hk => ?_, b7⟩
    · obtain ⟨k1, k2, k3, k4⟩ := b4 s s1 s2
      refine ⟨k1, k2, ?_, k4⟩
      show va_up (rGv R) (i + 1) (r_cmp R (i + 1)).2 s ≤ 100000
      by_cases hs : s = i + 1
      · rw [hs, va_up_self, q1]; omega
      · rw [va_up_ne _ _ hs]; exact k3
    · obtain ⟨k1, k2, k3⟩ := b6 k hk
      refine ⟨?_, k2, k3⟩
      show (r_cmp R (i + 1)).1 k ≤ 100000
      rcases q4 k with q | q
      · rw [q]; exact k1
      · omega
theorem m_cnt_on {p : Nat → Bool} {k : Nat} (hp : p k = false) : ∀ {n : Nat}, k < n → m_cnt (va_up p k true) n = m_cnt p n + 1
  | 0, h => absurd h (Nat.not_lt_zero _)
  | n + 1, h => by
    show m_cnt (va_up p k true) n + (if va_up p k true n = true then 1 else 0) = m_cnt p n + (if p n = true then 1 else 0) + 1
    by_cases hk : n = k
    · subst hk
      rw [va_up_self, if_pos rfl, m_cnt_cong (g' := p) n (fun j hj => va_up_ne _ _ (by omega)), if_neg (by rw [hp]; decide)]
    · rw [va_up_ne _ _ hk, m_cnt_on hp (by omega)]
      omega
theorem m_cnt_off {p : Nat → Bool} {k : Nat} (hp : p k = true) : ∀ {n : Nat}, k < n → m_cnt (va_up p k false) n + 1 = m_cnt p n
  | 0, h => absurd h (Nat.not_lt_zero _)
  | n + 1, h => by
    show m_cnt (va_up p k false) n + (if va_up p k false n = true then 1 else 0) + 1 = m_cnt p n + (if p n = true then 1 else 0)
    by_cases hk : n = k
    · subst hk
      rw [va_up_self, if_neg (by decide), m_cnt_cong (g' := p) n (fun j hj => va_up_ne _ _ (by omega)), if_pos hp]
    · rw [va_up_ne _ _ hk]
      have := m_cnt_off hp (n := n) (by omega)
      omega
def dropD (S : mS) (j : Nat) : mS := (S.1, S.2.1, (S.2.2.1.1 - 1, S.2.2.1.2.1, m_sh S.2.2.1.2.2.1 j (S.2.2.1.1 - 1), m_sh S.2.2.1.2.2.2.1 j (S.2.2.1.1 - 1), m_sh S.2.2.1.2.2.2.2 j (S.2.2.1.1 - 1)), S.2.2.2)
def offR (R : mR) (a : Nat) : mR := sMem R (va_up (rMn R) a none) (rMf R) (rMz R)
/-- where an entry stood ahead of the drop -/
def shi (j j' : Nat) : Nat := if j ≤ j' then j' + 1 else j'
theorem m_sh_i {α : Type} {f : Nat → α} {j j' c : Nat} (h : j' < c) : m_sh f j c j' = f (shi j j') := by
  unfold m_sh shi
  by_cases hj : j ≤ j'
  · rw [if_pos ⟨hj, h⟩, if_pos hj]
  · rw [if_neg (fun z => hj z.1), if_neg hj]
theorem shi_lt {j j' c : Nat} (h : j' < c - 1) : shi j j' < c := by unfold shi; split <;> omega
theorem shi_ne {j j' : Nat} : shi j j' ≠ j := by unfold shi; split <;> omega
theorem shi_mono {j a b : Nat} (h : a < b) : shi j a < shi j b := by unfold shi; split <;> split <;> omega
theorem shi_inj {j a b : Nat} (h : shi j a = shi j b) : a = b := by unfold shi at h; split at h <;> split at h <;> omega
theorem shi_of {j a c : Nat} (h : a ≠ j) (ha : a < c) (hj : j < c) : ∃ j', j' < c - 1 ∧ shi j j' = a := by
  by_cases hlt : a < j
  · exact ⟨a, by omega, by unfold shi; rw [if_neg (by omega)]⟩
  · exact ⟨a - 1, by omega, by unfold shi; rw [if_pos (by omega)]; omega⟩
theorem CD_drop {S : mS} {R : mR} {s j k : Nat} (h : CD S R s) (hj : j < S.2.2.1.1) (hk : k < 12) (hn : rMn R (12 * s + k) = some (S.2.2.1.2.2.1 j)) : CD (dropD S j) (offR R (12 * s + k)) s := by
  obtain ⟨h1, h2, h3, h4, h5, h6, h7, h8, h9⟩ := h
  have em : ∀ k', k' < 12 → rMn (offR R (12 * s + k)) (12 * s + k') = if k' = k then none else rMn R (12 * s + k') := fun k' hk' => by
    show va_up (rMn R) (12 * s + k) none (12 * s + k') = _
    by_cases e : k' = k
    · rw [if_pos e, e, va_up_self]
    · rw [if_neg e, va_up_ne _ _ (by omega)]
  have e1 : ∀ j', j' < S.2.2.1.1 - 1 → m_sh S.2.2.1.2.2.1 j (S.2.2.1.1 - 1) j' = S.2.2.1.2.2.1 (shi j j') := fun j' hj' => m_sh_i hj'
  have e2 : ∀ j', j' < S.2.2.1.1 - 1 → m_sh S.2.2.1.2.2.2.1 j (S.2.2.1.1 - 1) j' = S.2.2.1.2.2.2.1 (shi j j') := fun j' hj' => m_sh_i hj'
  have e3 : ∀ j', j' < S.2.2.1.1 - 1 → m_sh S.2.2.1.2.2.2.2 j (S.2.2.1.1 - 1) j' = S.2.2.1.2.2.2.2 (shi j j') := fun j' hj' => m_sh_i hj'
  refine ⟨h1, h2, ?_, fun j' hj' => ?_, fun k' b hk' hb => ?_, fun a b ha hb hab => ?_, fun k1 k2 b hk1 hk2 hb1 hb2 => ?_, fun j' hj' => ?_, fun a b hab hb => ?_⟩
  · show S.2.2.1.1 - 1 = m_cnt (fun k' => (rMn (offR R (12 * s + k)) (12 * s + k')).isSome) 12
    rw [m_cnt_c (g' := va_up (fun k' => (rMn R (12 * s + k')).isSome) k false) (fun k' hk' => ?_)]
    · have := m_cnt_off (p := fun k' => (rMn R (12 * s + k')).isSome) (k := k) (by rw [hn]; rfl) hk
      omega
    · rw [em k' hk']
      by_cases e : k' = k
      · rw [if_pos e, e, va_up_self]; rfl
      · rw [if_neg e, va_up_ne _ _ e]
  · have hj' : j' < S.2.2.1.1 - 1 := hj'
    show m_sh S.2.2.1.2.2.1 j (S.2.2.1.1 - 1) j' < 100 ∧ m_sh S.2.2.1.2.2.2.2 j (S.2.2.1.1 - 1) j' ≤ 500 ∧ ∃ k', k' < 12 ∧ rMn (offR R (12 * s + k)) (12 * s + k') = some (m_sh S.2.2.1.2.2.1 j (S.2.2.1.1 - 1) j') ∧ rMz R (12 * s + k') = m_sh S.2.2.1.2.2.2.2 j (S.2.2.1.1 - 1) j' ∧ (m_sh S.2.2.1.2.2.2.2 j (S.2.2.1.1 - 1) j' ≠ 0 → rMf R (12 * s + k') = m_sh S.2.2.1.2.2.2.1 j (S.2.2.1.1 - 1) j')
    rw [e1 j' hj', e2 j' hj', e3 j' hj']
    obtain ⟨a1, a2, k', hk', a3, a4, a5⟩ := h4 (shi j j') (shi_lt hj')
    refine ⟨a1, a2, k', hk', ?_, a4, a5⟩
    rw [em k' hk', if_neg (fun z => ?_)]
    · exact a3
    · subst z
      rw [hn] at a3
      exact shi_ne (h6 j (shi j j') hj (shi_lt hj') (Option.some.inj a3)).symm
  · rw [em k' hk'] at hb
    by_cases e : k' = k
    · rw [if_pos e] at hb; cases hb
    · rw [if_neg e] at hb
      obtain ⟨j0, g1, g2⟩ := h5 k' b hk' hb
      have hne : j0 ≠ j := fun z => e (h7 k' k b hk' hk hb (by rw [hn, ← z, g2]))
      obtain ⟨j', f1, f2⟩ := shi_of hne g1 hj
      exact ⟨j', f1, by show m_sh S.2.2.1.2.2.1 j (S.2.2.1.1 - 1) j' = b; rw [e1 j' f1, f2, g2]⟩
  · have ha : a < S.2.2.1.1 - 1 := ha
    have hb : b < S.2.2.1.1 - 1 := hb
    have hab : m_sh S.2.2.1.2.2.1 j (S.2.2.1.1 - 1) a = m_sh S.2.2.1.2.2.1 j (S.2.2.1.1 - 1) b := hab
    rw [e1 a ha, e1 b hb] at hab
    exact shi_inj (h6 _ _ (shi_lt ha) (shi_lt hb) hab)
  · rw [em k1 hk1] at hb1
    rw [em k2 hk2] at hb2
    by_cases c1 : k1 = k
    · rw [if_pos c1] at hb1; cases hb1
    · by_cases c2 : k2 = k
      · rw [if_pos c2] at hb2; cases hb2
      · rw [if_neg c1] at hb1
        rw [if_neg c2] at hb2
        exact h7 k1 k2 b hk1 hk2 hb1 hb2
  · have hj' : j' < S.2.2.1.1 - 1 := hj'
    show m_sh S.2.2.1.2.2.2.1 j (S.2.2.1.1 - 1) j' + m_sh S.2.2.1.2.2.2.2 j (S.2.2.1.1 - 1) j' ≤ rGv R s
    rw [e2 j' hj', e3 j' hj']
    exact h8 _ (shi_lt hj')
  · have hb : b < S.2.2.1.1 - 1 := hb
    show m_sh S.2.2.1.2.2.2.1 j (S.2.2.1.1 - 1) a + m_sh S.2.2.1.2.2.2.2 j (S.2.2.1.1 - 1) a ≤ m_sh S.2.2.1.2.2.2.1 j (S.2.2.1.1 - 1) b
    rw [e2 a (by omega), e3 a (by omega), e2 b hb]
    exact h9 _ _ (shi_mono hab) (shi_lt hb)
theorem CD_app {S : mS} {R : mR} {s k b n : Nat} (h : CD S R s) (hk : k < 12) (hn : rMn R (12 * s + k) = none) (hb : b < 100) (hn5 : n ≤ 500) (hno : ∀ j, j < S.2.2.1.1 → S.2.2.1.2.2.1 j ≠ b) (hfit : rGv R s + n ≤ m_sum S.2.1.2.2 S.2.1.1) : CD (putD S none b n) (putR R s (12 * s + k) b n) s := by
  obtain ⟨h1, h2, h3, h4, h5, h6, h7, h8, h9⟩ := h
  have em : ∀ k', k' < 12 → rMn (putR R s (12 * s + k) b n) (12 * s + k') = if k' = k then some b else rMn R (12 * s + k') := fun k' hk' => by
    show va_up (rMn R) (12 * s + k) (some b) (12 * s + k') = _
    by_cases e : k' = k
    · rw [if_pos e, e, va_up_self]
    · rw [if_neg e, va_up_ne _ _ (by omega)]
  have eG : rGv (putR R s (12 * s + k) b n) s = rGv R s + n := va_up_self _ _ _
  refine ⟨by rw [eG, ← h1]; rfl, by rw [eG]; exact hfit, ?_, fun j' hj' => ?_, fun k' b' hk' hb' => ?_, fun a a' ha ha' hab => ?_, fun k1 k2 b' hk1 hk2 hb1 hb2 => ?_, fun j' hj' => ?_, fun a a' hab ha' => ?_⟩
  · show S.2.2.1.1 + 1 = m_cnt (fun k' => (rMn (putR R s (12 * s + k) b n) (12 * s + k')).isSome) 12
    rw [m_cnt_c (g' := va_up (fun k' => (rMn R (12 * s + k')).isSome) k true) (fun k' hk' => ?_)]
    · rw [m_cnt_on (p := fun k' => (rMn R (12 * s + k')).isSome) (k := k) (by rw [hn]; rfl) hk, h3]
    · rw [em k' hk']
      by_cases e : k' = k
      · rw [if_pos e, e, va_up_self]; rfl
      · rw [if_neg e, va_up_ne _ _ e]
  · have hj' : j' < S.2.2.1.1 + 1 := hj'
    show va_up S.2.2.1.2.2.1 S.2.2.1.1 b j' < 100 ∧ va_up S.2.2.1.2.2.2.2 S.2.2.1.1 n j' ≤ 500 ∧ ∃ k', k' < 12 ∧ rMn (putR R s (12 * s + k) b n) (12 * s + k') = some (va_up S.2.2.1.2.2.1 S.2.2.1.1 b j') ∧ va_up (rMz R) (12 * s + k) n (12 * s + k') = va_up S.2.2.1.2.2.2.2 S.2.2.1.1 n j' ∧ (va_up S.2.2.1.2.2.2.2 S.2.2.1.1 n j' ≠ 0 → va_up (rMf R) (12 * s + k) (rGv R s) (12 * s + k') = va_up S.2.2.1.2.2.2.1 S.2.2.1.1 S.2.2.1.2.1 j')
    by_cases e : j' = S.2.2.1.1
    · subst e
      rw [va_up_self, va_up_self, va_up_self]
      exact ⟨hb, hn5, k, hk, by rw [em k hk, if_pos rfl], va_up_self _ _ _, fun _ => by rw [va_up_self, h1]⟩
    · rw [va_up_ne _ _ e, va_up_ne _ _ e, va_up_ne _ _ e]
      obtain ⟨a1, a2, k', hk', a3, a4, a5⟩ := h4 j' (by omega)
      have hne : k' ≠ k := fun z => by rw [z, hn] at a3; cases a3
      exact ⟨a1, a2, k', hk', by rw [em k' hk', if_neg hne]; exact a3, by rw [va_up_ne _ _ (by omega)]; exact a4, fun z => by rw [va_up_ne _ _ (by omega)]; exact a5 z⟩
  · rw [em k' hk'] at hb'
    show ∃ j', j' < S.2.2.1.1 + 1 ∧ va_up S.2.2.1.2.2.1 S.2.2.1.1 b j' = b'
    by_cases e : k' = k
    · rw [if_pos e] at hb'
      cases hb'
      exact ⟨S.2.2.1.1, by omega, va_up_self _ _ _⟩
    · rw [if_neg e] at hb'
      obtain ⟨j0, g1, g2⟩ := h5 k' b' hk' hb'
      exact ⟨j0, by omega, by rw [va_up_ne _ _ (by omega)]; exact g2⟩
  · have ha : a < S.2.2.1.1 + 1 := ha
    have ha' : a' < S.2.2.1.1 + 1 := ha'
    have hab : va_up S.2.2.1.2.2.1 S.2.2.1.1 b a = va_up S.2.2.1.2.2.1 S.2.2.1.1 b a' := hab
    by_cases e : a = S.2.2.1.1
    · by_cases e' : a' = S.2.2.1.1
      · omega
      · rw [e, va_up_self, va_up_ne _ _ e'] at hab
        exact absurd hab.symm (hno a' (by omega))
    · by_cases e' : a' = S.2.2.1.1
      · rw [e', va_up_self, va_up_ne _ _ e] at hab
        exact absurd hab (hno a (by omega))
      · rw [va_up_ne _ _ e, va_up_ne _ _ e'] at hab
        exact h6 a a' (by omega) (by omega) hab
  · rw [em k1 hk1] at hb1
    rw [em k2 hk2] at hb2
    have hx : ∀ k', k' < 12 → rMn R (12 * s + k') ≠ some b := fun k' hk' z => by
      obtain ⟨j0, g1, g2⟩ := h5 k' b hk' z
      exact hno j0 g1 g2
    by_cases c1 : k1 = k
    · by_cases c2 : k2 = k
      · omega
      · rw [if_pos c1] at hb1
        rw [if_neg c2] at hb2
        cases hb1
        exact absurd hb2 (hx k2 hk2)
    · by_cases c2 : k2 = k
      · rw [if_pos c2] at hb2
        rw [if_neg c1] at hb1
        cases hb2
        exact absurd hb1 (hx k1 hk1)
      · rw [if_neg c1] at hb1
        rw [if_neg c2] at hb2
        exact h7 k1 k2 b' hk1 hk2 hb1 hb2
  · have hj' : j' < S.2.2.1.1 + 1 := hj'
    rw [eG]
    show va_up S.2.2.1.2.2.2.1 S.2.2.1.1 S.2.2.1.2.1 j' + va_up S.2.2.1.2.2.2.2 S.2.2.1.1 n j' ≤ rGv R s + n
    by_cases e : j' = S.2.2.1.1
    · subst e; rw [va_up_self, va_up_self]; omega
    · rw [va_up_ne _ _ e, va_up_ne _ _ e]
      have := h8 j' (by omega)
      omega
  · have ha' : a' < S.2.2.1.1 + 1 := ha'
    show va_up S.2.2.1.2.2.2.1 S.2.2.1.1 S.2.2.1.2.1 a + va_up S.2.2.1.2.2.2.2 S.2.2.1.1 n a ≤ va_up S.2.2.1.2.2.2.1 S.2.2.1.1 S.2.2.1.2.1 a'
    rw [va_up_ne _ _ (show a ≠ S.2.2.1.1 by omega), va_up_ne _ _ (show a ≠ S.2.2.1.1 by omega)]
    by_cases e : a' = S.2.2.1.1
    · subst e; rw [va_up_self]
      have := h8 a hab
      omega
    · rw [va_up_ne _ _ e]
      exact h9 a a' hab (by omega)
theorem va_up_up {α : Type} {f : Nat → α} {k : Nat} {u v : α} : va_up (va_up f k u) k v = va_up f k v := by
  funext j
  by_cases h : j = k
  · rw [h, va_up_self, va_up_self]
  · rw [va_up_ne _ _ h, va_up_ne _ _ h, va_up_ne _ _ h]
theorem c_member {M : mM} {R : mR} (h : Cpl M R) (x y w : Int32) : Res R (x_member M x y w) (y_member R x y w) := by
  unfold x_member y_member
  rcases c_sel h x with ⟨h1, h2⟩ | ⟨i, S, rfl, hi, h1, h2, h3, hg, hcs⟩
  · rw [x_sel_n h2, if_neg (by rw [h1]; decide)]; exact Res_id h
  · have hs60 := h.2.1.2.1
    rw [x_sel_s h2 h3, if_pos h1, c_clamp (by omega)]
    by_cases hc : m_nm y = true ∧ 0 ≤ w ∧ w ≤ 500
    · rw [if_pos hc, if_pos hc]
      obtain ⟨c1, c2, c3⟩ := hc
      obtain ⟨b, hb, rfl⟩ := m_nm_t c1
      obtain ⟨n, hn, rfl⟩ := m_nn c2
      have n5 := (nI_leI (b := 500) hn (by decide)).mp c3
      rw [nI_clamp hn, nI_clamp (n := b) (by omega)]
      have hcd := hcs.2.2.1
      obtain ⟨o1, o2, o3, o4, o5⟩ := (h.1.2.2.1 i S h3).2
      have h8k := bExt_sum o1
      -- the common end
      have fin : ∀ (S' : mS) (k : Nat), k < 12 → S'.1 = S.1 → S'.2.1 = S.2.1 → S'.2.2.2 = S.2.2.2 → rGv R (i + 1) + n ≤ m_sum S.2.1.2.2 S.2.1.1 → CD S' (putR R (i + 1) (12 * (i + 1) + k) b n) (i + 1) → Cpl (setM M i M.2.1 S') (putR R (i + 1) (12 * (i + 1) + k) b n) := by
        intro S' k hk q1 q2 q3 hfit hcd'
        have ox : bExt S'.2.1.1 S'.2.1.2.1 S'.2.1.2.2 := by rw [q2]; exact o1
        have hE : CE S' (putR R (i + 1) (12 * (i + 1) + k) b n) (i + 1) := by
          have := hcs.2.1
          unfold CE inE at this ⊢
          rw [q2]
          exact this
        refine Cpl_set h hi hg ?_ ⟨ox, by rw [q2]; exact o2, bDir_of hcd' ox, by rw [q1]; exact o4, by rw [q1]; exact o5⟩ rfl rfl rfl rfl h.2.2.2.2.1 ⟨by unfold CH; rw [q1]; exact hcs.1, hE, hcd', by unfold CA; rw [q3]; exact hcs.2.2.2⟩ (fun s hs s1 s6 => ⟨rfl, rfl, rfl, rfl, va_up_ne _ _ hs, fun _ _ _ => rfl, fun k' k1 k2 => ⟨va_up_ne _ _ (by omega), va_up_ne _ _ (by omega), va_up_ne _ _ (by omega)⟩, fun _ _ _ => ⟨rfl, rfl⟩, fun _ _ => Iff.rfl⟩) h.2.2.2.2.2.2.2.1
        obtain ⟨b1, b2, b3, b4, b5, b6, b7⟩ := h.2.1
        refine ⟨b1, b2, b3, fun s s1 s2 => ?_, b5, fun k' hk' => ?_, b7⟩
        · obtain ⟨k1, k2, k3, k4⟩ := b4 s s1 s2
          refine ⟨k1, k2, ?_, k4⟩
          show va_up (rGv R) (i + 1) (rGv R (i + 1) + n) s ≤ 100000
          by_cases hs : s = i + 1
          · rw [hs, va_up_self]; omega
          · rw [va_up_ne _ _ hs]; exact k3
        · obtain ⟨k1, k2, k3⟩ := b6 k' hk'
          show va_up (rMf R) (12 * (i + 1) + k) (rGv R (i + 1)) k' ≤ 100000 ∧ va_up (rMz R) (12 * (i + 1) + k) n k' ≤ 500 ∧ ∀ b', va_up (rMn R) (12 * (i + 1) + k) (some b) k' = some b' → b' < 100
          by_cases e : k' = 12 * (i + 1) + k
          · rw [e, va_up_self, va_up_self, va_up_self]
            exact ⟨by omega, n5, fun b' hb' => by cases hb'; exact hb⟩
          · rw [va_up_ne _ _ e, va_up_ne _ _ e, va_up_ne _ _ e]
            exact ⟨k1, k2, k3⟩
      have esum := CE_sum hcs.2.1
      rw [esum, hcd.1]
      rcases c_mem hcd (nI b) with ⟨q1, q2⟩ | ⟨j, k, b', hbb, hb', q1, q2, q3, q4, hk, q5, q6, q7⟩
      · have hsl : r_slot R (i + 1) (nI b) = m_ix (fun k => (rMn R k).isNone) 12 (12 * (i + 1)) := by unfold r_slot; rw [q2]
        rw [hsl, q1]
        cases hm : m_ix (fun k => (rMn R k).isNone) 12 (12 * (i + 1)) with
        | none =>
          have hall : S.2.2.1.1 = 12 := by
            rw [hcd.2.2.1]
            exact m_cnt_all (fun k hk => by
              have := m_ix_none _ _ hm (12 * (i + 1) + k) (by omega) (by omega)
              cases hq : rMn R (12 * (i + 1) + k) with
              | none => rw [hq] at this; cases this
              | some _ => rfl)
          rw [if_neg (fun z => z.elim (fun z => by omega) (fun z => by cases z))]
          exact Res_id h
        | some a =>
          obtain ⟨p1, p2, p3, -⟩ := m_ix_some _ _ _ hm
          obtain ⟨k, rfl⟩ : ∃ k, a = 12 * (i + 1) + k := ⟨a - 12 * (i + 1), by omega⟩
          have hnone : rMn R (12 * (i + 1) + k) = none := by simpa using p3
          have hlt : S.2.2.1.1 < 12 := by
            rw [hcd.2.2.1]
            have g1 := m_cnt_on (p := fun k' => (rMn R (12 * (i + 1) + k')).isSome) (k := k) (by rw [hnone]; rfl) (n := 12) (by omega)
            have g2 := m_cnt_le (va_up (fun k' => (rMn R (12 * (i + 1) + k')).isSome) k true) 12
            omega
          rw [if_pos (Or.inl hlt)]
          dsimp only
          by_cases hf : m_sum (r_len R (i + 1)) (rMy R (i + 1)) < rGv R (i + 1) + n
          · rw [if_pos hf, if_pos hf]; exact Res_id h
          · rw [if_neg hf, if_neg hf]
            refine ⟨rfl, fin _ k (by omega) rfl rfl rfl (by omega) (CD_app hcd (by omega) hnone hb n5 (fun j hj hjb => ?_) (by rw [esum]; omega)), Nat.le_succ _⟩
            have := m_ix_none _ _ q1 j (by omega) (by omega)
            simp [hjb] at this
      · have e : b' = b := (nI_eq (by omega) (by omega)).mp hbb.symm
        subst e
        have hsl : r_slot R (i + 1) (nI b') = some (12 * (i + 1) + k) := by unfold r_slot; rw [q4]
        rw [hsl, q1, if_pos (show S.2.2.1.1 < 12 ∨ (some j).isSome = true from Or.inr rfl)]
        dsimp only
        by_cases hf : m_sum (r_len R (i + 1)) (rMy R (i + 1)) < rGv R (i + 1) + n
        · rw [if_pos hf, if_pos hf]; exact Res_id h
        · rw [if_neg hf, if_neg hf]
          have hd := CD_drop hcd q2 hk (by rw [q5, q3])
          have hput : putR (offR R (12 * (i + 1) + k)) (i + 1) (12 * (i + 1) + k) b' n = putR R (i + 1) (12 * (i + 1) + k) b' n := by
            unfold putR offR sMem sGv
            dsimp only [rMn, rMf, rMz, rGv]
            rw [va_up_up]
          have hap := CD_app hd hk (show va_up (rMn R) (12 * (i + 1) + k) none (12 * (i + 1) + k) = none from va_up_self _ _ _) hb n5 (fun j' hj' hjb => ?_) (by show rGv R (i + 1) + n ≤ m_sum S.2.1.2.2 S.2.1.1; rw [esum]; omega)
          · rw [hput] at hap
            exact ⟨rfl, fin _ k hk rfl rfl rfl (by omega) hap, Nat.le_succ _⟩
          · have hj' : j' < S.2.2.1.1 - 1 := hj'
            have hjb : m_sh S.2.2.1.2.2.1 j (S.2.2.1.1 - 1) j' = b' := hjb
            rw [m_sh_i hj'] at hjb
            exact shi_ne (hcd.2.2.2.2.2.1 _ _ (shi_lt hj') q2 (by rw [hjb, q3]))
    · rw [if_neg hc, if_neg hc]; exact Res_id h
