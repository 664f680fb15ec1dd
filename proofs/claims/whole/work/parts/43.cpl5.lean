def cutp (xf xl : Nat → Nat) (keep c t : Nat) : Prop := ∃ j, j < c ∧ xf j + m_stay xl keep j ≤ t ∧ t < xf j + xl j
theorem m_stay_le (xl : Nat → Nat) (keep j : Nat) : m_stay xl keep j ≤ xl j := Nat.min_le_right _ _
theorem m_cut_in {k : Nat → Bool} {xf xl : Nat → Nat} {keep t : Nat} : ∀ {c : Nat}, cutp xf xl keep c t → m_cut k xf xl keep c t = false
  | 0, ⟨j, hj, _⟩ => absurd hj (Nat.not_lt_zero _)
  | c + 1, ⟨j, hj, h1, h2⟩ => by
    unfold m_cut
    by_cases hin : xf c + m_stay xl keep c ≤ t ∧ t < xf c + m_stay xl keep c + (xl c - m_stay xl keep c)
    · exact m_fill_in hin.1 hin.2
    · rw [m_fill_out hin]
      have := m_stay_le xl keep c
      have hne : j ≠ c := fun z => hin (by rw [z] at h1 h2; omega)
      exact m_cut_in ⟨j, by omega, h1, h2⟩
theorem m_cut_out {k : Nat → Bool} {xf xl : Nat → Nat} {keep t : Nat} : ∀ {c : Nat}, ¬ cutp xf xl keep c t → m_cut k xf xl keep c t = k t
  | 0, _ => rfl
  | c + 1, h => by
    unfold m_cut
    have := m_stay_le xl keep c
    rw [m_fill_out (fun z => h ⟨c, by omega, z.1, by omega⟩)]
    exact m_cut_out (fun ⟨j, h1, h2⟩ => h ⟨j, by omega, h2⟩)
theorem r_cut_in {k : Nat → Nat} {xf xl : Nat → Nat} {keep t : Nat} : ∀ {c : Nat}, cutp xf xl keep c t → r_cut k xf xl keep c t = 0
  | 0, ⟨j, hj, _⟩ => absurd hj (Nat.not_lt_zero _)
  | c + 1, ⟨j, hj, h1, h2⟩ => by
    unfold r_cut
    by_cases hin : xf c + m_stay xl keep c ≤ t ∧ t < xf c + m_stay xl keep c + (xl c - m_stay xl keep c)
    · exact m_fill_in hin.1 hin.2
    · rw [m_fill_out hin]
      have := m_stay_le xl keep c
      have hne : j ≠ c := fun z => hin (by rw [z] at h1 h2; omega)
      exact r_cut_in ⟨j, by omega, h1, h2⟩
theorem r_cut_out {k : Nat → Nat} {xf xl : Nat → Nat} {keep t : Nat} : ∀ {c : Nat}, ¬ cutp xf xl keep c t → r_cut k xf xl keep c t = k t
  | 0, _ => rfl
  | c + 1, h => by
    unfold r_cut
    have := m_stay_le xl keep c
    rw [m_fill_out (fun z => h ⟨c, by omega, z.1, by omega⟩)]
    exact r_cut_out (fun ⟨j, h1, h2⟩ => h ⟨j, by omega, h2⟩)
theorem m_stay_c {xl xl' : Nat → Nat} {keep j : Nat} (h : ∀ i, i ≤ j → xl i = xl' i) : m_stay xl keep j = m_stay xl' keep j := by
  unfold m_stay
  rw [h j (Nat.le_refl _), m_sum_cong j (fun i hi => h i (by omega))]
theorem cutp_c {xf xf' xl xl' : Nat → Nat} {keep c t : Nat} (h : ∀ i, i < c → xf i = xf' i ∧ xl i = xl' i) : cutp xf xl keep c t ↔ cutp xf' xl' keep c t := by
  constructor
  · rintro ⟨j, h1, h2, h3⟩
    refine ⟨j, h1, ?_, ?_⟩
    · rw [← m_stay_c (xl := xl) (fun i hi => (h i (by omega)).2), ← (h j h1).1]; exact h2
    · rw [← (h j h1).1, ← (h j h1).2]; exact h3
  · rintro ⟨j, h1, h2, h3⟩
    refine ⟨j, h1, ?_, ?_⟩
    · rw [m_stay_c (xl := xl) (fun i hi => (h i (by omega)).2), (h j h1).1]; exact h2
    · rw [(h j h1).1, (h j h1).2]; exact h3
theorem c_remove {M : mM} {R : mR} (h : Cpl M R) (x : Int32) (y : Int64) : Res R (x_remove M x y) (y_remove R x y) := by
  unfold x_remove y_remove x_sel2
  rcases c_nam h x with ⟨h1, h2, -⟩ | ⟨i, S, h1, h2, -, hi, h3, hg, hcs, -, -⟩
  · rw [h2, if_pos h1]; exact Res_id h
  · have hs60 := h.2.1.2.1
    rw [h2, h1, if_neg (by omega)]
    dsimp only
    rw [h3]
    dsimp only
    rw [c_use h]
    by_cases hu : r_ask R x = true
    · rw [if_pos hu, if_pos hu]; exact Res_id h
    · rw [if_neg hu, if_neg hu, hcs.1.2.2]
      by_cases hd : y < rGd R (i + 1)
      · rw [if_pos hd, if_pos hd]; exact Res_id h
      · rw [if_neg hd, if_neg hd]
        obtain ⟨⟨a1, a2, a3, a4⟩, b, cN, cS, cV, cT, cF, cU, cL⟩ := id h
        obtain ⟨e1, e2, e3, e4, e5⟩ := hcs.2.1
        have hst : ∀ j, m_stay S.2.1.2.2 0 j = 0 := fun j => by unfold m_stay; omega
        have hcp : ∀ t, cutp S.2.1.2.1 S.2.1.2.2 0 S.2.1.1 t ↔ inE S t := fun t => by
          constructor
          · rintro ⟨j, j1, j2, j3⟩; rw [hst] at j2; exact ⟨j, j1, j2, j3⟩
          · rintro ⟨j, j1, j2, j3⟩; exact ⟨j, j1, by rw [hst]; exact j2, j3⟩
        have hrem : ∀ t, t < rN R → remO R (i + 1) (rN R) t = if rO R t = i + 1 then 0 else rO R t := fun t ht => by
          unfold remO
          by_cases ho : rO R t = i + 1
          · rw [if_pos ⟨ht, ho⟩, if_pos ho]
          · rw [if_neg (fun z => ho z.2), if_neg ho]
        have sm : ∀ s, s ≠ i + 1 → 1 ≤ s → sameS R (sO (sG R (va_up (rG R) (i + 1) true)) (remO R (i + 1) (rN R))) s := fun s hs s1 => ⟨rfl, rfl, rfl, rfl, rfl, fun _ _ _ => rfl, fun _ _ _ => ⟨rfl, rfl, rfl⟩, fun _ _ _ => ⟨rfl, rfl⟩, fun t ht => by
          show remO R (i + 1) (rN R) t = s ↔ rO R t = s
          rw [hrem t ht]
          by_cases ho : rO R t = i + 1
          · rw [if_pos ho, ho]; omega
          · rw [if_neg ho]⟩
        have eG : rG (sO (sG R (va_up (rG R) (i + 1) true)) (remO R (i + 1) (rN R))) = va_up (rG R) (i + 1) true := rfl
        refine ⟨rfl, ⟨⟨a1, a2, fun j S' hj => ?_, a4⟩, ?_, cN, cS, ⟨fun t ht => ?_, fun t ht hz => ?_⟩, fun j => ?_, CFresh_cong cF (Nat.le_refl _) (fun s hs h6 => ⟨va_up_ne _ _ (by have : rS R < s := hs; omega), sm s (by have : rS R < s := hs; omega) (by omega)⟩), fun s s' s1 s2 t1 t2 g1 g2 hn => ?_, cL⟩, Nat.le_succ _⟩
        · have hj : (if j = i then none else M.2.2.2.1 j) = some S' := hj
          by_cases hji : j = i
          · rw [if_pos hji] at hj; cases hj
          · rw [if_neg hji] at hj; exact a3 j S' hj
        · obtain ⟨b1, b2, b3, b4, b5, b6, b7⟩ := b
          refine ⟨b1, b2, fun t ht => ?_, b4, b5, b6, b7⟩
          show remO R (i + 1) (rN R) t ≤ 60
          rw [hrem t ht]
          split
          · omega
          · exact b3 t ht
        · show m_cut M.2.1 S.2.1.2.1 S.2.1.2.2 0 S.2.1.1 t = true ↔ remO R (i + 1) (rN R) t ≠ 0
          have ht' : t < rN R := by rw [cN]; exact ht
          rw [hrem t ht']
          by_cases ho : rO R t = i + 1
          · rw [if_pos ho, m_cut_in ((hcp t).mpr ((e5 t ht').mp ho))]
            exact ⟨(fun z => by cases z), (fun z => absurd rfl z)⟩
          · rw [if_neg ho, m_cut_out (fun z => ho ((e5 t ht').mpr ((hcp t).mp z)))]
            exact cV.1 t ht
        · have hz : remO R (i + 1) (rN R) t ≠ 0 := hz
          have ht' : t < rN R := by rw [cN]; exact ht
          show 1 ≤ remO R (i + 1) (rN R) t ∧ remO R (i + 1) (rN R) t ≤ rS R ∧ va_up (rG R) (i + 1) true (remO R (i + 1) (rN R) t) = false
          rw [hrem t ht'] at hz ⊢
          by_cases ho : rO R t = i + 1
          · rw [if_pos ho] at hz; exact absurd rfl hz
          · rw [if_neg ho] at hz ⊢
            have := cV.2 t ht hz
            exact ⟨this.1, this.2.1, by rw [va_up_ne _ _ ho]; exact this.2.2⟩
        · show ((if j = i then none else M.2.2.2.1 j) = none ∧ (j < rS R → va_up (rG R) (i + 1) true (j + 1) = true)) ∨ ∃ S', (if j = i then none else M.2.2.2.1 j) = some S' ∧ j < rS R ∧ va_up (rG R) (i + 1) true (j + 1) = false ∧ CS S' (sO (sG R (va_up (rG R) (i + 1) true)) (remO R (i + 1) (rN R))) (j + 1)
          by_cases hji : j = i
          · subst hji
            rw [if_pos rfl]
            exact Or.inl ⟨rfl, fun _ => va_up_self _ _ _⟩
          · rw [if_neg hji, va_up_ne _ _ (by omega)]
            rcases cT j with ⟨d1, d2⟩ | ⟨S', d1, d2, d3, d4⟩
            · exact Or.inl ⟨d1, d2⟩
            · exact Or.inr ⟨S', d1, d2, d3, CS_cong d4 (sm (j + 1) (by omega) (by omega)) rfl⟩
        · rw [eG] at g1 g2
          by_cases p1 : s = i + 1
          · rw [p1, va_up_self] at g1; cases g1
          · by_cases p2 : s' = i + 1
            · rw [p2, va_up_self] at g2; cases g2
            · rw [va_up_ne _ _ p1] at g1
              rw [va_up_ne _ _ p2] at g2
              exact cU s s' s1 s2 t1 t2 g1 g2 hn
theorem m_cnt_all {p : Nat → Bool} : ∀ {c : Nat}, (∀ j, j < c → p j = true) → m_cnt p c = c
  | 0, _ => rfl
  | c + 1, h => by
    show m_cnt p c + (if p c = true then 1 else 0) = c + 1
    rw [m_cnt_all (fun j hj => h j (by omega)), if_pos (h c (by omega))]
theorem m_cnt_pre {p : Nat → Bool} : ∀ {c : Nat}, (∀ j k, j < k → k < c → p k = true → p j = true) → ∀ j, j < c → (j < m_cnt p c ↔ p j = true)
  | 0, _, j, hj => absurd hj (Nat.not_lt_zero _)
  | c + 1, h, j, hj => by
    have e : m_cnt p (c + 1) = m_cnt p c + (if p c = true then 1 else 0) := rfl
    rw [e]
    by_cases hp : p c = true
    · have hall : ∀ i, i < c → p i = true := fun i hi => h i c hi (by omega) hp
      rw [m_cnt_all hall, if_pos hp]
      refine ⟨fun _ => ?_, fun _ => hj⟩
      by_cases hjc : j = c
      · rw [hjc]; exact hp
      · exact hall j (by omega)
    · rw [if_neg hp]
      have hle := m_cnt_le p c
      by_cases hjc : j = c
      · rw [hjc]
        exact ⟨fun z => absurd z (by omega), fun z => absurd z hp⟩
      · exact m_cnt_pre (fun a b' h1 h2 => h a b' h1 (by omega)) j (by omega)
theorem m_sum_z {f : Nat → Nat} {n : Nat} : ∀ {c : Nat}, n ≤ c → (∀ j, n ≤ j → j < c → f j = 0) → m_sum f c = m_sum f n
  | 0, h, _ => by rw [show n = 0 by omega]
  | c + 1, h, hz => by
    by_cases hn : n = c + 1
    · rw [hn]
    · show m_sum f c + f c = _
      rw [hz c (by omega) (by omega), m_sum_z (by omega) (fun j h1 h2 => hz j h1 (by omega))]
      rfl
theorem m_sum_stay {xl : Nat → Nat} {keep : Nat} : ∀ c, m_sum (m_stay xl keep) c = min keep (m_sum xl c)
  | 0 => by simp [m_sum]
  | c + 1 => by
    show m_sum (m_stay xl keep) c + m_stay xl keep c = min keep (m_sum xl c + xl c)
    rw [m_sum_stay c]
    unfold m_stay
    omega
theorem m_sum_mono {f : Nat → Nat} : ∀ {a b : Nat}, a ≤ b → m_sum f a ≤ m_sum f b
  | a, 0, h => by rw [show a = 0 by omega]; exact Nat.le_refl _
  | a, b + 1, h => by
    by_cases hb : a = b + 1
    · rw [hb]; exact Nat.le_refl _
    · exact Nat.le_trans (m_sum_mono (show a ≤ b by omega)) (Nat.le_add_right _ _)
theorem m_kept_iff {xl : Nat → Nat} {keep c : Nat} (hp : ∀ j, j < c → 1 ≤ xl j) : ∀ j, j < c → (j < m_kept xl keep c ↔ 0 < m_stay xl keep j) := fun j hj => by
  have := m_cnt_pre (p := fun i => decide (0 < m_stay xl keep i)) (c := c) (fun a b h1 h2 h3 => by
    simp only [decide_eq_true_eq] at h3 ⊢
    unfold m_stay at h3 ⊢
    have h4 : m_sum xl (a + 1) ≤ m_sum xl b := m_sum_mono h1
    have h5 : m_sum xl (a + 1) = m_sum xl a + xl a := rfl
    have := hp a (by omega)
    omega) j hj
  simpa [m_kept] using this
theorem r_exi_at {ex : Nat → Nat} {s : Nat} {xl : Nat → Nat} {keep : Nat} : ∀ (i j : Nat), j < i → r_exi ex s xl keep i (32 * s + 2 * j + 1) = m_stay xl keep j
  | 0, _, h => absurd h (Nat.not_lt_zero _)
  | i + 1, j, h => by
    unfold r_exi
    by_cases hj : j = i
    · subst hj; exact va_up_self _ _ _
    · rw [va_up_ne _ _ (by omega)]; exact r_exi_at i j (by omega)
theorem r_exi_out {ex : Nat → Nat} {s : Nat} {xl : Nat → Nat} {keep j : Nat} : ∀ (i : Nat), (j < 32 * s + 1 ∨ 32 * s + 2 * i ≤ j) → r_exi ex s xl keep i j = ex j
  | 0, _ => rfl
  | i + 1, h => by
    unfold r_exi
    rw [va_up_ne _ _ (by omega)]
    exact r_exi_out i (by omega)
theorem c_release {M : mM} {R : mR} (h : Cpl M R) (x : Int32) : Res R (x_release M x) (y_release R x) := by
  unfold x_release y_release relR
  rcases c_sel h x with ⟨h1, h2⟩ | ⟨i, S, rfl, hi, h1, h2, h3, hg, hcs⟩
  · rw [x_sel_n h2, if_neg (by rw [h1]; decide)]; exact Res_id h
  · have hs60 := h.2.1.2.1
    rw [x_sel_s h2 h3, if_pos h1, c_clamp (by omega)]
    obtain ⟨e1, e2, e3, e4, e5⟩ := hcs.2.1
    obtain ⟨d1, d2, d3, d4, d5, d6, d7, d8, d9⟩ := hcs.2.2.1
    obtain ⟨⟨a1, a2, a3, a4⟩, b, cN, cS, cV, cT, cF, cU, cL⟩ := id h
    have hkp : max 1 S.2.2.1.2.1 = r_keep R (i + 1) := by
      rw [d1]
      unfold r_keep
      split <;> omega
    rw [hkp]
    have hkg : rGv R (i + 1) ≤ r_keep R (i + 1) := by
      unfold r_keep
      split <;> omega
    generalize r_keep R (i + 1) = keep at hkp hkg ⊢
    have ex : ∀ j, j < S.2.1.1 → S.2.1.2.1 j = r_fst R (i + 1) j ∧ S.2.1.2.2 j = r_len R (i + 1) j := fun j hj => ⟨(e3 j (by omega)).1, (e3 j (by omega)).2.1⟩
    have est : ∀ j, j < S.2.1.1 → m_stay S.2.1.2.2 keep j = m_stay (r_len R (i + 1)) keep j := fun j hj => m_stay_c (fun k hk => (ex k (by omega)).2)
    have efr : m_freed S.2.1.2.2 keep S.2.1.1 = m_freed (r_len R (i + 1)) keep (rMy R (i + 1)) := by
      rw [← e1]
      exact m_sum_cong _ (fun j hj => by rw [est j hj, (ex j hj).2])
    have ekp : m_kept S.2.1.2.2 keep S.2.1.1 = m_kept (r_len R (i + 1)) keep (rMy R (i + 1)) := by
      rw [← e1]
      exact m_cnt_cong _ (fun j hj => by rw [est j hj])
    have hpos : ∀ j, j < S.2.1.1 → 1 ≤ S.2.1.2.2 j := fun j hj => by rw [(ex j hj).2]; exact (e3 j (by omega)).2.2
    have kif := m_kept_iff (keep := keep) hpos
    have kle : m_kept S.2.1.2.2 keep S.2.1.1 ≤ S.2.1.1 := m_cnt_le _ _
    have hcp : ∀ t, cutp S.2.1.2.1 S.2.1.2.2 keep S.2.1.1 t ↔ cutp (r_fst R (i + 1)) (r_len R (i + 1)) keep (rMy R (i + 1)) t := fun t => by rw [← e1]; exact cutp_c ex
    have hcE : ∀ t, cutp S.2.1.2.1 S.2.1.2.2 keep S.2.1.1 t → inE S t := fun t ⟨j, j1, j2, j3⟩ => ⟨j, j1, by omega, j3⟩
    generalize hR' : sMy (sEx (sO R (r_cut (rO R) (r_fst R (i + 1)) (r_len R (i + 1)) keep (rMy R (i + 1)))) (r_exi (rEx R) (i + 1) (r_len R (i + 1)) keep (rMy R (i + 1)))) (va_up (rMy R) (i + 1) (m_kept (r_len R (i + 1)) keep (rMy R (i + 1)))) = R'
    have fO : rO R' = r_cut (rO R) (r_fst R (i + 1)) (r_len R (i + 1)) keep (rMy R (i + 1)) := by rw [← hR']; rfl
    have fE : rEx R' = r_exi (rEx R) (i + 1) (r_len R (i + 1)) keep (rMy R (i + 1)) := by rw [← hR']; rfl
    have fM : rMy R' = va_up (rMy R) (i + 1) (m_kept (r_len R (i + 1)) keep (rMy R (i + 1))) := by rw [← hR']; rfl
    have fN : rN R' = rN R := by rw [← hR']; rfl
    have fS : rS R' = rS R := by rw [← hR']; rfl
    have fG : rG R' = rG R := by rw [← hR']; rfl
    have fV : rGv R' = rGv R := by rw [← hR']; rfl
    have fU : rFu R' = rFu R := by rw [← hR']; rfl
    have fMn : rMn R' = rMn R ∧ rMf R' = rMf R ∧ rMz R' = rMz R := by rw [← hR']; exact ⟨rfl, rfl, rfl⟩
    have fA : r_as R' = r_as R := by rw [← hR']; rfl
    have fK : rK R' = rK R := by rw [← hR']; rfl
    have fbK : bK R' := by rw [← hR']; exact b.2.2.2.2.2.2
    have fR : rNm R' = rNm R ∧ rGd R' = rGd R ∧ rTl R' = rTl R ∧ rAv R' = rAv R := by rw [← hR']; exact ⟨rfl, rfl, rfl, rfl⟩
    clear hR'
    have eM : rMy R' (i + 1) = m_kept S.2.1.2.2 keep S.2.1.1 := by rw [fM, va_up_self, ekp]
    have ef : ∀ j, r_fst R' (i + 1) j = r_fst R (i + 1) j := fun j => by unfold r_fst; rw [fE, r_exi_e]
    have el : ∀ j, j < rMy R (i + 1) → r_len R' (i + 1) j = m_stay (r_len R (i + 1)) keep j := fun j hj => by
      show rEx R' (32 * (i + 1) + 2 * j + 1) = _
      rw [fE, r_exi_at _ _ hj]
    have eIn : ∀ t, inE (cutE S keep) t ↔ inE S t ∧ ¬ cutp S.2.1.2.1 S.2.1.2.2 keep S.2.1.1 t := fun t => by
      constructor
      · rintro ⟨j, j1, j2, j3⟩
        have j1 : j < m_kept S.2.1.2.2 keep S.2.1.1 := j1
        have j2 : S.2.1.2.1 j ≤ t := j2
        have j3 : t < S.2.1.2.1 j + m_lens S.2.1.2.2 keep S.2.1.1 j := j3
        unfold m_lens at j3
        rw [if_pos (by omega)] at j3
        have hle := m_stay_le S.2.1.2.2 keep j
        refine ⟨⟨j, by omega, j2, by omega⟩, fun ⟨k, k1, k2, k3⟩ => ?_⟩
        by_cases hjk : j = k
        · subst hjk; omega
        · have := e4 j k (by omega) (by omega) hjk
          rw [← (ex j (by omega)).1, ← (ex j (by omega)).2, ← (ex k (by omega)).1, ← (ex k (by omega)).2] at this
          omega
      · rintro ⟨⟨j, j1, j2, j3⟩, hn⟩
        have hlt : t < S.2.1.2.1 j + m_stay S.2.1.2.2 keep j := by
          rcases Nat.lt_or_ge t (S.2.1.2.1 j + m_stay S.2.1.2.2 keep j) with q | q
          · exact q
          · exact absurd ⟨j, j1, q, j3⟩ hn
        refine ⟨j, (kif j j1).mpr (by omega), j2, ?_⟩
        show t < S.2.1.2.1 j + m_lens S.2.1.2.2 keep S.2.1.1 j
        unfold m_lens
        rw [if_pos j1]
        exact hlt
    have hO : ∀ t, t < rN R → (cutp S.2.1.2.1 S.2.1.2.2 keep S.2.1.1 t ∧ rO R' t = 0 ∧ rO R t = i + 1) ∨ (¬ cutp S.2.1.2.1 S.2.1.2.2 keep S.2.1.1 t ∧ rO R' t = rO R t) := fun t ht => by
      by_cases hc : cutp S.2.1.2.1 S.2.1.2.2 keep S.2.1.1 t
      · exact Or.inl ⟨hc, by rw [fO, r_cut_in ((hcp t).mp hc)], (e5 t ht).mpr (hcE t hc)⟩
      · exact Or.inr ⟨hc, by rw [fO, r_cut_out (fun z => hc ((hcp t).mpr z))]⟩
    have hsum : m_sum (m_lens S.2.1.2.2 keep S.2.1.1) (m_kept S.2.1.2.2 keep S.2.1.1) = min keep (m_sum S.2.1.2.2 S.2.1.1) := by
      rw [← m_sum_stay, m_sum_z kle (fun j j1 j2 => by have := (kif j j2).mpr; omega)]
      refine m_sum_cong _ (fun j hj => ?_)
      unfold m_lens
      rw [if_pos (by omega)]
    obtain ⟨⟨o1, o2⟩, o3, o4, o5, o6⟩ := (a3 i S h3).2
    suffices hmain : Cpl (setM M i (m_cut M.2.1 S.2.1.2.1 S.2.1.2.2 keep S.2.1.1) (cutE S keep)) R' from ⟨by show nI _ = nI _; rw [efr], hmain, by show rK R' ≤ _; omega⟩
    refine Cpl_set h hi hg ?_ ⟨⟨?_, ?_⟩, ?_, o4, o5, o6⟩ fN fS fG fA ⟨fun t ht => ?_, fun t ht hz => ?_⟩ ⟨?_, ⟨eM.symm, ?_, fun j hj => ?_, fun j k hj hk hne => ?_, fun t ht => ?_⟩, ?_, ?_⟩ (fun s hs s1 s6 => ?_) ?_
    · obtain ⟨b1, b2, b3, b4, b5, b6, b7⟩ := b
      refine ⟨by omega, by omega, fun t ht => ?_, fun s s1 s2 => ?_, fun s s1 s2 => ?_, ?_, fbK⟩
      · have ht : t < rN R := by omega
        rcases hO t ht with ⟨-, q, -⟩ | ⟨-, q⟩
        · omega
        · rw [q]; exact b3 t ht
      · obtain ⟨⟨k1, k2⟩, k3, k4, k5⟩ := b4 s s1 (by omega)
        by_cases hs : s = i + 1
        · subst hs
          have key : ∀ j, j < rMy R' (i + 1) → r_fst R' (i + 1) j = r_fst R (i + 1) j ∧ r_len R' (i + 1) j ≤ r_len R (i + 1) j ∧ j < rMy R (i + 1) := fun j hj => ⟨ef j, by rw [el j (by omega)]; exact m_stay_le _ _ _, by omega⟩
          refine ⟨⟨by omega, fun j hj => ?_⟩, by rw [fU]; exact k3, by rw [fV]; exact k4, fun j hj => ?_⟩
          · obtain ⟨q1, q2, q3⟩ := key j hj
            have := k2 j q3
            omega
          · obtain ⟨q1, q2, q3⟩ := key j hj
            have := k5 j q3
            omega
        · have km : rMy R' s = rMy R s := by rw [fM, va_up_ne _ _ hs]
          have kf : ∀ j, j < rMy R s → r_fst R' s j = r_fst R s j ∧ r_len R' s j = r_len R s j := fun j hj => by
            show rEx R' (32 * s + 2 * j) = _ ∧ rEx R' (32 * s + 2 * j + 1) = _
            rw [fE, r_exi_out _ (by omega), r_exi_out _ (by omega)]
            exact ⟨rfl, rfl⟩
          refine ⟨⟨by rw [km]; exact k1, fun j hj => ?_⟩, by rw [fU]; exact k3, by rw [fV]; exact k4, fun j hj => ?_⟩
          · rw [km] at hj; rw [(kf j hj).1, (kf j hj).2]; exact k2 j hj
          · rw [km] at hj; rw [(kf j hj).1, (kf j hj).2, fN]; exact k5 j hj
      · rw [fM, va_up_ne _ _ (by omega)]
        exact b5 s (by omega) s2
      · rw [fMn.1, fMn.2.1, fMn.2.2]; exact b6
    · show m_kept S.2.1.2.2 keep S.2.1.1 ≤ 16
      omega
    · intro j hj
      have hj : j < m_kept S.2.1.2.2 keep S.2.1.1 := hj
      show S.2.1.2.1 j ≤ 500 ∧ m_lens S.2.1.2.2 keep S.2.1.1 j ≤ 500
      unfold m_lens
      rw [if_pos (by omega)]
      have := o2 j (by omega)
      have := m_stay_le S.2.1.2.2 keep j
      omega
    · intro j hj
      have hj : j < m_kept S.2.1.2.2 keep S.2.1.1 := hj
      show S.2.1.2.1 j + m_lens S.2.1.2.2 keep S.2.1.1 j ≤ M.1
      unfold m_lens
      rw [if_pos (by omega)]
      have := o3 j (by omega)
      have := m_stay_le S.2.1.2.2 keep j
      omega
    · rcases hO t (by omega) with ⟨q0, q1, q2⟩ | ⟨q0, q1⟩
      · rw [m_cut_in q0, q1]
        exact ⟨(fun z => by cases z), (fun z => absurd rfl z)⟩
      · rw [m_cut_out q0, q1]; exact cV.1 t ht
    · rcases hO t (by omega) with ⟨q0, q1, q2⟩ | ⟨q0, q1⟩
      · exact absurd q1 hz
      · rw [q1] at hz ⊢
        rw [fS, fG]
        exact cV.2 t ht hz
    · exact ⟨by rw [fR.1]; exact hcs.1.1, by rw [fU]; exact hcs.1.2.1, by rw [fR.2.1]; exact hcs.1.2.2⟩
    · omega
    · rw [eM] at hj
      have hs0 := (kif j (by omega)).mp hj
      refine ⟨by rw [ef]; exact (ex j (by omega)).1, ?_, ?_⟩
      · show m_lens S.2.1.2.2 keep S.2.1.1 j = _
        unfold m_lens
        rw [if_pos (by omega), el j (by omega), est j (by omega)]
      · rw [el j (by omega), ← est j (by omega)]; exact hs0
    · rw [eM] at hj hk
      rw [ef, ef, el j (by omega), el k (by omega)]
      have q1 := m_stay_le (r_len R (i + 1)) keep j
      have q2 := m_stay_le (r_len R (i + 1)) keep k
      have := e4 j k (by omega) (by omega) hne
      omega
    · have ht' : t < rN R := by omega
      rw [eIn, ← e5 t ht']
      rcases hO t ht' with ⟨q0, q1, q2⟩ | ⟨q0, q1⟩
      · rw [q1]
        exact ⟨(fun z => absurd z (by omega)), (fun z => absurd q0 z.2)⟩
      · rw [q1]
        exact ⟨fun z => ⟨z, q0⟩, fun z => z.1⟩
    · refine ⟨by rw [fV]; exact d1, ?_, by rw [fMn.1]; exact d3, by rw [fMn.1, fMn.2.1, fMn.2.2]; exact d4, by rw [fMn.1]; exact d5, d6, by rw [fMn.1]; exact d7, by rw [fV]; exact d8, d9⟩
      rw [fV]
      show _ ≤ m_sum (m_lens S.2.1.2.2 keep S.2.1.1) (m_kept S.2.1.2.2 keep S.2.1.1)
      rw [hsum]
      omega
    · exact fun j hj => by rw [fR.2.2.1, fR.2.2.2]; exact hcs.2.2.2 j hj
    · refine ⟨by rw [fR.1], by rw [fU], by rw [fR.2.1], by rw [fM, va_up_ne _ _ hs], by rw [fV], fun j j1 j2 => by rw [fE, r_exi_out _ (by omega)], fun k k1 k2 => by rw [fMn.1, fMn.2.1, fMn.2.2]; exact ⟨rfl, rfl, rfl⟩, fun k k1 k2 => by rw [fR.2.2.1, fR.2.2.2]; exact ⟨rfl, rfl⟩, fun t ht => ?_⟩
      rcases hO t ht with ⟨q0, q1, q2⟩ | ⟨q0, q1⟩
      · rw [q1, q2]; omega
      · rw [q1]
    · unfold CUniq
      rw [fS, fG, fR.1]
      exact cU
