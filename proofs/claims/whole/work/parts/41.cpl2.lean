def Res (R : mR) (p : mM × Int32) (q : mR × Int32) : Prop := p.2 = q.2 ∧ Cpl p.1 q.1 ∧ rK q.1 ≤ rK R + 1
theorem Res_id {M : mM} {R : mR} {v : Int32} (h : Cpl M R) : Res R (M, v) (R, v) := ⟨rfl, h, Nat.le_succ _⟩
theorem c_clamp {i : Nat} (h : i < 60) : (nI (i + 1)).toNatClampNeg = i + 1 := nI_clamp (by omega)
theorem c_find {M : mM} {R : mR} (h : Cpl M R) (x : Int32) : Res R (x_find M x) (y_find R x) := by
  refine ⟨?_, h, Nat.le_succ _⟩
  show nI (m_num M.2.2.2.1 x) = nI (m_last (r_pn R x) (rS R))
  rcases c_nam h x with ⟨h1, -, h2⟩ | ⟨i, S, h1, -, h2, -⟩ <;> rw [h1, h2]
theorem c_guard {M : mM} {R : mR} (h : Cpl M R) (x : Int32) (y : Int64) : Res R (x_guard M x y) (y_guard R x y) := by
  unfold x_guard y_guard
  rcases c_sel h x with ⟨h1, h2⟩ | ⟨i, S, rfl, hi, h1, h2, h3, hg, hcs⟩
  · rw [x_sel_n h2, if_neg (by rw [h1]; decide)]; exact Res_id h
  · have hs60 := h.2.1.2.1
    rw [x_sel_s h2 h3, if_pos h1, c_clamp (by omega)]
    refine ⟨rfl, Cpl_set h hi hg h.2.1 (h.1.2.2.1 i S h3).2 rfl rfl rfl rfl h.2.2.2.2.1 ?_ (fun s hs _ _ => ⟨rfl, rfl, pk_uLn hs, rfl, rfl, fun _ _ _ => rfl, fun _ _ _ => ⟨rfl, rfl, rfl⟩, fun _ _ _ => ⟨rfl, rfl⟩, fun _ _ => Iff.rfl⟩) h.2.2.2.2.2.2.2.1, Nat.le_succ _⟩
    exact ⟨⟨hcs.1.1, hcs.1.2.1, pk_uLs.symm⟩, hcs.2.1, hcs.2.2.1, hcs.2.2.2⟩
theorem i32_lt3 {y : Int32} : y < 3 ↔ y ≤ 2 := by
  rw [Int32.lt_iff_toInt_lt, Int32.le_iff_toInt_le, show (3 : Int32).toInt = 3 by decide, show (2 : Int32).toInt = 2 by decide]
  omega
theorem i32_at {w : Int32} : m_at w = true ↔ 0 ≤ w ∧ w ≤ 9 := by
  unfold m_at
  rw [Bool.and_eq_true, decide_eq_true_eq, decide_eq_true_eq, Int32.lt_iff_toInt_lt, Int32.le_iff_toInt_le, Int32.le_iff_toInt_le, show (10 : Int32).toInt = 10 by decide, show (9 : Int32).toInt = 9 by decide]
  omega
theorem c_attribute {M : mM} {R : mR} (h : Cpl M R) (x y w u : Int32) : Res R (x_attribute M x y w u) (y_attribute R x y w u) := by
  unfold x_attribute y_attribute
  rcases c_sel h x with ⟨h1, h2⟩ | ⟨i, S, rfl, hi, h1, h2, h3, hg, hcs⟩
  · rw [x_sel_n h2, if_neg (by rw [h1]; decide)]; exact Res_id h
  · have hs60 := h.2.1.2.1
    rw [x_sel_s h2 h3, if_pos h1, c_clamp (by omega)]
    by_cases hc : 0 ≤ y ∧ y ≤ 2 ∧ 0 ≤ w ∧ w ≤ 9
    · rw [if_pos ⟨hc.1, i32_lt3.mpr hc.2.1, i32_at.mpr hc.2.2⟩, if_pos hc]
      obtain ⟨yn, hyn, rfl⟩ := m_nn hc.1
      obtain ⟨wn, hwn, rfl⟩ := m_nn hc.2.2.1
      have y2 := (nI_leI (b := 2) hyn (by decide)).mp hc.2.1
      have w9 := (nI_leI (b := 9) hwn (by decide)).mp hc.2.2.2
      rw [nI_clamp hyn, nI_clamp hwn]
      refine ⟨rfl, Cpl_set h hi hg h.2.1 (h.1.2.2.1 i S h3).2 rfl rfl rfl rfl h.2.2.2.2.1 ⟨hcs.1, hcs.2.1, hcs.2.2.1, fun j hj => ?_⟩ (fun s hs _ _ => ⟨rfl, rfl, rfl, rfl, rfl, fun _ _ _ => rfl, fun _ _ _ => ⟨rfl, rfl, rfl⟩, fun k hk1 hk2 => ⟨va_up_ne _ _ (by omega), pk_un (by omega)⟩, fun _ _ => Iff.rfl⟩) h.2.2.2.2.2.2.2.1, Nat.le_succ _⟩
      have hj' := hcs.2.2.2 j hj
      show va_up S.2.2.2.1 (yn * 10 + wn) true j = va_up (rTl R) (30 * (i + 1) + 10 * yn + wn) true (30 * (i + 1) + j) ∧ upd S.2.2.2.2 (yn * 10 + wn) u j = upd (rAv R) (30 * (i + 1) + 10 * yn + wn) u (30 * (i + 1) + j)
      by_cases hjj : j = yn * 10 + wn
      · have e1 : 30 * (i + 1) + 10 * yn + wn = 30 * (i + 1) + j := by omega
        rw [e1, ← hjj]
        simp [va_up, upd]
      · rw [va_up_ne _ _ hjj, pk_un hjj, va_up_ne _ _ (by omega), pk_un (by omega)]
        exact hj'
    · rw [if_neg (fun z => hc ⟨z.1, i32_lt3.mp z.2.1, i32_at.mp z.2.2⟩), if_neg hc]
      exact Res_id h
theorem c_merged {M : mM} {R : mR} (h : Cpl M R) (x y : Int32) : Res R (x_merged M x y) (y_merged R x y) := by
  unfold x_merged y_merged
  rcases c_sel h x with ⟨h1, h2⟩ | ⟨i, S, rfl, hi, h1, h2, h3, hg, hcs⟩
  · rw [x_sel_n h2, if_neg (fun z => by rw [h1] at z; cases z.1)]; exact Res_id h
  · have hs60 := h.2.1.2.1
    rw [x_sel_s h2 h3, c_clamp (by omega)]
    by_cases hc : 0 ≤ y ∧ y ≤ 9
    · rw [if_pos (i32_at.mpr hc), if_pos ⟨h1, hc⟩]
      obtain ⟨yn, hyn, rfl⟩ := m_nn hc.1
      have y9 := (nI_leI (b := 9) hyn (by decide)).mp hc.2
      rw [nI_clamp hyn]
      have a0 := hcs.2.2.2 yn (by omega)
      have a1 := hcs.2.2.2 (10 + yn) (by omega)
      have a2 := hcs.2.2.2 (20 + yn) (by omega)
      refine ⟨?_, h, Nat.le_succ _⟩
      show m_ft S.2.2.2.1 S.2.2.2.2 yn 3 0 = _
      simp only [m_ft, Nat.zero_add, Nat.zero_mul, Nat.one_mul, Nat.reduceAdd, Nat.reduceMul]
      rw [show 30 * (i + 1) + (10 + yn) = 30 * (i + 1) + yn + 10 by omega] at a1
      rw [show 30 * (i + 1) + (20 + yn) = 30 * (i + 1) + yn + 20 by omega] at a2
      rw [a0.1, a0.2, a1.1, a1.2, a2.1, a2.2]
    · rw [if_neg (fun z => hc (i32_at.mp z)), if_neg (fun z => hc z.2)]
      exact Res_id h
theorem i32_w0 {w : Int32} : w.toInt = 0 ↔ w = 0 := ⟨fun z => Int32.toInt_inj.mp (by rw [z]; decide), fun z => by rw [z]; decide⟩
theorem i32_w1 {w : Int32} : w.toInt = 1 ↔ w = 1 := ⟨fun z => Int32.toInt_inj.mp (by rw [z]; decide), fun z => by rw [z]; decide⟩
theorem c_extent {M : mM} {R : mR} (h : Cpl M R) (x y w : Int32) : Res R (x_extent M x y w) (y_extent R x y w) := by
  unfold x_extent y_extent
  rcases c_sel h x with ⟨h1, h2⟩ | ⟨i, S, rfl, hi, h1, h2, h3, hg, hcs⟩
  · rw [x_sel_n h2, if_neg (fun z => by rw [h1] at z; cases z.1)]; exact Res_id h
  · have hs60 := h.2.1.2.1
    rw [x_sel_s h2 h3, c_clamp (by omega)]
    obtain ⟨e1, e2, e3, -⟩ := hcs.2.1
    refine ⟨?_, h, Nat.le_succ _⟩
    show (if 0 ≤ y ∧ y < nI S.2.1.1 then (if w.toInt = 0 then nI (S.2.1.2.1 y.toNatClampNeg) else if w.toInt = 1 then nI (S.2.1.2.2 y.toNatClampNeg) else -1) else -1) = _
    rw [e1]
    by_cases hc : 0 ≤ y ∧ y < nI (rMy R (i + 1))
    · rw [if_pos hc]
      obtain ⟨yn, hyn, rfl⟩ := m_nn hc.1
      have hy := (nI_ltI hyn (by omega)).mp hc.2
      obtain ⟨f1, f2, -⟩ := e3 yn hy
      rw [nI_clamp hyn, f1, f2]
      by_cases w0 : w = 0
      · subst w0
        rw [if_pos (i32_w0.mpr rfl), if_pos ⟨h1, hc.1, hc.2, Or.inl rfl⟩]
        rfl
      · rw [if_neg (fun z => w0 (i32_w0.mp z))]
        by_cases w1 : w = 1
        · subst w1
          rw [if_pos (i32_w1.mpr rfl), if_pos ⟨h1, hc.1, hc.2, Or.inr rfl⟩]
          rfl
        · rw [if_neg (fun z => w1 (i32_w1.mp z)), if_neg (fun z => z.2.2.2.elim w0 w1)]
    · rw [if_neg hc, if_neg (fun z => hc ⟨z.2.1, z.2.2.1⟩)]
theorem r_as_mem {R : mR} {q : lA} : q ∈ r_as R ↔ ∃ k, k < rK R ∧ q = (rAn R k, rAj R k, rAa R k, rAw R k) := by
  unfold r_as
  rw [List.mem_map]
  constructor
  · rintro ⟨k, hk, rfl⟩; exact ⟨k, List.mem_range.mp hk, rfl⟩
  · rintro ⟨k, hk, rfl⟩; exact ⟨k, List.mem_range.mpr hk, rfl⟩
theorem CL1_len {L : mL} {n : Nat} {l : List lA} (h : CL1 L n l) : (l.filter (fun q => decide (q.1 = n))).length = L.1 := by
  have := congrArg List.length h.1
  rw [List.length_map] at this
  rw [this, l_ln, List.length_map, List.length_range]
theorem c_use {M : mM} {R : mR} (h : Cpl M R) (x : Int32) : m_use M.2.2.2.2 x = r_ask R x := by
  have hb := h.2.1.2.2.2.2.2.2
  have hL := h.2.2.2.2.2.2.2.2
  rw [Bool.eq_iff_iff]
  unfold r_ask
  rw [m_any_t]
  constructor
  · intro hu
    unfold m_use at hu
    rw [Bool.and_eq_true] at hu
    obtain ⟨h1, h2⟩ := hu
    obtain ⟨n, hn, rfl⟩ := m_nm_t h1
    rw [nI_clamp (by omega)] at h2
    have h3 := CL1_len (hL.1 n hn)
    cases hm : M.2.2.2.2 n with
    | none => rw [hm] at h2; cases h2
    | some L =>
      rw [hm] at h2 h3
      have h4 : 0 < L.1 := by simpa using h2
      have h5 : 0 < ((r_as R).filter (fun q => decide (q.1 = n))).length := by rw [h3]; exact h4
      obtain ⟨q, hq⟩ := List.exists_mem_of_length_pos h5
      rw [List.mem_filter] at hq
      obtain ⟨k, hk, rfl⟩ := r_as_mem.mp hq.1
      have h6 : rAn R k = n := by simpa using hq.2
      exact ⟨k, hk, by rw [h6]; simp⟩
  · rintro ⟨k, hk, hx⟩
    have hx : nI (rAn R k) = x := by simpa using hx
    subst hx
    have hn := (hb.2 k hk).1
    have h3 := CL1_len (hL.1 (rAn R k) hn)
    have h5 : (rAn R k, rAj R k, rAa R k, rAw R k) ∈ (r_as R).filter (fun q => decide (q.1 = rAn R k)) := List.mem_filter.mpr ⟨r_as_mem.mpr ⟨k, hk, rfl⟩, by simp⟩
    have h6 := List.length_pos_of_mem h5
    unfold m_use
    rw [m_nm_n hn, nI_clamp (by omega)]
    cases hm : M.2.2.2.2 (rAn R k) with
    | none => rw [hm] at h3; rw [h3] at h6; exact absurd h6 (by decide)
    | some L => rw [hm] at h3; rw [h3] at h6; simpa using h6
theorem c_rename {M : mM} {R : mR} (h : Cpl M R) (x y : Int32) : Res R (x_rename M x y) (y_rename R x y) := by
  unfold x_rename y_rename x_sel2
  rcases c_nam h x with ⟨h1, h2, -⟩ | ⟨i, S, h1, h2, -, hi, h3, hg, hcs, -, -⟩
  · rw [h2, if_pos h1]; exact Res_id h
  · have hs60 := h.2.1.2.1
    rw [h2, h1, if_neg (by omega)]
    dsimp only
    rw [h3]
    dsimp only
    by_cases hy : m_nm y = true
    · rw [if_pos hy, if_pos hy]
      have hny : (m_num M.2.2.2.1 y = 0 ↔ m_last (r_pn R y) (rS R) = 0) := by
        rcases c_nam h y with ⟨k1, -, k2⟩ | ⟨j, S', k1, -, k2, -⟩ <;> rw [k1, k2]
      by_cases hz : m_last (r_pn R y) (rS R) = 0
      · rw [if_pos (hny.mpr hz), if_pos hz, c_use h, c_use h]
        by_cases hu : r_ask R x = true ∨ r_ask R y = true
        · rw [if_pos hu, if_pos hu]; exact Res_id h
        · rw [if_neg hu, if_neg hu]
          obtain ⟨yn, hyn, rfl⟩ := m_nm_t hy
          rw [nI_clamp (by omega)]
          obtain ⟨o1, o2, o3, o4, o5⟩ := (h.1.2.2.1 i S h3).2
          refine ⟨rfl, Cpl_set h hi hg h.2.1 ⟨o1, o2, o3, o4, hyn⟩ rfl rfl rfl rfl h.2.2.2.2.1 ⟨⟨(va_up_self _ _ _).symm, hcs.1.2⟩, hcs.2⟩ (fun s hs _ _ => ⟨va_up_ne _ _ hs, rfl, rfl, rfl, rfl, fun _ _ _ => rfl, fun _ _ _ => ⟨rfl, rfl, rfl⟩, fun _ _ _ => ⟨rfl, rfl⟩, fun _ _ => Iff.rfl⟩) ?_, Nat.le_succ _⟩
          have hno : ∀ s, 1 ≤ s → s ≤ rS R → rG R s = false → rNm R s ≠ yn := fun s s1 s2 sg hn => by
            have := m_last_0 hz s s1 s2
            simp [r_pn, sg, hn] at this
          intro s s' s1 s2 t1 t2 g1 g2 hn
          have hn : va_up (rNm R) (i + 1) yn s = va_up (rNm R) (i + 1) yn s' := hn
          by_cases a1 : s = i + 1
          · by_cases a2 : s' = i + 1
            · omega
            · rw [a1, va_up_self, va_up_ne _ _ a2] at hn
              exact absurd hn.symm (hno s' t1 t2 g2)
          · by_cases a2 : s' = i + 1
            · rw [a2, va_up_self, va_up_ne _ _ a1] at hn
              exact absurd hn (hno s s1 s2 g1)
            · rw [va_up_ne _ _ a1, va_up_ne _ _ a2] at hn
              exact h.2.2.2.2.2.2.2.1 s s' s1 s2 t1 t2 g1 g2 hn
      · rw [if_neg (fun z => hz (hny.mp z)), if_neg hz]; exact Res_id h
    · rw [if_neg hy, if_neg hy]; exact Res_id h
