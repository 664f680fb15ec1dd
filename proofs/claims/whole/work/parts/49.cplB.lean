/-- a job out of a line, nobody let in yet -/
def dropN (x : Nat) (L : mL) : mL := match m_lix L x with
  | none => L
  | some a => (L.1 - 1, if a < L.2.1 then L.2.1 - 1 else L.2.1, m_sh L.2.2.1 a (L.1 - 1), m_sh L.2.2.2 a (L.1 - 1))
def admN (L : mL) : mL := (L.1, m_adm L.2.2.2 L.1 (L.1 - L.2.1) L.2.1, L.2.2.1, L.2.2.2)
def CLd (L : mL) : Prop := bLine L.1 L.2.1 L.2.2.1 ∧ (∀ i, i < L.1 → 1 ≤ L.2.2.1 i) ∧ (∀ i j, i < L.1 → j < L.1 → L.2.2.1 i = L.2.2.1 j → i = j) ∧ ∀ i, i < L.2.1 → L.2.2.2 i = true → L.2.1 = 1
theorem dropL_eq {x : Nat} {L : mL} (hs : L.2.1 < L.1 → m_can L.2.2.2 L.2.1 (L.2.2.2 L.2.1) = false) (hh : L.2.1 ≤ L.1) : (dropL x L).1 = admN (dropN x L) := by
  unfold dropL dropN
  cases hm : m_lix L x with
  | none =>
    show L = admN L
    unfold admN
    have : m_adm L.2.2.2 L.1 (L.1 - L.2.1) L.2.1 = L.2.1 := by
      by_cases hlt : L.2.1 < L.1
      · rw [show L.1 - L.2.1 = (L.1 - L.2.1 - 1) + 1 by omega]
        unfold m_adm
        rw [if_neg (fun z => by rw [hs hlt] at z; cases z.2)]
      · rw [show L.1 - L.2.1 = 0 by omega]; rfl
    rw [this]
  | some a => rfl
theorem lix_some {L : mL} {x a : Nat} (h : m_lix L x = some a) : a < L.1 ∧ L.2.2.1 a = x := by
  obtain ⟨-, g2, g3, -⟩ := m_ix_some _ _ _ h
  exact ⟨by omega, by simpa using g3⟩
theorem CL1_drop {L : mL} {n x : Nat} {l : List lA} (h : CL1 L n l) : ((l.filter (fun q => !decide (q.2.1 = x))).filter (fun q => decide (q.1 = n))).map Prod.snd = l_ln (dropN x L) ∧ CLd (dropN x L) := by
  obtain ⟨h1, h2, h3, h4, h5, h6⟩ := h
  have hcomm : ((l.filter (fun q => !decide (q.2.1 = x))).filter (fun q => decide (q.1 = n))).map Prod.snd = (l_ln L).filter (fun t => !decide (t.1 = x)) := by
    rw [← h1, List.filter_map, List.filter_filter, List.filter_filter]
    congr 1
    refine List.filter_congr (fun q _ => ?_)
    exact Bool.and_comm _ _
  rw [hcomm]
  unfold dropN
  cases hm : m_lix L x with
  | none =>
    refine ⟨?_, h2, h3, h4, h5⟩
    refine List.filter_eq_self.mpr (fun t ht => ?_)
    obtain ⟨i, hi, rfl⟩ := List.mem_map.mp ht
    have hi := List.mem_range.mp hi
    have := m_ix_none _ _ hm i (by omega) (by omega)
    simpa using this
  | some a =>
    obtain ⟨ha, hax⟩ := lix_some hm
    dsimp only
    have hsh : ∀ i, i < L.1 - 1 → m_sh L.2.2.1 a (L.1 - 1) i = L.2.2.1 (shi a i) := fun i hi => m_sh_i hi
    have hsa : ∀ i, i < L.1 - 1 → m_sh L.2.2.2 a (L.1 - 1) i = L.2.2.2 (shi a i) := fun i hi => m_sh_i hi
    have hhs := h2.2.1
    refine ⟨?_, ⟨by show L.1 - 1 ≤ 20; have := h2.1; omega, ?_, fun i hi => ?_⟩, fun i hi => ?_, fun i j hi hj hij => ?_, fun i hi hl => ?_⟩
    · unfold l_ln
      rw [fl_drop (a := a) ha (fun i hi => ?_)]
      · dsimp only
        refine List.map_congr_left (fun i hi => ?_)
        have hi := List.mem_range.mp hi
        rw [hsh i hi, hsa i hi]
        congr 2
        rw [decide_eq_decide]
        unfold shi
        by_cases c1 : a ≤ i
        · rw [if_pos c1]
          by_cases c2 : a < L.2.1
          · rw [if_pos c2]; omega
          · rw [if_neg c2]; omega
        · rw [if_neg c1]
          by_cases c2 : a < L.2.1
          · rw [if_pos c2]; omega
          · rw [if_neg c2]
      · simp only [Bool.not_eq_false', decide_eq_true_eq]
        exact ⟨fun z => h4 i a hi ha (by rw [z, hax]), fun z => by rw [z, hax]⟩
    · show (if a < L.2.1 then L.2.1 - 1 else L.2.1) ≤ L.1 - 1
      split <;> omega
    · have hi : i < L.1 - 1 := hi
      show m_sh L.2.2.1 a (L.1 - 1) i ≤ 20
      rw [hsh i hi]; exact h2.2.2 _ (shi_lt hi)
    · have hi : i < L.1 - 1 := hi
      show 1 ≤ m_sh L.2.2.1 a (L.1 - 1) i
      rw [hsh i hi]; exact h3 _ (shi_lt hi)
    · have hi : i < L.1 - 1 := hi
      have hj : j < L.1 - 1 := hj
      have hij : m_sh L.2.2.1 a (L.1 - 1) i = m_sh L.2.2.1 a (L.1 - 1) j := hij
      rw [hsh i hi, hsh j hj] at hij
      exact shi_inj (h4 _ _ (shi_lt hi) (shi_lt hj) hij)
    · have hi : i < (if a < L.2.1 then L.2.1 - 1 else L.2.1) := hi
      have hl : m_sh L.2.2.2 a (L.1 - 1) i = true := hl
      show (if a < L.2.1 then L.2.1 - 1 else L.2.1) = 1
      by_cases c2 : a < L.2.1
      · rw [if_pos c2] at hi ⊢
        rw [hsa i (by omega)] at hl
        have := h5 (shi a i) (by have := shi_lt (j := a) (j' := i) (c := L.2.1) hi; omega) hl
        omega
      · rw [if_neg c2] at hi ⊢
        rw [hsa i (by omega)] at hl
        rw [show shi a i = i by unfold shi; rw [if_neg (by omega)]] at hl
        exact h5 i hi hl
theorem cA_s {an : Nat → Nat} {n k : Nat} : cA an n (k + 1) = cA an n k + (if an k = n then 1 else 0) := by
  unfold cA
  rw [m_cnt_s]
  by_cases h : an k = n
  · rw [if_pos h, if_pos (by simp [h])]
  · rw [if_neg h, if_neg (by simp [h])]
/-- grant in the reference, and what the class does for it -/
theorem gr_spec {s n K : Nat} {lj : Nat → Nat} {la : Nat → Bool} {an aj : Nat → Nat} {aa : Nat → Bool} : ∀ (f k : Nat) (aw : Nat → Bool) (h : Nat), f + k = K → LF (s, h, lj, la) n K an aj aa aw → (∀ i, i < h → la i = true → h = 1) → cA an n k ≤ h → h ≤ s →
    LF (s, m_adm la s (s - h) h, lj, la) n K an aj aa (r_gr an aa K n f k aw) ∧ (∀ j, an j ≠ n → r_gr an aa K n f k aw j = aw j) ∧ ∀ i, i < m_adm la s (s - h) h → la i = true → m_adm la s (s - h) h = 1
  | 0, k, aw, h, hk, hL, hal, hc, hs => by
    have hks : s = cA an n K := hL.1
    have e : h = s := by
      rw [show k = K by omega] at hc
      omega
    rw [show s - h = 0 by omega]
    exact ⟨hL, fun _ _ => rfl, hal⟩
  | f + 1, k, aw, h, hk, hL, hal, hc, hs => by
    obtain ⟨hL1, hL2⟩ := id hL
    have hL1 : s = cA an n K := hL1
    unfold r_gr
    by_cases hn : an k = n
    · obtain ⟨b1, b2, b3⟩ := hL2 k (by omega) hn
      have b2 : aa k = la (cA an n k) := b2
      have b3 : aw k = decide (h ≤ cA an n k) := b3
      have hlt := cA_lt (K := K) (show k < K by omega) hn
      have hc1 : cA an n (k + 1) = cA an n k + 1 := by rw [cA_s, if_pos hn]
      by_cases hw : aw k = true
      · rw [if_pos ⟨hn, hw⟩]
        have hh : h = cA an n k := by
          rw [hw] at b3
          have : h ≤ cA an n k := by simpa using b3.symm
          omega
        rw [c_can hL hs hal, b2, ← hh]
        show LF (s, _, lj, la) n K an aj aa (if m_can la h (la h) = true then _ else aw) ∧ _
        have hsf : s - h = (s - (h + 1)) + 1 := by omega
        by_cases hcn : m_can la h (la h) = true
        · rw [if_pos hcn]
          have hadm : m_adm la s (s - h) h = m_adm la s (s - (h + 1)) (h + 1) := by
            rw [hsf]
            rw [m_adm, if_pos ⟨by omega, hcn⟩]
          rw [hadm]
          have hrec := gr_spec (s := s) (n := n) (K := K) (lj := lj) (la := la) (an := an) (aj := aj) (aa := aa) f (k + 1) (va_up aw k false) (h + 1) (by omega) ⟨hL1, fun k' hk' hn' => ?_⟩ (fun i hi hl => ?_) (by omega) (by omega)
          · refine ⟨hrec.1, fun j hj => ?_, hrec.2.2⟩
            rw [hrec.2.1 j hj, va_up_ne _ _ (fun z => hj (by rw [z]; exact hn))]
          · obtain ⟨c1, c2, c3⟩ := hL2 k' hk' hn'
            have c3 : aw k' = decide (h ≤ cA an n k') := c3
            refine ⟨c1, c2, ?_⟩
            show va_up aw k false k' = decide (h + 1 ≤ cA an n k')
            by_cases e : k' = k
            · rw [e, va_up_self]; simp; omega
            · rw [va_up_ne _ _ e, c3, decide_eq_decide]
              have hne : cA an n k' ≠ h := fun z => by
                rcases Nat.lt_or_gt_of_ne e with q | q
                · have := cA_lt (an := an) (n := n) q hn'; omega
                · have := cA_lt (an := an) (n := n) q hn; omega
              omega
          · unfold m_can at hcn
            simp only [Bool.or_eq_true, decide_eq_true_eq, Bool.and_eq_true, Bool.not_eq_true'] at hcn
            rcases hcn with h0 | ⟨d1, d2⟩
            · omega
            · by_cases e : i = h
              · rw [e, d1] at hl; cases hl
              · have := hal i (by omega) hl
                rw [show i = 0 by omega, d2] at hl; cases hl
        · rw [if_neg hcn]
          have hadm : m_adm la s (s - h) h = h := by
            rw [hsf, m_adm, if_neg (fun z => hcn z.2)]
          rw [hadm]
          exact ⟨hL, fun _ _ => rfl, hal⟩
      · rw [if_neg (fun z => hw z.2)]
        have : ¬ h ≤ cA an n k := fun z => hw (by rw [b3]; simpa using z)
        exact gr_spec f (k + 1) aw h (by omega) hL hal (by omega) hs
    · rw [if_neg (fun z => hn z.1)]
      exact gr_spec f (k + 1) aw h (by omega) hL hal (by rw [cA_s, if_neg hn]; exact hc) hs
theorem m_adm_st {la : Nat → Bool} {s : Nat} : ∀ (f h : Nat), s - h ≤ f → h ≤ s → m_adm la s f h < s → m_can la (m_adm la s f h) (la (m_adm la s f h)) = false
  | 0, h, h1, h2, h3 => by
    have h3 : h < s := h3
    omega
  | f + 1, h, h1, h2, h3 => by
    unfold m_adm at h3 ⊢
    by_cases hc : h < s ∧ m_can la h (la h) = true
    · rw [if_pos hc] at h3 ⊢
      exact m_adm_st f (h + 1) (by omega) (by omega) h3
    · rw [if_neg hc] at h3 ⊢
      cases hq : m_can la h (la h)
      · rfl
      · exact absurd ⟨h3, hq⟩ hc
theorem LF_aw {L : mL} {n K : Nat} {an aj : Nat → Nat} {aa aw aw' : Nat → Bool} (h : LF L n K an aj aa aw) (he : ∀ k, k < K → an k = n → aw' k = aw k) : LF L n K an aj aa aw' := ⟨h.1, fun k hk hn => by rw [he k hk hn]; exact h.2 k hk hn⟩
theorem c_gall {K : Nat} {an aj : Nat → Nat} {aa aw : Nat → Bool} {Ls : Nat → mL} (h : ∀ n, n < 100 → LF (Ls n) n K an aj aa aw ∧ CLd (Ls n)) : ∀ m, m ≤ 100 → ∀ n, n < 100 → LF (if n < m then admN (Ls n) else Ls n) n K an aj aa (r_gall an aa K aw m)
  | 0, _, n, hn => by rw [if_neg (by omega)]; exact (h n hn).1
  | m + 1, hm, n, hn => by
    have ih := c_gall h m (by omega) n hn
    by_cases e : n = m
    · subst e
      rw [if_neg (by omega)] at ih
      rw [if_pos (by omega)]
      have hd := (h n hn).2
      exact (gr_spec K 0 _ _ (by omega) ih hd.2.2.2 (Nat.zero_le _) hd.1.2.1).1
    · have e2 : (if n < m + 1 then admN (Ls n) else Ls n) = if n < m then admN (Ls n) else Ls n := by
        by_cases c : n < m
        · rw [if_pos c, if_pos (by omega)]
        · rw [if_neg c, if_neg (by omega)]
      rw [e2]
      refine LF_aw ih (fun k hk hkn => ?_)
      have ihm := c_gall h m (by omega) m (by omega)
      rw [if_neg (by omega)] at ihm
      have hd := (h m (by omega)).2
      exact (gr_spec K 0 _ _ (by omega) ihm hd.2.2.2 (Nat.zero_le _) hd.1.2.1).2.1 k (by omega)
theorem dropC_cnt {L : mL} {x : Nat} (hd : ∀ i j, i < L.1 → j < L.1 → L.2.2.1 i = L.2.2.1 j → i = j) : (dropL x L).2 = m_cnt (fun i => decide (L.2.2.1 i = x) && !decide (L.2.1 ≤ i)) L.1 := by
  unfold dropL
  cases hm : m_lix L x with
  | none =>
    rw [m_cnt_z (n := 0) (Nat.zero_le _) (fun i _ hi => ?_)]
    · rfl
    · have := m_ix_none _ _ hm i (by omega) (by omega)
      simp only [decide_eq_false_iff_not] at this
      simp [this]
  | some a =>
    obtain ⟨ha, hax⟩ := lix_some hm
    rw [m_cnt_uq ha (fun i hi hne => ?_)]
    · show (if a < L.2.1 then 1 else 0) = _
      by_cases c : a < L.2.1
      · rw [if_pos c, if_pos (by simp [hax]; omega)]
      · rw [if_neg c, if_neg (by simp [hax]; omega)]
    · have : L.2.2.1 i ≠ x := fun z => hne (hd i a hi ha (by rw [z, hax]))
      simp [this]
theorem c_free {M : mM} {R : mR} (h : Cpl M R) (x : Int32) : Res R (x_free M x) (y_free R x) := by
  unfold x_free y_free
  by_cases hc : 1 ≤ x ∧ x ≤ 20
  · rw [if_pos hc, if_pos (i32_jb.mpr hc)]
    obtain ⟨g1, g2⟩ := hc
    obtain ⟨xn, hxn, rfl⟩ := m_nn (Int32.le_trans (by decide) g1)
    have x20 := (nI_leI (b := 20) hxn (by decide)).mp g2
    rw [nI_clamp (n := xn) hxn]
    obtain ⟨⟨a1, a2, a3, a4⟩, b, cN, cS, cV, cT, cF, cU, cL⟩ := id h
    have hbK := b.2.2.2.2.2.2
    have hnm : ∀ k, k < rK R → rAn R k < 100 := fun k hk => (hbK.2 k hk).1
    -- the answer
    have hans : m_sum (fun n => dropC xn (M.2.2.2.2 n)) 100 = (r_fF R xn).1 := by
      unfold r_fF
      rw [fs_held, ← m_names (an := rAn R) (w := fun k => decide (rAj R k = xn) && !rAw R k) hnm]
      refine m_sum_cong _ (fun n hn => ?_)
      have hL := cL.1 n hn
      have hLF := LF_of hL.1
      have q : dropC xn (M.2.2.2.2 n) = (dropL xn ((M.2.2.2.2 n).getD mL0)).2 := by
        unfold dropC
        cases M.2.2.2.2 n <;> rfl
      rw [q, dropC_cnt hL.2.2.2.1]
      exact (LF_cnt hLF (w := fun k => decide (rAj R k = xn) && !rAw R k) (q := fun i => decide (((M.2.2.2.2 n).getD mL0).2.2.1 i = xn) && !decide (((M.2.2.2.2 n).getD mL0).2.1 ≤ i)) (fun k hk e => by rw [(hLF.2 k hk e).1, (hLF.2 k hk e).2.2])).symm
    -- the asks that stay
    have hR1 : r_as (freR R xn 0) = (r_as R).filter (fun q => !decide (q.2.1 = xn)) := fs_list (rK R)
    have hLs : ∀ n, n < 100 → LF (dropN xn ((M.2.2.2.2 n).getD mL0)) n (r_fF R xn).2.1 (r_fF R xn).2.2.1 (r_fF R xn).2.2.2.1 (r_fF R xn).2.2.2.2.1 (r_fF R xn).2.2.2.2.2 ∧ CLd (dropN xn ((M.2.2.2.2 n).getD mL0)) := fun n hn => by
      have := CL1_drop (x := xn) (cL.1 n hn)
      rw [← hR1] at this
      exact ⟨LF_of this.1, this.2⟩
    have hall := c_gall hLs 100 (Nat.le_refl _)
    have hnew : ∀ n, n < 100 → CL1 ((dropO xn (M.2.2.2.2 n)).getD mL0) n (r_as (freR R xn 100)) := fun n hn => by
      have hL := cL.1 n hn
      have e1 : (dropO xn (M.2.2.2.2 n)).getD mL0 = (dropL xn ((M.2.2.2.2 n).getD mL0)).1 := by
        unfold dropO
        cases M.2.2.2.2 n <;> rfl
      rw [e1, dropL_eq hL.2.2.2.2.2 hL.2.1.2.1]
      have h1 := hall n hn
      rw [if_pos hn] at h1
      obtain ⟨d1, d2, d3, d4⟩ := (hLs n hn).2
      have hm := m_adm_le (dropN xn ((M.2.2.2.2 n).getD mL0)).2.2.2 (dropN xn ((M.2.2.2.2 n).getD mL0)).1 ((dropN xn ((M.2.2.2.2 n).getD mL0)).1 - (dropN xn ((M.2.2.2.2 n).getD mL0)).2.1) _ d1.2.1
      refine ⟨LF_to (R := freR R xn 100) h1, ⟨d1.1, hm.2, d1.2.2⟩, d2, d3, (gr_spec (r_fF R xn).2.1 0 _ _ (by omega) (hLs n hn).1 d4 (Nat.zero_le _) d1.2.1).2.2, fun hlt => m_adm_st _ _ (Nat.le_refl _) d1.2.1 hlt⟩
    have hF := r_fs_le R xn (rK R)
    refine ⟨by show nI _ = nI _; rw [hans], ⟨⟨a1, a2, a3, fun n L hL => ?_⟩, ?_, cN, cS, cV, cT, cF, cU, ⟨fun n hn => ?_, fun q hq => ?_⟩⟩, by show (r_fs R xn (rK R)).2.1 ≤ _; omega⟩
    · have hL : (if n < 100 then dropO xn (M.2.2.2.2 n) else M.2.2.2.2 n) = some L := hL
      by_cases c : n < 100
      · rw [if_pos c] at hL
        have := (hnew n c).2.1
        rw [hL] at this
        exact this
      · rw [if_neg c] at hL
        exact a4 n L hL
    · obtain ⟨b1, b2, b3, b4, b5, b6, b7⟩ := b
      exact ⟨b1, b2, b3, b4, b5, b6, Nat.le_trans hF.1 b7.1, fun k hk => r_fs_b R xn (rK R) b7.2 k hk⟩
    · show CL1 ((if n < 100 then dropO xn (M.2.2.2.2 n) else M.2.2.2.2 n).getD mL0) n _
      rw [if_pos hn]
      exact hnew n hn
    · obtain ⟨k, hk, rfl⟩ := r_as_mem.mp hq
      exact (r_fs_b R xn (rK R) hbK.2 k hk).1
  · rw [if_neg hc, if_neg (fun z => hc (i32_jb.mp z))]; exact Res_id h
theorem c_init (x : Int32) : Cpl (mM0 x) (mR0 x) := by
  have hb := m_clamp_b x
  have hmn : ∀ k, k < 732 → rMn (mR0 x) k = none := fun k hk => if_pos hk
  refine ⟨⟨hb.2, Nat.zero_le _, (fun i S h => by cases h), (fun n L h => by cases h)⟩, ⟨hb.2, Nat.zero_le _, fun t _ => Nat.zero_le _, fun s h1 h2 => absurd (show s ≤ 0 from h2) (by omega), fun s _ _ => rfl, fun k hk => ⟨Nat.zero_le _, Nat.zero_le _, fun b' hb' => by rw [hmn k hk] at hb'; cases hb'⟩, Nat.zero_le _, fun k hk => absurd hk (Nat.not_lt_zero _)⟩, rfl, rfl, ⟨fun t _ => ⟨(fun z => by cases z), (fun z => absurd rfl z)⟩, fun t _ z => absurd rfl z⟩, fun i => Or.inl ⟨rfl, fun hi => absurd hi (Nat.not_lt_zero _)⟩, fun s h1 h2 => ⟨rfl, rfl, rfl, fun k hk => hmn _ (by omega), fun j hj => ⟨rfl, rfl⟩⟩, fun s s' h1 h2 => absurd (show s ≤ 0 from h2) (by omega), fun n hn => ⟨rfl, ⟨Nat.zero_le _, Nat.zero_le _, fun i hi => absurd hi (Nat.not_lt_zero _)⟩, fun i hi => absurd hi (Nat.not_lt_zero _), fun i j hi => absurd hi (Nat.not_lt_zero _), fun i hi => absurd hi (Nat.not_lt_zero _), fun hlt => absurd hlt (Nat.not_lt_zero _)⟩, fun q hq => ?_⟩
  exact absurd hq List.not_mem_nil
