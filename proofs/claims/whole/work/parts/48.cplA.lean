theorem m_sum_add {f g : Nat → Nat} : ∀ n, m_sum (fun i => f i + g i) n = m_sum f n + m_sum g n
  | 0 => rfl
  | n + 1 => by
    show m_sum (fun i => f i + g i) n + (f n + g n) = m_sum f n + f n + (m_sum g n + g n)
    rw [m_sum_add n]
    omega
theorem m_sum_0 : ∀ n, m_sum (fun _ => 0) n = 0
  | 0 => rfl
  | n + 1 => by
    show m_sum (fun _ => 0) n + 0 = 0
    rw [m_sum_0 n]
theorem m_sum_one {i v : Nat} : ∀ {n : Nat}, i < n → m_sum (fun j => if i = j then v else 0) n = v
  | 0, h => absurd h (Nat.not_lt_zero _)
  | n + 1, h => by
    show m_sum (fun j => if i = j then v else 0) n + (if i = n then v else 0) = v
    by_cases e : i = n
    · rw [if_pos e, m_sum_cong (f' := fun _ => 0) n (fun j hj => if_neg (by omega)), m_sum_0]
      omega
    · rw [if_neg e, m_sum_one (by omega)]
      rfl
/-- counted by names, or at once -/
theorem m_names {an : Nat → Nat} {w : Nat → Bool} : ∀ {K : Nat}, (∀ k, k < K → an k < 100) → m_sum (fun n => m_cnt (fun k => decide (an k = n) && w k) K) 100 = m_cnt w K
  | 0, _ => m_sum_0 100
  | K + 1, h => by
    have e : (fun n => m_cnt (fun k => decide (an k = n) && w k) (K + 1)) = fun n => m_cnt (fun k => decide (an k = n) && w k) K + (if an K = n then (if w K = true then 1 else 0) else 0) := by
      funext n
      rw [m_cnt_s]
      by_cases h1 : an K = n
      · rw [if_pos h1]; simp [h1]
      · rw [if_neg h1]; simp [h1]
    rw [e, m_sum_add, m_names (fun k hk => h k (by omega)), m_sum_one (h K (by omega)), m_cnt_s]
theorem m_cnt_comp {p q : Nat → Bool} : ∀ {K : Nat}, m_cnt (fun k => p k && q (m_cnt p k)) K = m_cnt q (m_cnt p K)
  | 0 => rfl
  | K + 1 => by
    rw [m_cnt_s, m_cnt_comp, m_cnt_s]
    by_cases hp : p K = true
    · rw [if_pos hp, m_cnt_s]; simp [hp]
    · rw [if_neg hp]; simp [hp]
theorem LF_cnt {L : mL} {n K : Nat} {an aj : Nat → Nat} {aa aw : Nat → Bool} (h : LF L n K an aj aa aw) {w : Nat → Bool} {q : Nat → Bool} (hq : ∀ k, k < K → an k = n → w k = q (cA an n k)) : m_cnt (fun k => decide (an k = n) && w k) K = m_cnt q L.1 := by
  rw [h.1]
  unfold cA
  rw [← m_cnt_comp]
  refine m_cnt_cong K (fun k hk => ?_)
  by_cases e : an k = n
  · rw [hq k hk e]; rfl
  · simp [e]
theorem m_cnt_lo {h : Nat} : ∀ {s : Nat}, h ≤ s → m_cnt (fun i => !decide (h ≤ i)) s = h
  | 0, hh => by rw [show h = 0 by omega]; rfl
  | s + 1, hh => by
    rw [m_cnt_s]
    by_cases e : h = s + 1
    · subst e
      rw [m_cnt_all (fun j hj => by simp; omega), if_pos (by simp)]
    · rw [m_cnt_lo (show h ≤ s by omega), if_neg (by simp; omega)]
      rfl
theorem m_cnt_hi {h : Nat} : ∀ {s : Nat}, h ≤ s → m_cnt (fun i => decide (h ≤ i)) s = s - h
  | 0, hh => by rw [show h = 0 by omega]; rfl
  | s + 1, hh => by
    rw [m_cnt_s]
    by_cases e : h = s + 1
    · subst e
      rw [m_cnt_cong (g' := fun _ => false) s (fun j hj => by simp; omega), if_neg (by simp)]
      have : ∀ n, m_cnt (fun _ => false) n = 0 := fun n => by
        induction n with
        | zero => rfl
        | succ n ih => rw [m_cnt_s, ih]; rfl
      rw [this]; omega
    · rw [m_cnt_hi (show h ≤ s by omega), if_pos (by simp; omega)]
      omega
theorem m_cnt_z {p : Nat → Bool} {n : Nat} : ∀ {c : Nat}, n ≤ c → (∀ j, n ≤ j → j < c → p j = false) → m_cnt p c = m_cnt p n
  | 0, h, _ => by rw [show n = 0 by omega]
  | c + 1, h, hz => by
    by_cases hn : n = c + 1
    · rw [hn]
    · rw [m_cnt_s, if_neg (by rw [hz c (by omega) (by omega)]; decide), m_cnt_z (by omega) (fun j h1 h2 => hz j h1 (by omega))]
      rfl
theorem m_cnt_uq {q : Nat → Bool} {a : Nat} : ∀ {s : Nat}, a < s → (∀ i, i < s → i ≠ a → q i = false) → m_cnt q s = if q a = true then 1 else 0
  | 0, h, _ => absurd h (Nat.not_lt_zero _)
  | s + 1, h, hz => by
    rw [m_cnt_s]
    by_cases e : a = s
    · subst e
      rw [m_cnt_z (n := 0) (Nat.zero_le _) (fun j _ hj => hz j (by omega) (by omega))]
      exact Nat.zero_add _
    · rw [m_cnt_uq (by omega) (fun i hi hne => hz i (by omega) hne), if_neg (c := q s = true) (by rw [hz s (by omega) (by omega)]; decide)]
      rfl
theorem c_free0 {M : mM} {R : mR} (h : Cpl M R) : ∀ j, j < M.1 → (!M.2.1 j) = r_fr R j := fun j hj => by
  have := h.2.2.2.2.1.1 j hj
  unfold r_fr
  cases hk : M.2.1 j with
  | true => have h0 := this.mp hk; simp [h0]
  | false =>
    have h0 : rO R j = 0 := Classical.byContradiction (fun z => by rw [this.mpr z] at hk; cases hk)
    simp [h0]
theorem c_space {M : mM} {R : mR} (h : Cpl M R) (x : Int32) : Res R (x_space M x) (y_space R x) := by
  obtain ⟨⟨a1, a2, a3, a4⟩, b, cN, cS, cV, cT, cF, cU, cL⟩ := id h
  refine ⟨?_, h, Nat.le_succ _⟩
  have hfr := c_free0 h
  have hs60 := b.2.1
  have hnm : ∀ k, k < rK R → rAn R k < 100 := fun k hk => (b.2.2.2.2.2.2.2 k hk).1
  have e0 : m_cnt (fun t => !M.2.1 t) M.1 = m_cnt (r_fr R) (rN R) := by rw [cN]; exact m_cnt_cong _ hfr
  have e1 : m_long (fun t => !M.2.1 t) M.1 = m_long (r_fr R) (rN R) := by rw [cN]; exact m_long_cong _ hfr
  have e2 : m_cnt (fun i => (M.2.2.2.1 i).isSome) 60 = m_cnt (fun i => !rG R (i + 1)) (rS R) := by
    rw [m_cnt_z (n := rS R) hs60 (fun j h1 h2 => ?_)]
    · refine m_cnt_cong _ (fun j hj => ?_)
      rcases cT j with ⟨d1, d2⟩ | ⟨S, d1, d2, d3, d4⟩
      · rw [d1, d2 hj]; rfl
      · rw [d1, d3]; rfl
    · rcases cT j with ⟨d1, d2⟩ | ⟨S, d1, d2, d3, d4⟩
      · rw [d1]; rfl
      · omega
  have e3 : m_sum (m_exts M.2.2.2.1) 60 = m_sum (fun i => if rG R (i + 1) = true then 0 else rMy R (i + 1)) (rS R) := by
    rw [m_sum_z (n := rS R) hs60 (fun j h1 h2 => ?_)]
    · refine m_sum_cong _ (fun j hj => ?_)
      unfold m_exts
      rcases cT j with ⟨d1, d2⟩ | ⟨S, d1, d2, d3, d4⟩
      · rw [d1, if_pos (d2 hj)]
      · rw [d1, if_neg (by rw [d3]; decide)]; exact d4.2.1.1
    · unfold m_exts
      rcases cT j with ⟨d1, d2⟩ | ⟨S, d1, d2, d3, d4⟩
      · rw [d1]
      · omega
  have hw : ∀ n, n < 100 → m_waits M.2.2.2.2 n = m_cnt (fun k => decide (rAn R k = n) && rAw R k) (rK R) ∧ m_holds M.2.2.2.2 n = m_cnt (fun k => decide (rAn R k = n) && !rAw R k) (rK R) := fun n hn => by
    have hL := cL.1 n hn
    have hLF := LF_of hL.1
    have q1 : m_waits M.2.2.2.2 n = ((M.2.2.2.2 n).getD mL0).1 - ((M.2.2.2.2 n).getD mL0).2.1 := by
      unfold m_waits
      cases M.2.2.2.2 n <;> rfl
    have q2 : m_holds M.2.2.2.2 n = ((M.2.2.2.2 n).getD mL0).2.1 := by
      unfold m_holds
      cases M.2.2.2.2 n <;> rfl
    rw [q1, q2]
    have hle := hL.2.1.2.1
    exact ⟨by rw [LF_cnt hLF (q := fun i => decide (((M.2.2.2.2 n).getD mL0).2.1 ≤ i)) (fun k hk e => (hLF.2 k hk e).2.2), m_cnt_hi hle], by rw [LF_cnt hLF (w := fun k => !rAw R k) (q := fun i => !decide (((M.2.2.2.2 n).getD mL0).2.1 ≤ i)) (fun k hk e => by rw [(hLF.2 k hk e).2.2]), m_cnt_lo hle]⟩
  have e5 : m_sum (m_waits M.2.2.2.2) 100 = m_cnt (rAw R) (rK R) := by
    rw [m_sum_cong (f' := fun n => m_cnt (fun k => decide (rAn R k = n) && rAw R k) (rK R)) 100 (fun n hn => (hw n hn).1), m_names hnm]
  have e4 : m_sum (m_holds M.2.2.2.2) 100 = m_cnt (fun k => !rAw R k) (rK R) := by
    rw [m_sum_cong (f' := fun n => m_cnt (fun k => decide (rAn R k = n) && !rAw R k) (rK R)) 100 (fun n hn => (hw n hn).2), m_names (w := fun k => !rAw R k) hnm]
  have e45 : ∀ K, m_cnt (fun k => !rAw R k) K + m_cnt (rAw R) K = K := fun K => by
    induction K with
    | zero => rfl
    | succ K ih =>
      rw [m_cnt_s, m_cnt_s]
      cases rAw R K <;> simp <;> omega
  have e46 := e45 (rK R)
  show (if x.toInt = 0 then _ else _) = if x.toInt = 0 then _ else _
  rw [e0, e1, e2, e3, e4, e5, pk_sub (a := rK R) (b := m_cnt (rAw R) (rK R)) (by omega), show rK R - m_cnt (rAw R) (rK R) = m_cnt (fun k => !rAw R k) (rK R) by omega]
theorem fs_list {R : mR} {x : Nat} : ∀ k, (List.range (r_fs R x k).2.1).map (fun j => (((r_fs R x k).2.2.1 j, (r_fs R x k).2.2.2.1 j, (r_fs R x k).2.2.2.2.1 j, (r_fs R x k).2.2.2.2.2 j) : lA)) = ((List.range k).map (fun k => ((rAn R k, rAj R k, rAa R k, rAw R k) : lA))).filter (fun q => !decide (q.2.1 = x))
  | 0 => rfl
  | k + 1 => by
    rw [List.range_succ (n := k), List.map_append, List.filter_append, ← fs_list k]
    by_cases hx : rAj R k = x
    · have e : r_fs R x (k + 1) = ((r_fs R x k).1 + (if rAw R k = true then 0 else 1), (r_fs R x k).2) := by rw [r_fs, if_pos hx]
      rw [e]
      simp [hx]
    · have e : r_fs R x (k + 1) = ((r_fs R x k).1, (r_fs R x k).2.1 + 1, va_up (r_fs R x k).2.2.1 (r_fs R x k).2.1 (rAn R k), va_up (r_fs R x k).2.2.2.1 (r_fs R x k).2.1 (rAj R k), va_up (r_fs R x k).2.2.2.2.1 (r_fs R x k).2.1 (rAa R k), va_up (r_fs R x k).2.2.2.2.2 (r_fs R x k).2.1 (rAw R k)) := by rw [r_fs, if_neg hx]
      rw [e]
      dsimp only
      rw [List.range_succ, List.map_append]
      congr 1
      · refine List.map_congr_left (fun j hj => ?_)
        have hj := List.mem_range.mp hj
        rw [va_up_ne _ _ (by omega), va_up_ne _ _ (by omega), va_up_ne _ _ (by omega), va_up_ne _ _ (by omega)]
      · simp [hx, va_up_self]
theorem fs_held {R : mR} {x : Nat} : ∀ k, (r_fs R x k).1 = m_cnt (fun k => decide (rAj R k = x) && !rAw R k) k
  | 0 => rfl
  | k + 1 => by
    rw [m_cnt_s, ← fs_held k, r_fs]
    by_cases hx : rAj R k = x
    · rw [if_pos hx]
      cases hw : rAw R k <;> simp [hx, hw]
    · rw [if_neg hx]
      simp [hx]
/-- a range but for one -/
theorem fl_drop {α : Type} {g : Nat → α} {p : α → Bool} {a : Nat} : ∀ {s : Nat}, a < s → (∀ i, i < s → (p (g i) = false ↔ i = a)) → ((List.range s).map g).filter p = (List.range (s - 1)).map (fun i => g (shi a i))
  | 0, h, _ => absurd h (Nat.not_lt_zero _)
  | s + 1, h, hp => by
    rw [List.range_succ, List.map_append, List.filter_append]
    by_cases e : a = s
    · subst e
      have h1 : ((List.range a).map g).filter p = (List.range a).map g := List.filter_eq_self.mpr (fun y hy => by
        obtain ⟨i, hi, rfl⟩ := List.mem_map.mp hy
        have hi := List.mem_range.mp hi
        cases hq : p (g i)
        · have := (hp i (by omega)).mp hq
          omega
        · rfl)
      rw [h1]
      have h2 : p (g a) = false := (hp a (by omega)).mpr rfl
      simp only [List.map_cons, List.map_nil, List.filter_cons, h2, List.filter_nil]
      rw [show a + 1 - 1 = a by omega]
      simp only [Bool.false_eq_true, if_false, List.append_nil]
      refine List.map_congr_left (fun i hi => ?_)
      have hi := List.mem_range.mp hi
      unfold shi
      rw [if_neg (by omega)]
    · rw [fl_drop (s := s) (by omega) (fun i hi => hp i (by omega))]
      have h2 : p (g s) = true := by
        cases hq : p (g s)
        · exact absurd ((hp s (by omega)).mp hq).symm e
        · rfl
      rw [show s + 1 - 1 = (s - 1) + 1 by omega, List.range_succ, List.map_append]
      congr 1
      simp only [List.map_cons, List.map_nil, List.filter_cons, h2, List.filter_nil, if_true]
      rw [show shi a (s - 1) = s by unfold shi; rw [if_pos (by omega)]; omega]
