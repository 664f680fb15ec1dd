/-! lines and asks -/
def cA (an : Nat → Nat) (n k : Nat) : Nat := m_cnt (fun j => decide (an j = n)) k
def LF (L : mL) (n K : Nat) (an aj : Nat → Nat) (aa aw : Nat → Bool) : Prop := L.1 = cA an n K ∧ ∀ k, k < K → an k = n → aj k = L.2.2.1 (cA an n k) ∧ aa k = L.2.2.2 (cA an n k) ∧ aw k = decide (L.2.1 ≤ cA an n k)
theorem m_cnt_s {p : Nat → Bool} {k : Nat} : m_cnt p (k + 1) = m_cnt p k + (if p k = true then 1 else 0) := rfl
theorem m_cnt_lt {p : Nat → Bool} {k : Nat} (hp : p k = true) : ∀ {K : Nat}, k < K → m_cnt p k < m_cnt p K
  | 0, h => absurd h (Nat.not_lt_zero _)
  | K + 1, h => by
    rw [m_cnt_s]
    by_cases hk : k = K
    · subst hk; rw [if_pos hp]; omega
    · have := m_cnt_lt hp (K := K) (by omega)
      omega
/-- filtered ranges -/
theorem fl_len {α : Type} {f : Nat → α} {p : α → Bool} : ∀ K, (((List.range K).map f).filter p).length = m_cnt (fun k => p (f k)) K
  | 0 => rfl
  | K + 1 => by
    rw [List.range_succ, List.map_append, List.filter_append, List.length_append, fl_len K, m_cnt_s]
    by_cases hp : p (f K) = true
    · rw [if_pos hp]; simp [hp]
    · rw [if_neg hp]; simp [hp]
theorem fl_get {α : Type} {f : Nat → α} {p : α → Bool} : ∀ {K k : Nat}, k < K → p (f k) = true → (((List.range K).map f).filter p)[m_cnt (fun k => p (f k)) k]? = some (f k)
  | 0, k, h, _ => absurd h (Nat.not_lt_zero _)
  | K + 1, k, h, hp => by
    rw [List.range_succ, List.map_append, List.filter_append]
    by_cases hk : k = K
    · subst hk
      rw [List.getElem?_append_right (by rw [fl_len]; exact Nat.le_refl _), fl_len, Nat.sub_self]
      simp [hp]
    · rw [List.getElem?_append_left (by rw [fl_len]; exact m_cnt_lt (p := fun k => p (f k)) hp (by omega))]
      exact fl_get (by omega) hp
theorem fl_eq {α β : Type} {f : Nat → α} {p : α → Bool} {φ : α → β} {g : Nat → β} : ∀ {K s : Nat}, s = m_cnt (fun k => p (f k)) K → (∀ k, k < K → p (f k) = true → φ (f k) = g (m_cnt (fun k => p (f k)) k)) → (((List.range K).map f).filter p).map φ = (List.range s).map g
  | 0, s, hs, _ => by subst hs; rfl
  | K + 1, s, hs, h => by
    rw [List.range_succ, List.map_append, List.filter_append, List.map_append, fl_eq (K := K) rfl (fun k hk hp => h k (by omega) hp)]
    rw [m_cnt_s] at hs
    by_cases hp : p (f K) = true
    · rw [if_pos hp] at hs
      subst hs
      rw [List.range_succ, List.map_append]
      simp [hp, h K (by omega) hp]
    · rw [if_neg hp] at hs
      subst hs
      simp [hp]
theorem LF_of {L : mL} {n : Nat} {R : mR} (h : ((r_as R).filter (fun q => decide (q.1 = n))).map Prod.snd = l_ln L) : LF L n (rK R) (rAn R) (rAj R) (rAa R) (rAw R) := by
  have hlen : L.1 = cA (rAn R) n (rK R) := by
    have := congrArg List.length h
    rw [List.length_map, r_as, fl_len, l_ln, List.length_map, List.length_range] at this
    exact this.symm
  refine ⟨hlen, fun k hk hn => ?_⟩
  have hp : (fun q : lA => decide (q.1 = n)) (rAn R k, rAj R k, rAa R k, rAw R k) = true := by simp [hn]
  have h1 := fl_get (f := fun k => ((rAn R k, rAj R k, rAa R k, rAw R k) : lA)) (p := fun q => decide (q.1 = n)) hk hp
  have h2 : (((r_as R).filter (fun q => decide (q.1 = n))).map Prod.snd)[cA (rAn R) n k]? = some (rAj R k, rAa R k, rAw R k) := by
    rw [List.getElem?_map]
    unfold r_as cA
    rw [h1]
    rfl
  have hlt : cA (rAn R) n k < L.1 := by rw [hlen]; exact m_cnt_lt (p := fun j => decide (rAn R j = n)) (by simp [hn]) hk
  rw [h, l_ln, List.getElem?_map, List.getElem?_range hlt] at h2
  simp only [Option.map_some, Option.some.injEq, Prod.mk.injEq] at h2
  exact ⟨h2.1.symm, h2.2.1.symm, h2.2.2.symm⟩
theorem LF_to {L : mL} {n : Nat} {R : mR} (h : LF L n (rK R) (rAn R) (rAj R) (rAa R) (rAw R)) : ((r_as R).filter (fun q => decide (q.1 = n))).map Prod.snd = l_ln L := by
  unfold r_as l_ln
  refine fl_eq h.1 (fun k hk hp => ?_)
  have hn : rAn R k = n := by simpa using hp
  obtain ⟨a1, a2, a3⟩ := h.2 k hk hn
  show (rAj R k, rAa R k, rAw R k) = _
  rw [a1, a2, a3]
  rfl
theorem cA_onto {an : Nat → Nat} {n : Nat} : ∀ {K i : Nat}, i < cA an n K → ∃ k, k < K ∧ an k = n ∧ cA an n k = i
  | 0, i, h => absurd h (Nat.not_lt_zero _)
  | K + 1, i, h => by
    unfold cA at h
    rw [m_cnt_s] at h
    by_cases hlt : i < cA an n K
    · obtain ⟨k, h1, h2⟩ := cA_onto hlt
      exact ⟨k, by omega, h2⟩
    · unfold cA at hlt
      by_cases hp : decide (an K = n) = true
      · rw [if_pos hp] at h
        exact ⟨K, by omega, by simpa using hp, by unfold cA; omega⟩
      · rw [if_neg hp] at h; omega
theorem cA_lt {an : Nat → Nat} {n K k : Nat} (hk : k < K) (hn : an k = n) : cA an n k < cA an n K := m_cnt_lt (p := fun j => decide (an j = n)) (by simp [hn]) hk
/-- can the next one hold: both say alike -/
theorem c_can {L : mL} {n K : Nat} {an aj : Nat → Nat} {aa aw : Nat → Bool} (h : LF L n K an aj aa aw) (hh : L.2.1 ≤ L.1) (hal : ∀ i, i < L.2.1 → L.2.2.2 i = true → L.2.1 = 1) (al : Bool) : r_can an aa aw K n al = m_can L.2.2.2 L.2.1 al := by
  obtain ⟨h1, h2⟩ := h
  have key : m_any (r_pc an aa aw n al) K = true ↔ ∃ i, i < L.2.1 ∧ (al = true ∨ L.2.2.2 i = true) := by
    rw [m_any_t]
    constructor
    · rintro ⟨k, hk, hp⟩
      simp only [r_pc, Bool.and_eq_true, decide_eq_true_eq, Bool.not_eq_true', Bool.or_eq_true] at hp
      obtain ⟨p1, p2, p3⟩ := hp
      obtain ⟨-, a2, a3⟩ := h2 k hk p1
      rw [p2] at a3
      have : ¬ L.2.1 ≤ cA an n k := by simpa using a3.symm
      exact ⟨cA an n k, by omega, by rw [← a2]; exact p3⟩
    · rintro ⟨i, hi, ha⟩
      obtain ⟨k, k1, k2, k3⟩ := cA_onto (an := an) (n := n) (K := K) (i := i) (by omega)
      obtain ⟨-, a2, a3⟩ := h2 k k1 k2
      refine ⟨k, k1, ?_⟩
      simp only [r_pc, Bool.and_eq_true, decide_eq_true_eq, Bool.not_eq_true', Bool.or_eq_true]
      rw [a2, a3, k3]
      exact ⟨k2, by simp; omega, ha⟩
  rw [Bool.eq_iff_iff]
  unfold r_can m_can
  rw [Bool.not_eq_true', ← Bool.not_eq_true, key]
  simp only [Bool.or_eq_true, Bool.and_eq_true, decide_eq_true_eq, Bool.not_eq_true']
  constructor
  · intro hn
    by_cases h0 : L.2.1 = 0
    · exact Or.inl h0
    · right
      constructor
      · cases al
        · rfl
        · exact absurd ⟨0, by omega, Or.inl rfl⟩ hn
      · cases hl : L.2.2.2 0
        · rfl
        · exact absurd ⟨0, by omega, Or.inr hl⟩ hn
  · rintro (h0 | ⟨ha, h0⟩) ⟨i, hi, hx⟩
    · omega
    · rcases hx with hx | hx
      · rw [ha] at hx; cases hx
      · have := hal i hi hx
        rw [show i = 0 by omega, h0] at hx
        cases hx
theorem c_awaited {L : mL} {n K : Nat} {an aj : Nat → Nat} {aa aw : Nat → Bool} (h : LF L n K an aj aa aw) : m_any (r_pw an aw n) K = decide (L.2.1 < L.1) := by
  obtain ⟨h1, h2⟩ := h
  rw [Bool.eq_iff_iff, m_any_t, decide_eq_true_eq]
  constructor
  · rintro ⟨k, hk, hp⟩
    simp only [r_pw, Bool.and_eq_true, decide_eq_true_eq] at hp
    obtain ⟨-, -, a3⟩ := h2 k hk hp.1
    rw [hp.2] at a3
    have g1 : L.2.1 ≤ cA an n k := by simpa using a3.symm
    have g2 := cA_lt hk hp.1
    omega
  · intro hlt
    obtain ⟨k, k1, k2, k3⟩ := cA_onto (an := an) (n := n) (K := K) (i := L.2.1) (by omega)
    obtain ⟨-, -, a3⟩ := h2 k k1 k2
    exact ⟨k, k1, by simp [r_pw, k2, a3, k3]⟩
theorem c_asked {L : mL} {n x K : Nat} {an aj : Nat → Nat} {aa aw : Nat → Bool} (h : LF L n K an aj aa aw) : (∃ k, k < K ∧ an k = n ∧ aj k = x) ↔ m_lix L x ≠ none := by
  obtain ⟨h1, h2⟩ := h
  constructor
  · rintro ⟨k, hk, hn, hx⟩ hm
    obtain ⟨a1, -, -⟩ := h2 k hk hn
    have := m_ix_none _ _ hm (cA an n k) (by omega) (by have := cA_lt hk hn; omega)
    simp only [decide_eq_false_iff_not] at this
    exact this (by rw [← a1]; exact hx)
  · intro hm
    cases hl : m_lix L x with
    | none => exact absurd hl hm
    | some i =>
      obtain ⟨-, g2, g3, -⟩ := m_ix_some _ _ _ hl
      obtain ⟨k, k1, k2, k3⟩ := cA_onto (an := an) (n := n) (K := K) (i := i) (by omega)
      obtain ⟨a1, -, -⟩ := h2 k k1 k2
      exact ⟨k, k1, k2, by rw [a1, k3]; simpa using g3⟩
/-- drawers: numbers below n, each once -/
theorem m_pig : ∀ (n : Nat) (s : Nat) (f : Nat → Nat), (∀ i, i < s → f i < n) → (∀ i j, i < s → j < s → f i = f j → i = j) → s ≤ n
  | 0, s, f, h, _ => by
    rcases Nat.eq_zero_or_pos s with h0 | h0
    · omega
    · exact absurd (h 0 h0) (Nat.not_lt_zero _)
  | n + 1, s, f, h, hi => by
    by_cases hx : ∃ i, i < s ∧ f i = n
    · obtain ⟨i0, a1, a2⟩ := hx
      have := m_pig n (s - 1) (fun j => f (shi i0 j)) (fun j hj => by
        have g1 := h (shi i0 j) (shi_lt hj)
        have g2 : f (shi i0 j) ≠ n := fun z => shi_ne (hi _ _ (shi_lt hj) a1 (by rw [z, a2]))
        show f (shi i0 j) < n
        omega) (fun a b ha hb hab => shi_inj (hi _ _ (shi_lt ha) (shi_lt hb) hab))
      omega
    · have := m_pig n s f (fun i hi' => by
        have g1 := h i hi'
        have g2 : f i ≠ n := fun z => hx ⟨i, hi', z⟩
        omega) hi
      omega
theorem m_full {L : mL} {x : Nat} (hb : bLine L.1 L.2.1 L.2.2.1) (h1 : ∀ i, i < L.1 → 1 ≤ L.2.2.1 i) (hd : ∀ i j, i < L.1 → j < L.1 → L.2.2.1 i = L.2.2.1 j → i = j) (hx1 : 1 ≤ x) (hx : x ≤ 20) (hm : m_lix L x = none) : L.1 < 20 := by
  have hno : ∀ i, i < L.1 → L.2.2.1 i ≠ x := fun i hi z => by
    have := m_ix_none _ _ hm i (by omega) (by omega)
    simp [z] at this
  have := m_pig 20 (L.1 + 1) (fun i => if i = L.1 then x - 1 else L.2.2.1 i - 1) (fun i hi => by
    split
    · omega
    · have g1 := hb.2.2 i (by omega)
      have g2 := h1 i (by omega)
      omega) (fun i j hi hj hij => by
    by_cases ei : i = L.1
    · by_cases ej : j = L.1
      · omega
      · rw [if_pos ei, if_neg ej] at hij
        have g2 := h1 j (by omega)
        exact absurd (show L.2.2.1 j = x by omega) (hno j (by omega))
    · have g2 := h1 i (by omega)
      by_cases ej : j = L.1
      · rw [if_neg ei, if_pos ej] at hij
        exact absurd (show L.2.2.1 i = x by omega) (hno i (by omega))
      · rw [if_neg ei, if_neg ej] at hij
        have g3 := h1 j (by omega)
        exact hd i j (by omega) (by omega) (by omega))
  omega
