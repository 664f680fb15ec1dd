/-! pure words -/
theorem g_up_same {σ : gS} {a : Nat} {e : gE} (h : σ a = some e) : g_up σ a e = σ := by
  funext x
  by_cases hx : x = a
  · rw [hx, g_up_s, h]
  · rw [g_up_n hx]
theorem g_up_up {σ : gS} {a : Nat} {e e' : gE} : g_up (g_up σ a e) a e' = g_up σ a e' := by
  funext x
  by_cases hx : x = a
  · rw [hx, g_up_s, g_up_s]
  · rw [g_up_n hx, g_up_n hx, g_up_n hx]
theorem g_up_comm {σ : gS} {a b : Nat} {e e' : gE} (h : a ≠ b) : g_up (g_up σ a e) b e' = g_up (g_up σ b e') a e := by
  funext x
  by_cases hx : x = a
  · subst hx
    rw [g_up_n h, g_up_s, g_up_s]
  · by_cases hy : x = b
    · subst hy
      rw [g_up_s, g_up_n hx, g_up_s]
    · rw [g_up_n hy, g_up_n hx, g_up_n hx, g_up_n hy]
/-- a cell that is there is not the one that wasn't -/
theorem g_ne_new {σ : gS} {a q : Nat} {e : gE} (h : σ a = some e) (hq : σ q = none) : a ≠ q := fun z => by
  subst z
  rw [h] at hq
  cases hq
theorem g_ne_oi {σ : gS} {a b t n ci : Nat} {f : Nat → Int32} {fs : List Value} (h : σ a = some (g_ob ci fs)) (h' : σ b = some (g_ia t n f)) : a ≠ b := fun z => by
  subst z
  rw [h] at h'
  cases h'
theorem g_ne_io {σ : gS} {a b t n ci : Nat} {f : Nat → Int32} {fs : List Value} (h : σ b = some (g_ia t n f)) (h' : σ a = some (g_ob ci fs)) : b ≠ a := fun z => by
  subst z
  rw [h] at h'
  cases h'
theorem g_ne_oo {σ : gS} {a b ci cj : Nat} {fs gs : List Value} (h : σ a = some (g_ob ci fs)) (h' : σ b = some (g_ob cj gs)) (hc : ci ≠ cj) : a ≠ b := fun z => by
  subst z
  rw [h] at h'
  cases h'
  exact hc rfl
theorem g_ne_ii {σ : gS} {a b t n t' n' : Nat} {f g : Nat → Int32} (h : σ a = some (g_ia t n f)) (h' : σ b = some (g_ia t' n' g)) (hc : t ≠ t') : a ≠ b := fun z => by
  subst z
  rw [h] at h'
  cases h'
  exact hc rfl
def b2i (b : Bool) : Int32 := if b then 1 else 0
theorem b2i_t : b2i true = 1 := rfl
theorem b2i_f : b2i false = 0 := rfl
theorem b2i_01 (b : Bool) : b2i b = 0 ∨ b2i b = 1 := by cases b <;> simp [b2i]
theorem b2i_0 {b : Bool} : b2i b = 0 ↔ b = false := by cases b <;> simp [b2i]
theorem pk_b {A B : Prop} {x : Int32} (b : Bool) (f : b = false → A) (g : b = true → B) (hx : x = b2i b := by rfl) : (x = 0 → A) ∧ (¬ x = 0 → B) := by
  subst hx
  cases b
  · exact ⟨fun _ => f rfl, fun h => absurd rfl h⟩
  · exact ⟨fun h => absurd h (by decide), fun _ => g rfl⟩
theorem pk_bn {A B : Prop} {x : Int32} (b : Bool) (f : b = true → A) (g : b = false → B) (hx : x = b2i b := by rfl) : (¬ x = 0 → A) ∧ (¬ ¬ x = 0 → B) := by
  subst hx
  cases b
  · exact ⟨fun h => absurd rfl h, fun _ => g rfl⟩
  · exact ⟨fun _ => f rfl, fun h => absurd (by decide) h⟩
theorem pk_ne {x y : Int32} {A B : Prop} (a b : Nat) (f : a ≠ b → A) (g : a = b → B) (hx : x = nI a := by rfl) (hy : y = nI b := by rfl) (ha : a < 2 ^ 31 := by omega) (hb : b < 2 ^ 31 := by omega) : (¬ x = y → A) ∧ (¬ ¬ x = y → B) := by
  subst hx hy
  rw [nI_eq ha hb]
  exact ⟨f, fun h => g (Classical.byContradiction h)⟩
/-- a place, or -1 -/
def oI (o : Option Nat) : Int32 := match o with
  | none => -1
  | some a => nI a
theorem oI_ne {a : Nat} (h : a < 2 ^ 31) : ¬ nI a = -1 := by
  intro z
  have h1 : (nI a).toInt = (-1 : Int32).toInt := by rw [z]
  rw [nI_toInt h] at h1
  have h2 : (-1 : Int32).toInt = -1 := by decide
  omega
theorem pk_o {A B : Prop} {x : Int32} (o : Option Nat) (f : o = none → A) (g : ∀ a, o = some a → B) (hb : ∀ a, o = some a → a < 2 ^ 31) (hx : x = oI o := by rfl) : (x = -1 → A) ∧ (¬ x = -1 → B) := by
  subst hx
  cases o with
  | none => exact ⟨fun _ => f rfl, fun h => absurd rfl h⟩
  | some a => exact ⟨fun h => absurd h (oI_ne (hb a rfl)), fun _ => g a rfl⟩
theorem pk_on {A B : Prop} {x : Int32} (o : Option Nat) (f : ∀ a, o = some a → A) (g : o = none → B) (hb : ∀ a, o = some a → a < 2 ^ 31) (hx : x = oI o := by rfl) : (¬ x = -1 → A) ∧ (¬ ¬ x = -1 → B) := by
  subst hx
  cases o with
  | none => exact ⟨fun h => absurd rfl h, fun _ => g rfl⟩
  | some a => exact ⟨fun _ => f a rfl, fun h => absurd (oI_ne (hb a rfl)) h⟩
theorem m_updN {f : Nat → Nat} {k a : Nat} : upd (fun j => nI (f j)) k (nI a) = fun j => nI (va_up f k a j) := by
  funext j
  by_cases h : j = k <;> simp [upd, va_up, h]
theorem m_updB {f : Nat → Bool} {k : Nat} {a : Bool} : upd (fun j => b2i (f j)) k (b2i a) = fun j => b2i (va_up f k a j) := by
  funext j
  by_cases h : j = k <;> simp [upd, va_up, h]
theorem m_updB1 {f : Nat → Bool} {k : Nat} : upd (fun j => b2i (f j)) k 1 = fun j => b2i (va_up f k true j) := m_updB (a := true)
theorem m_updB0 {f : Nat → Bool} {k : Nat} : upd (fun j => b2i (f j)) k 0 = fun j => b2i (va_up f k false j) := m_updB (a := false)
/-- how many free places stand one behind the other just ahead of t -/
def m_run (g : Nat → Bool) : Nat → Nat
  | 0 => 0
  | t + 1 => if g t then m_run g t + 1 else 0
theorem m_run_le (g : Nat → Bool) : ∀ t, m_run g t ≤ t
  | 0 => Nat.le_refl 0
  | t + 1 => by
    have := m_run_le g t
    unfold m_run
    split <;> omega
theorem m_run_free (g : Nat → Bool) : ∀ t j, j < t → t ≤ j + m_run g t → g j = true
  | 0, j, h, _ => absurd h (by omega)
  | t + 1, j, h, h2 => by
    unfold m_run at h2
    by_cases hg : g t = true
    · rw [if_pos hg] at h2
      rcases Nat.lt_or_ge j t with hj | hj
      · exact m_run_free g t j hj (by omega)
      · rw [show j = t by omega]; exact hg
    · rw [if_neg hg] at h2
      omega
theorem m_run_cong {g g' : Nat → Bool} : ∀ t, (∀ j, j < t → g j = g' j) → m_run g t = m_run g' t
  | 0, _ => rfl
  | t + 1, h => by
    unfold m_run
    rw [h t (by omega), m_run_cong t (fun j hj => h j (by omega))]
/-- the first run of n, looked for over k places from t on -/
def m_fr (g : Nat → Bool) (n : Nat) : Nat → Nat → Option Nat
  | 0, _ => none
  | k + 1, t => if m_run g (t + 1) = n then some (t + 1 - n) else m_fr g n k (t + 1)
theorem m_fr_spec {g : Nat → Bool} {n : Nat} : ∀ (k t a : Nat), m_fr g n k t = some a → a + n ≤ t + k ∧ ∀ j, a ≤ j → j < a + n → g j = true
  | 0, t, a, h => by simp [m_fr] at h
  | k + 1, t, a, h => by
    unfold m_fr at h
    split at h
    next hr =>
      simp only [Option.some.injEq] at h
      have h1 := m_run_le g (t + 1)
      refine ⟨by omega, fun j h2 h3 => m_run_free g (t + 1) j (by omega) (by omega)⟩
    next =>
      obtain ⟨h1, h2⟩ := m_fr_spec k (t + 1) a h
      exact ⟨by omega, h2⟩
theorem m_fr_cong {g g' : Nat → Bool} {n : Nat} : ∀ (k t : Nat), (∀ j, j < t + k → g j = g' j) → m_fr g n k t = m_fr g' n k t
  | 0, _, _ => rfl
  | k + 1, t, h => by
    unfold m_fr
    rw [m_run_cong (t + 1) (fun j hj => h j (by omega)), m_fr_cong k (t + 1) (fun j hj => h j (by omega))]
/-- the longest run of the first t places -/
def m_long (g : Nat → Bool) : Nat → Nat
  | 0 => 0
  | t + 1 => max (m_long g t) (m_run g (t + 1))
theorem m_long_le (g : Nat → Bool) : ∀ t, m_long g t ≤ t
  | 0 => Nat.le_refl 0
  | t + 1 => by
    have := m_long_le g t
    have := m_run_le g (t + 1)
    unfold m_long
    omega
theorem m_long_cong {g g' : Nat → Bool} : ∀ t, (∀ j, j < t → g j = g' j) → m_long g t = m_long g' t
  | 0, _ => rfl
  | t + 1, h => by
    unfold m_long
    rw [m_run_cong (t + 1) h, m_long_cong t (fun j hj => h j (by omega))]
/-- how many of the first t places have g -/
def m_cnt (g : Nat → Bool) : Nat → Nat
  | 0 => 0
  | t + 1 => m_cnt g t + (if g t then 1 else 0)
theorem m_cnt_le (g : Nat → Bool) : ∀ t, m_cnt g t ≤ t
  | 0 => Nat.le_refl 0
  | t + 1 => by
    have := m_cnt_le g t
    unfold m_cnt
    split <;> omega
theorem m_cnt_cong {g g' : Nat → Bool} : ∀ t, (∀ j, j < t → g j = g' j) → m_cnt g t = m_cnt g' t
  | 0, _ => rfl
  | t + 1, h => by
    unfold m_cnt
    rw [h t (by omega), m_cnt_cong t (fun j hj => h j (by omega))]
/-- k places from a on become b -/
def m_fill {α : Type} (f : Nat → α) (a k : Nat) (b : α) : Nat → α := fun j => if a ≤ j ∧ j < a + k then b else f j
theorem m_fill_0 {α : Type} {f : Nat → α} {a : Nat} {b : α} : m_fill f a 0 b = f := by
  funext j
  unfold m_fill
  rw [if_neg (by omega)]
theorem m_fill_s {α : Type} {f : Nat → α} {a k : Nat} {b : α} : va_up (m_fill f a k b) (a + k) b = m_fill f a (k + 1) b := by
  funext j
  unfold m_fill va_up
  by_cases h : j = a + k
  · rw [if_pos h, if_pos (by omega)]
  · rw [if_neg h]
    show (if a ≤ j ∧ j < a + k then b else f j) = _
    by_cases h2 : a ≤ j ∧ j < a + k
    · rw [if_pos h2, if_pos (by omega)]
    · rw [if_neg h2, if_neg (by omega)]
/-- the sum of the first n -/
def m_sum (f : Nat → Nat) : Nat → Nat
  | 0 => 0
  | n + 1 => m_sum f n + f n
theorem m_sum_cong {f f' : Nat → Nat} : ∀ t, (∀ j, j < t → f j = f' j) → m_sum f t = m_sum f' t
  | 0, _ => rfl
  | t + 1, h => by
    unfold m_sum
    rw [h t (by omega), m_sum_cong t (fun j hj => h j (by omega))]
theorem m_sum_le {f : Nat → Nat} {b : Nat} : ∀ t, (∀ j, j < t → f j ≤ b) → m_sum f t ≤ t * b
  | 0, _ => by simp [m_sum]
  | t + 1, h => by
    have h1 := m_sum_le t (fun j hj => h j (by omega))
    have h2 := h t (by omega)
    unfold m_sum
    rw [Nat.succ_mul]
    omega
/-- a number held to 1 .. 500 -/
def m_clamp (x : Int32) : Nat := if x < 1 then 1 else if 500 < x then 500 else x.toNatClampNeg
theorem s_c12 : (12 : Int32).toNatClampNeg = 12 := by decide +kernel
theorem s_p12 : ((12 : Int32) < 0) = False := by decide +kernel
theorem s_c16 : (16 : Int32).toNatClampNeg = 16 := by decide +kernel
theorem s_p16 : ((16 : Int32) < 0) = False := by decide +kernel
theorem s_c20 : (20 : Int32).toNatClampNeg = 20 := by decide +kernel
theorem s_p20 : ((20 : Int32) < 0) = False := by decide +kernel
theorem s_c30 : (30 : Int32).toNatClampNeg = 30 := by decide +kernel
theorem s_p30 : ((30 : Int32) < 0) = False := by decide +kernel
theorem s_c60 : (60 : Int32).toNatClampNeg = 60 := by decide +kernel
theorem s_p60 : ((60 : Int32) < 0) = False := by decide +kernel
theorem s_c100 : (100 : Int32).toNatClampNeg = 100 := by decide +kernel
theorem s_p100 : ((100 : Int32) < 0) = False := by decide +kernel
theorem s_c500 : (500 : Int32).toNatClampNeg = 500 := by decide +kernel
theorem s_p500 : ((500 : Int32) < 0) = False := by decide +kernel
theorem s_c61 : (61 : Int32).toNatClampNeg = 61 := by decide +kernel
theorem s_p61 : ((61 : Int32) < 0) = False := by decide +kernel
theorem s_c1952 : (1952 : Int32).toNatClampNeg = 1952 := by decide +kernel
theorem s_p1952 : ((1952 : Int32) < 0) = False := by decide +kernel
theorem s_c732 : (732 : Int32).toNatClampNeg = 732 := by decide +kernel
theorem s_p732 : ((732 : Int32) < 0) = False := by decide +kernel
theorem s_c1830 : (1830 : Int32).toNatClampNeg = 1830 := by decide +kernel
theorem s_p1830 : ((1830 : Int32) < 0) = False := by decide +kernel
theorem s_c2000 : (2000 : Int32).toNatClampNeg = 2000 := by decide +kernel
theorem s_p2000 : ((2000 : Int32) < 0) = False := by decide +kernel
theorem g_up3 {σ : gS} {a1 a2 a3 : Nat} {x y z x' y' z' : gE} (h12 : a1 ≠ a2) (h13 : a1 ≠ a3) (h23 : a2 ≠ a3) : g_up (g_up (g_up (g_up (g_up (g_up σ a1 x) a2 y) a3 z) a1 x') a2 y') a3 z' = g_up (g_up (g_up σ a1 x') a2 y') a3 z' := by
  funext w
  by_cases h3 : w = a3
  · subst h3; simp [g_up]
  · by_cases h2 : w = a2
    · subst h2; simp [g_up, h23, Ne.symm h12]
    · by_cases h1 : w = a1
      · subst h1; simp [g_up, h12, h13]
      · simp [g_up, h1, h2, h3]
theorem g_up2 {σ : gS} {a1 a2 : Nat} {x y x' y' : gE} (h12 : a1 ≠ a2) : g_up (g_up (g_up (g_up σ a1 x) a2 y) a1 x') a2 y' = g_up (g_up σ a1 x') a2 y' := by
  funext w
  by_cases h2 : w = a2
  · subst h2; simp [g_up]
  · by_cases h1 : w = a1
    · subst h1; simp [g_up, h12]
    · simp [g_up, h1, h2]
/-- the first place from i on, of k, that has p -/
def m_ix (p : Nat → Bool) : Nat → Nat → Option Nat
  | 0, _ => none
  | k + 1, i => if p i then some i else m_ix p k (i + 1)
theorem m_ix_some {p : Nat → Bool} : ∀ (k i a : Nat), m_ix p k i = some a → i ≤ a ∧ a < i + k ∧ p a = true ∧ ∀ j, i ≤ j → j < a → p j = false
  | 0, i, a, h => by simp [m_ix] at h
  | k + 1, i, a, h => by
    unfold m_ix at h
    by_cases hp : p i = true
    · rw [if_pos hp] at h
      cases h
      exact ⟨Nat.le_refl _, by omega, hp, fun j h1 h2 => absurd h2 (by omega)⟩
    · rw [if_neg hp] at h
      obtain ⟨h1, h2, h3, h4⟩ := m_ix_some k (i + 1) a h
      refine ⟨by omega, by omega, h3, fun j h5 h6 => ?_⟩
      by_cases hj : j = i
      · subst hj; simpa using hp
      · exact h4 j (by omega) h6
theorem m_ix_none {p : Nat → Bool} : ∀ (k i : Nat), m_ix p k i = none → ∀ j, i ≤ j → j < i + k → p j = false
  | 0, i, h, j, h1, h2 => absurd h2 (by omega)
  | k + 1, i, h, j, h1, h2 => by
    unfold m_ix at h
    by_cases hp : p i = true
    · rw [if_pos hp] at h; cases h
    · rw [if_neg hp] at h
      by_cases hj : j = i
      · subst hj; simpa using hp
      · exact m_ix_none k (i + 1) h j (by omega) (by omega)
theorem m_ix_cong {p p' : Nat → Bool} : ∀ (k i : Nat), (∀ j, i ≤ j → j < i + k → p j = p' j) → m_ix p k i = m_ix p' k i
  | 0, _, _ => rfl
  | k + 1, i, h => by
    unfold m_ix
    rw [h i (Nat.le_refl _) (by omega), m_ix_cong k (i + 1) (fun j h1 h2 => h j (by omega) (by omega))]
/-- places at .. i - 1 take what stood one behind -/
def m_sh {α : Type} (f : Nat → α) (at' i : Nat) : Nat → α := fun j => if at' ≤ j ∧ j < i then f (j + 1) else f j
theorem m_sh_0 {α : Type} {f : Nat → α} {a : Nat} : m_sh f a a = f := by
  funext j
  unfold m_sh
  rw [if_neg (by omega)]
theorem m_sh_at {α : Type} {f : Nat → α} {a i : Nat} (h : a ≤ i) : m_sh f a i (i + 1) = f (i + 1) := by
  unfold m_sh
  rw [if_neg (by omega)]
theorem m_sh_s {α : Type} {f : Nat → α} {a i : Nat} (h : a ≤ i) : va_up (m_sh f a i) i (f (i + 1)) = m_sh f a (i + 1) := by
  funext j
  unfold va_up
  by_cases hj : j = i
  · subst hj
    rw [if_pos rfl]
    unfold m_sh
    rw [if_pos (by omega)]
  · rw [if_neg hj]
    unfold m_sh
    by_cases h2 : a ≤ j ∧ j < i
    · rw [if_pos h2, if_pos (by omega)]
    · rw [if_neg h2, if_neg (by omega)]
def m_dr {α : Type} (o : Option Nat) (c : Nat) (f : Nat → α) : Nat → α := match o with
  | none => f
  | some a => m_sh f a (c - 1)
def m_dc (o : Option Nat) (c : Nat) : Nat := match o with
  | none => c
  | some _ => c - 1
