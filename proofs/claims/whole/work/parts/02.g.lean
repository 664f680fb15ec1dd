/-! ===== THE STORE: cells by address; listed code; a weakest precondition; its soundness over the machine ===== -/
/-- a cell: an array of ints (tag of its class, length, contents), of longs, of references; an object (number of its class, fields) -/
abbrev gE : Type := (Nat × Nat × (Nat → Int32)) ⊕ ((Nat × Nat × (Nat → Int64)) ⊕ ((Nat × Nat × (Nat → Option Nat)) ⊕ (Nat × List Value)))
abbrev gS : Type := Nat → Option gE
def g_ia (t n : Nat) (f : Nat → Int32) : gE := Sum.inl (t, n, f)
def g_la (t n : Nat) (f : Nat → Int64) : gE := Sum.inr (Sum.inl (t, n, f))
def g_ra (t n : Nat) (f : Nat → Option Nat) : gE := Sum.inr (Sum.inr (Sum.inl (t, n, f)))
def g_ob (ci : Nat) (fs : List Value) : gE := Sum.inr (Sum.inr (Sum.inr (ci, fs)))
def g_up (σ : gS) (a : Nat) (e : gE) : gS := fun x => if x = a then some e else σ x
theorem g_up_s {σ : gS} {a : Nat} {e : gE} : g_up σ a e a = some e := by simp [g_up]
theorem g_up_n {σ : gS} {a b : Nat} {e : gE} (h : b ≠ a) : g_up σ a e b = σ b := by simp [g_up, h]
abbrev gL : Type := List (Option Value)
/-- an instruction: itself, its length, its constant, its targets -/
abbrev gI : Type := Instr × Nat × Int32 × List (Int × Nat)
/-- a method's code: by pc; a cut with how many locals are live there -/
abbrev gCd : Type := List (Nat × Option Nat × gI)
abbrev gP : Type := Option Value → gS → Prop
abbrev gK : Type := Nat → gL → List Value → gS → Nat → Nat → Prop
abbrev gC : Type := Nat → gI → gL → List Value → gS → Nat → Nat → Prop
abbrev gSpec : Type := List Value → gS → gP → Prop
/-- the script: where it lies, its length, its ints; it is in no store and is never written -/
abbrev gX : Type := Nat × Nat × (Nat → Int32)
/-- a class's pool: fields (class number, place, kind, may be put), calls (arguments, receiver, contract, cells, slots), classes to make, array classes, longs, members of the JDK -/
abbrev gT : Type := (Nat → Option (Nat × Nat × Nat × Nat)) × (Nat → Option (Nat × Nat × gSpec × Nat × Nat)) × (Nat → Option (Nat × List Value)) × (Nat → Option Nat) × (Nat → Option Int64) × (Nat → Option Nat)
def g_opt {α : Type} (o : Option α) (f : α → Prop) : Prop := match o with
  | some a => f a
  | none => False
def g_go (code : gCd) (K : gK) (k : gC) (pc : Nat) (lv : gL) (st : List Value) (σ : gS) (c z : Nat) : Prop := match code.lookup pc with
  | none => False
  | some q => match q.1 with
    | some nl => K pc (lv.take nl) st σ c z
    | none => k pc q.2 lv st σ c z
def g_at (code : gCd) (k : gC) (pc : Nat) (lv : gL) (st : List Value) (σ : gS) (c z : Nat) : Prop := match code.lookup pc with
  | none => False
  | some q => k pc q.2 lv st σ c z
def g_oI (o : Option (Option Value)) (f : Int32 → Prop) : Prop := match o with
  | some (some (.int x)) => f x
  | _ => False
def g_oL (o : Option (Option Value)) (f : Int64 → Prop) : Prop := match o with
  | some (some (.long x)) => f x
  | _ => False
def g_oA (o : Option (Option Value)) (f : Value → Prop) : Prop := match o with
  | some (some (.ref x)) => f (.ref x)
  | some (some .null) => f .null
  | _ => False
def g_ok1 (lv : gL) (i : Nat) : Bool := match i with
  | 0 => true
  | j + 1 => match lv[j]? with
    | some (some (.long _)) => false
    | some (some (.double _)) => false
    | _ => true
def g_set (lv : gL) (i : Nat) (v : Value) : gL := (lv ++ List.replicate (i + 1 - lv.length) none).set i (some v)
def g_c1 (v : Value) : Bool := match v with
  | .long _ => false
  | .double _ => false
  | _ => true
def g_fit (ft : Nat) (v : Value) : Prop := match ft, v with
  | 0, .int _ => True
  | 1, .ref _ => True
  | 1, .null => True
  | 2, .long _ => True
  | 3, .int x => x = 0 ∨ x = 1
  | _, _ => False
def g_rd (o : Option gE) (ci k : Nat) (f : Value → Prop) : Prop := match o with
  | some (.inr (.inr (.inr (c, fs)))) => c = ci ∧ g_opt fs[k]? f
  | _ => False
def g_pt (o : Option gE) (ci k : Nat) (f : List Value → Prop) : Prop := match o with
  | some (.inr (.inr (.inr (c, fs)))) => c = ci ∧ k < fs.length ∧ f fs
  | _ => False
def g_ai (o : Option gE) (t : Nat) (i : Int32) (f : Nat → (Nat → Int32) → Prop) : Prop := match o with
  | some (.inl (t', n, g)) => t' = t ∧ vp_in i n ∧ f n g
  | _ => False
def g_lds (sc : gX) (a : Nat) (o : Option gE) (i : Int32) (f : (Nat → Int32) → Prop) : Prop := match o with
  | some (.inl (t', n, g)) => t' = 0 ∧ vp_in i n ∧ f g
  | none => a = sc.1 ∧ vp_in i sc.2.1 ∧ f sc.2.2
  | _ => False
def g_al (o : Option gE) (t : Nat) (i : Int32) (f : Nat → (Nat → Int64) → Prop) : Prop := match o with
  | some (.inr (.inl (t', n, g))) => t' = t ∧ vp_in i n ∧ f n g
  | _ => False
def g_ar (el : Nat → Option Nat) (o : Option gE) (i : Int32) (f : Nat → Nat → (Nat → Option Nat) → Prop) : Prop := match o with
  | some (.inr (.inr (.inl (t, n, g)))) => (el t).isSome = true ∧ vp_in i n ∧ f t n g
  | _ => False
def g_cls (o : Option gE) (f : Nat → Prop) : Prop := match o with
  | some (.inr (.inr (.inr (c, _)))) => f c
  | _ => False
def g_len (sc : gX) (el : Nat → Option Nat) (a : Nat) (o : Option gE) (f : Int32 → Prop) : Prop := match o with
  | none => a = sc.1 ∧ f (nI sc.2.1)
  | some (.inl (t, n, _)) => (t = 0 ∨ t = 1) ∧ f (nI n)
  | some (.inr (.inl (t, n, _))) => t = 2 ∧ f (nI n)
  | some (.inr (.inr (.inl (t, n, _)))) => (el t).isSome = true ∧ f (nI n)
  | _ => False
def g_rv (σ : gS) (k : Nat) (av : List Value) : Prop := match av with
  | .ref b :: _ => g_cls (σ b) (fun c => c = k)
  | _ => False
def g_rcv (σ : gS) (kind : Nat) (av : List Value) : Prop := match kind with
  | 0 => True
  | 1 => ∃ b as, av = .ref b :: as
  | k + 2 => g_rv σ k av
def g_cmp (cd : Jvm.ClassFile.Cond) (x y : Int32) : Prop := match cd with
  | .eq => x = y
  | .ne => ¬ x = y
  | .lt => x < y
  | .ge => y ≤ x
  | .gt => y < x
  | .le => x ≤ y
def g_sw (x : Int32) (j : Nat → Prop) : List (Int × Nat) → Prop
  | [] => False
  | [d] => j d.2
  | q :: q2 :: r => (x.toInt = q.1 → j q.2) ∧ (¬ x.toInt = q.1 → g_sw x j (q2 :: r))
def g_newi (ty : ArrayType) (N : Nat) : gE := match ty with
  | .long => g_la 2 N (fun _ => 0)
  | .int => g_ia 0 N (fun _ => 0)
  | _ => g_ia 1 N (fun _ => 0)
def g_t (tg : List (Int × Nat)) : Nat := match tg with
  | q :: _ => q.2
  | [] => 0
def g_cl (iv : Nat) (sp : Option Nat) (o : Option (Nat × Nat × gSpec × Nat × Nat)) (σ : gS) (st : List Value) (c z mc ms : Nat) (f : List Value → gS → Nat → Nat → Prop) : Prop := match sp with
  | some 0 => (match st with
    | .ref _ :: s => iv = 1 ∧ s.length ≤ 4 ∧ f s σ c z
    | _ => False)
  | some 1 => (match st with
    | .int y :: .int x :: s => iv = 0 ∧ s.length ≤ 4 ∧ c ≤ mc ∧ z ≤ ms ∧ f (.int (if x < y then y else x) :: s) σ c z
    | _ => False)
  | some 2 => (match st with
    | .int y :: .int x :: s => iv = 0 ∧ s.length ≤ 4 ∧ c ≤ mc ∧ z ≤ ms ∧ f (.int (if y < x then y else x) :: s) σ c z
    | _ => False)
  | some _ => False
  | none => match o with
    | some (na, kind, sp, c', z') => min kind 2 = iv ∧ na ≤ st.length ∧ (st.drop na).length ≤ 4 ∧ c + c' ≤ mc ∧ z + z' ≤ ms ∧ g_rcv σ kind (st.take na).reverse ∧ sp (st.take na).reverse σ (fun r σ' => f (r.toList ++ st.drop na) σ' (c + c') (z + z'))
    | none => False
def g_step (sc : gX) (T : gT) (el : Nat → Option Nat) (ini : Bool) (rk : Nat) (code : gCd) (K : gK) (P : gP) (mc ms : Nat) (k : gC) (pc : Nat) (i : Instr) (len : Nat) (c32 : Int32) (tg : List (Int × Nat)) (lv : gL) (st : List Value) (σ : gS) (c z : Nat) : Prop := match i with
  | .aconst_null => g_go code K k (pc + len) lv (.null :: st) σ c z
  | .iconst _ => g_go code K k (pc + len) lv (.int c32 :: st) σ c z
  | .bipush _ => g_go code K k (pc + len) lv (.int c32 :: st) σ c z
  | .sipush _ => g_go code K k (pc + len) lv (.int c32 :: st) σ c z
  | .ldc2_w idx => g_opt (T.2.2.2.2.1 idx) (fun d => g_go code K k (pc + len) lv (.long d :: st) σ c z)
  | .iload_n j => g_oI lv[(j : Nat)]? (fun x => g_go code K k (pc + len) lv (.int x :: st) σ c z)
  | .iload j => g_oI lv[(j : Nat)]? (fun x => g_go code K k (pc + len) lv (.int x :: st) σ c z)
  | .lload_n j => g_oL lv[(j : Nat)]? (fun x => g_go code K k (pc + len) lv (.long x :: st) σ c z)
  | .lload j => g_oL lv[(j : Nat)]? (fun x => g_go code K k (pc + len) lv (.long x :: st) σ c z)
  | .aload_n j => g_oA lv[(j : Nat)]? (fun v => g_go code K k (pc + len) lv (v :: st) σ c z)
  | .aload j => g_oA lv[(j : Nat)]? (fun v => g_go code K k (pc + len) lv (v :: st) σ c z)
  | .istore_n j => (match st with
    | .int x :: s => g_ok1 lv j = true ∧ g_go code K k (pc + len) (g_set lv j (.int x)) s σ c z
    | _ => False)
  | .istore j => (match st with
    | .int x :: s => g_ok1 lv j = true ∧ g_go code K k (pc + len) (g_set lv j (.int x)) s σ c z
    | _ => False)
  | .astore_n j => (match st with
    | .ref x :: s => g_ok1 lv j = true ∧ g_go code K k (pc + len) (g_set lv j (.ref x)) s σ c z
    | .null :: s => g_ok1 lv j = true ∧ g_go code K k (pc + len) (g_set lv j .null) s σ c z
    | _ => False)
  | .astore j => (match st with
    | .ref x :: s => g_ok1 lv j = true ∧ g_go code K k (pc + len) (g_set lv j (.ref x)) s σ c z
    | .null :: s => g_ok1 lv j = true ∧ g_go code K k (pc + len) (g_set lv j .null) s σ c z
    | _ => False)
  | .iinc j _ => g_oI lv[(j : Nat)]? (fun x => g_ok1 lv j = true ∧ g_go code K k (pc + len) (g_set lv j (.int (x + c32))) st σ c z)
  | .dup => (match st with
    | v :: s => g_c1 v = true ∧ g_go code K k (pc + len) lv (v :: v :: s) σ c z
    | _ => False)
  | .pop => (match st with
    | v :: s => g_c1 v = true ∧ g_go code K k (pc + len) lv s σ c z
    | _ => False)
  | .dup_x1 => (match st with
    | v :: w :: s => g_c1 v = true ∧ g_c1 w = true ∧ g_go code K k (pc + len) lv (v :: w :: v :: s) σ c z
    | _ => False)
  | .dup2 => (match st with
    | v :: w :: s => g_c1 v = true ∧ g_c1 w = true ∧ g_go code K k (pc + len) lv (v :: w :: v :: w :: s) σ c z
    | _ => False)
  | .iadd => (match st with
    | .int y :: .int x :: s => g_go code K k (pc + len) lv (.int (x + y) :: s) σ c z
    | _ => False)
  | .isub => (match st with
    | .int y :: .int x :: s => g_go code K k (pc + len) lv (.int (x - y) :: s) σ c z
    | _ => False)
  | .imul => (match st with
    | .int y :: .int x :: s => g_go code K k (pc + len) lv (.int (x * y) :: s) σ c z
    | _ => False)
  | .iand => (match st with
    | .int y :: .int x :: s => g_go code K k (pc + len) lv (.int (x &&& y) :: s) σ c z
    | _ => False)
  | .land => (match st with
    | .long y :: .long x :: s => g_go code K k (pc + len) lv (.long (x &&& y) :: s) σ c z
    | _ => False)
  | .lor => (match st with
    | .long y :: .long x :: s => g_go code K k (pc + len) lv (.long (x ||| y) :: s) σ c z
    | _ => False)
  | .lshl => (match st with
    | .int y :: .long x :: s => g_go code K k (pc + len) lv (.long (x <<< (y.toInt64 &&& 63)) :: s) σ c z
    | _ => False)
  | .i2l => (match st with
    | .int x :: s => g_go code K k (pc + len) lv (.long x.toInt64 :: s) σ c z
    | _ => False)
  | .lcmp => (match st with
    | .long y :: .long x :: s => g_go code K k (pc + len) lv (.int (lg_cmp x y) :: s) σ c z
    | _ => False)
  | .getfield idx => (match st with
    | .ref a :: s => g_opt (T.1 idx) (fun q => g_rd (σ a) q.1 q.2.1 (fun v => g_go code K k (pc + len) lv (v :: s) σ c z))
    | _ => False)
  | .putfield idx => (match st with
    | v :: .ref a :: s => g_opt (T.1 idx) (fun q => (q.2.2.2 = 1 ∨ (q.2.2.2 = 2 ∧ ini = true)) ∧ g_fit q.2.2.1 v ∧ g_pt (σ a) q.1 q.2.1 (fun fs => g_go code K k (pc + len) lv s (g_up σ a (g_ob q.1 (fs.set q.2.1 v))) c z))
    | _ => False)
  | .iaload => (match st with
    | .int i :: .ref a :: s => g_lds sc a (σ a) i (fun g => g_go code K k (pc + len) lv (.int (g i.toNatClampNeg) :: s) σ c z)
    | _ => False)
  | .baload => (match st with
    | .int i :: .ref a :: s => g_ai (σ a) 1 i (fun _ g => g_go code K k (pc + len) lv (.int (g i.toNatClampNeg) :: s) σ c z)
    | _ => False)
  | .laload => (match st with
    | .int i :: .ref a :: s => g_al (σ a) 2 i (fun _ g => g_go code K k (pc + len) lv (.long (g i.toNatClampNeg) :: s) σ c z)
    | _ => False)
  | .aaload => (match st with
    | .int i :: .ref a :: s => g_ar el (σ a) i (fun _ _ g => (g i.toNatClampNeg = none → g_go code K k (pc + len) lv (.null :: s) σ c z) ∧ ∀ q, g i.toNatClampNeg = some q → g_go code K k (pc + len) lv (.ref q :: s) σ c z)
    | _ => False)
  | .iastore => (match st with
    | .int x :: .int i :: .ref a :: s => g_ai (σ a) 0 i (fun n g => g_go code K k (pc + len) lv s (g_up σ a (g_ia 0 n (upd g i.toNatClampNeg x))) c z)
    | _ => False)
  | .bastore => (match st with
    | .int x :: .int i :: .ref a :: s => (x = 0 ∨ x = 1) ∧ g_ai (σ a) 1 i (fun n g => g_go code K k (pc + len) lv s (g_up σ a (g_ia 1 n (upd g i.toNatClampNeg x))) c z)
    | _ => False)
  | .lastore => (match st with
    | .long x :: .int i :: .ref a :: s => g_al (σ a) 2 i (fun n g => g_go code K k (pc + len) lv s (g_up σ a (g_la 2 n (vp_updL g i.toNatClampNeg x))) c z)
    | _ => False)
  | .aastore => (match st with
    | .null :: .int i :: .ref a :: s => g_ar el (σ a) i (fun t n g => g_go code K k (pc + len) lv s (g_up σ a (g_ra t n (va_up g i.toNatClampNeg none))) c z)
    | .ref q :: .int i :: .ref a :: s => g_ar el (σ a) i (fun t n g => g_cls (σ q) (fun cq => el t = some cq) ∧ g_go code K k (pc + len) lv s (g_up σ a (g_ra t n (va_up g i.toNatClampNeg (some q)))) c z)
    | _ => False)
  | .arraylength => (match st with
    | .ref a :: s => g_len sc el a (σ a) (fun x => g_go code K k (pc + len) lv (.int x :: s) σ c z)
    | _ => False)
  | .new idx => g_opt (T.2.2.1 idx) (fun y => c + 1 ≤ mc ∧ z + y.2.length ≤ ms ∧ ∀ q, σ q = none → q ≠ sc.1 → g_go code K k (pc + len) lv (.ref q :: st) (g_up σ q (g_ob y.1 y.2)) (c + 1) (z + y.2.length))
  | .newarray ty => (match st with
    | .int n :: s => ¬ n < 0 ∧ n.toNatClampNeg ≤ 60000000 ∧ c + 1 ≤ mc ∧ z + n.toNatClampNeg ≤ ms ∧ (ty = .int ∨ ty = .boolean ∨ ty = .long) ∧ ∀ q, σ q = none → g_go code K k (pc + len) lv (.ref q :: s) (g_up σ q (g_newi ty n.toNatClampNeg)) (c + 1) (z + n.toNatClampNeg)
    | _ => False)
  | .anewarray idx => (match st with
    | .int n :: s => g_opt (T.2.2.2.1 idx) (fun t => ¬ n < 0 ∧ n.toNatClampNeg ≤ 60000000 ∧ c + 1 ≤ mc ∧ z + n.toNatClampNeg ≤ ms ∧ ∀ q, σ q = none → g_go code K k (pc + len) lv (.ref q :: s) (g_up σ q (g_ra t n.toNatClampNeg (fun _ => none))) (c + 1) (z + n.toNatClampNeg))
    | _ => False)
  | .invokevirtual idx => g_cl 2 (T.2.2.2.2.2 idx) (T.2.1 idx) σ st c z mc ms (fun st' σ' c' z' => g_go code K k (pc + len) lv st' σ' c' z')
  | .invokespecial idx => g_cl 1 (T.2.2.2.2.2 idx) (T.2.1 idx) σ st c z mc ms (fun st' σ' c' z' => g_go code K k (pc + len) lv st' σ' c' z')
  | .invokestatic idx => g_cl 0 (T.2.2.2.2.2 idx) (T.2.1 idx) σ st c z mc ms (fun st' σ' c' z' => g_go code K k (pc + len) lv st' σ' c' z')
  | .goto _ => g_go code K k (g_t tg) lv st σ c z
  | .if_icmp cd _ => (match st with
    | .int y :: .int x :: s => (g_cmp cd x y → g_go code K k (g_t tg) lv s σ c z) ∧ (¬ g_cmp cd x y → g_go code K k (pc + len) lv s σ c z)
    | _ => False)
  | .ifCond cd _ => (match st with
    | .int x :: s => (g_cmp cd x 0 → g_go code K k (g_t tg) lv s σ c z) ∧ (¬ g_cmp cd x 0 → g_go code K k (pc + len) lv s σ c z)
    | _ => False)
  | .ifnull _ => (match st with
    | .ref _ :: s => g_go code K k (pc + len) lv s σ c z
    | .null :: s => g_go code K k (g_t tg) lv s σ c z
    | _ => False)
  | .ifnonnull _ => (match st with
    | .null :: s => g_go code K k (pc + len) lv s σ c z
    | .ref _ :: s => g_go code K k (g_t tg) lv s σ c z
    | _ => False)
  | .tableswitch _ _ _ _ => (match st with
    | .int x :: s => g_sw x (fun t => g_go code K k t lv s σ c z) tg
    | _ => False)
  | .lookupswitch _ _ => (match st with
    | .int x :: s => g_sw x (fun t => g_go code K k t lv s σ c z) tg
    | _ => False)
  | .ireturn => (match st with
    | [.int x] => (rk = 1 ∨ (rk = 2 ∧ (x = 0 ∨ x = 1))) ∧ c ≤ mc ∧ z ≤ ms ∧ P (some (.int x)) σ
    | _ => False)
  | .areturn => (match st with
    | [.ref a] => rk = 3 ∧ c ≤ mc ∧ z ≤ ms ∧ P (some (.ref a)) σ
    | [.null] => rk = 3 ∧ c ≤ mc ∧ z ≤ ms ∧ P (some .null) σ
    | _ => False)
  | .return_ => (match st with
    | [] => rk = 0 ∧ c ≤ mc ∧ z ≤ ms ∧ P none σ
    | _ => False)
  | _ => False
def g_wp (sc : gX) (T : gT) (el : Nat → Option Nat) (ini : Bool) (rk : Nat) (code : gCd) (K : gK) (P : gP) (mc ms : Nat) : Nat → gC
  | 0 => fun _ _ _ _ _ _ _ => False
  | n + 1 => fun pc ins lv st σ c z => g_step sc T el ini rk code K P mc ms (g_wp sc T el ini rk code K P mc ms n) pc ins.1 ins.2.1 ins.2.2.1 ins.2.2.2 lv st σ c z
abbrev gD : Type := va_G × (Nat → ClassId)
def g_tys (D : gD) (aT : List FieldType) : List (ClassId × FieldType) := aT.zipIdx.map (fun q => (D.2 q.2, q.1))
theorem g_tys_at {D : gD} {aT : List FieldType} {t : Nat} {ty : FieldType} (h : aT[t]? = some ty) : (g_tys D aT)[t]? = some (D.2 t, ty) := by
  simp [g_tys, List.getElem?_map, List.getElem?_zipIdx, h]
def g_V (D : gD) : gE → va_E
  | .inl (t, n, f) => .inl (D.2 t, n, .inl f)
  | .inr (.inl (t, n, f)) => .inl (D.2 t, n, .inr (.inl f))
  | .inr (.inr (.inl (t, n, f))) => .inl (D.2 t, n, .inr (.inr (.inr (.inr f))))
  | .inr (.inr (.inr (ci, fs))) => .inr (ci, fs)
def g_dom (σ : gS) : Nat → Prop := fun q => ∃ e, σ q = some e
/-- the heap holds the store -/
def g_H (D : gD) (cl : List vw_C) (σ : gS) (H : Heap) : Prop := ∃ ws : va_W, va_P D.1 cl ws H ∧ va_D (g_dom σ) ws ∧ ∀ (a : Nat) (e : gE), σ a = some e → ∃ k : Nat, ws[k]? = some (a, g_V D e)
theorem g_dom_up {σ : gS} {a : Nat} {e : gE} {q : Nat} (h : g_dom σ q) : g_dom (g_up σ a e) q := by
  obtain ⟨e0, he⟩ := h
  by_cases hq : q = a
  · exact ⟨e, by rw [hq, g_up_s]⟩
  · exact ⟨e0, by rw [g_up_n hq]; exact he⟩
theorem g_H_set {D : gD} {cl : List vw_C} {σ : gS} {a k0 : Nat} {e0 : va_E} {e' : gE} {ws : va_W} {H1 : Heap} (hD : va_D (g_dom σ) ws) (hm : ∀ (a : Nat) (e : gE), σ a = some e → ∃ k : Nat, ws[k]? = some (a, g_V D e)) (hk : ws[k0]? = some (a, e0)) (hP1 : va_P D.1 cl (ws.set k0 (a, g_V D e')) H1) : g_H D cl (g_up σ a e') H1 := by
  have hl := (List.getElem?_eq_some_iff.mp hk).1
  refine ⟨_, hP1, (hD.set hk).weaken (fun _ _ _ h => g_dom_up h), fun b e hb => ?_⟩
  by_cases h : b = a
  · subst h
    rw [g_up_s] at hb
    cases hb
    exact ⟨k0, by rw [List.getElem?_set_self hl]⟩
  · rw [g_up_n h] at hb
    obtain ⟨k, hk'⟩ := hm b e hb
    refine ⟨k, ?_⟩
    rw [List.getElem?_set_ne]
    · exact hk'
    · intro q
      subst q
      rw [hk] at hk'
      cases hk'
      exact h rfl
theorem g_H_new {D : gD} {cl : List vw_C} {A : Nat → Prop} {σ : gS} {q : Nat} {e : gE} {ws : va_W} {H1 : Heap} (hD : va_D (g_dom σ) ws) (hm : ∀ (a : Nat) (e : gE), σ a = some e → ∃ k : Nat, ws[k]? = some (a, g_V D e)) (hP1 : va_P D.1 cl (ws ++ [(q, g_V D e)]) H1) (hD1 : va_D A (ws ++ [(q, g_V D e)])) : σ q = none ∧ g_H D cl (g_up σ q e) H1 := by
  have hlast : (ws ++ [(q, g_V D e)])[ws.length]? = some (q, g_V D e) := by simp
  refine ⟨?_, _, hP1, ⟨hD1.1, fun k x hx => ?_⟩, fun b e' hb => ?_⟩
  · cases hq : σ q with
    | none => rfl
    | some e0 =>
      obtain ⟨k, hk⟩ := hm q e0 hq
      have hl := (List.getElem?_eq_some_iff.mp hk).1
      have h1 : (ws ++ [(q, g_V D e)])[k]? = some (q, g_V D e0) := by rw [List.getElem?_append_left hl]; exact hk
      have := hD1.1 _ _ _ _ h1 hlast rfl
      omega
  · by_cases hl : k < ws.length
    · rw [List.getElem?_append_left hl] at hx
      exact g_dom_up (hD.2 k x hx)
    · rw [List.getElem?_append_right (by omega)] at hx
      have hz : k - ws.length < 1 := (List.getElem?_eq_some_iff.mp hx).1
      rw [show k - ws.length = 0 by omega] at hx
      cases hx
      exact ⟨e, g_up_s⟩
  · by_cases h : b = q
    · subst h
      rw [g_up_s] at hb
      cases hb
      exact ⟨ws.length, hlast⟩
    · rw [g_up_n h] at hb
      obtain ⟨k, hk⟩ := hm b e' hb
      have hl := (List.getElem?_eq_some_iff.mp hk).1
      exact ⟨k, by rw [List.getElem?_append_left hl]; exact hk⟩
/-- the locals -/
def g_has (ls : Array Slot) (nL : Nat) (lv : gL) : Prop := ls.size = nL ∧ lv_wf ls ∧ ∀ (i : Nat) (v : Value), lv[i]? = some (some v) → ls[i]? = some (.val v)
def g_as (lv : gL) : List (Nat × Value) := lv.zipIdx.filterMap (fun q => q.1.map (fun v => (q.2, v)))
theorem g_as_mem {lv : gL} {j : Nat} {w : Value} : (j, w) ∈ g_as lv ↔ lv[j]? = some (some w) := by
  unfold g_as
  rw [List.mem_filterMap]
  constructor
  · rintro ⟨⟨o, i⟩, h1, h2⟩
    rw [List.mem_zipIdx_iff_getElem?] at h1
    cases o with
    | none => simp at h2
    | some v =>
      simp at h2
      obtain ⟨rfl, rfl⟩ := h2
      exact h1
  · intro h
    exact ⟨(some w, j), List.mem_zipIdx_iff_getElem?.mpr h, rfl⟩
theorem g_has_lv {ls : Array Slot} {nL : Nat} {lv : gL} (h : g_has ls nL lv) : lv_has ls nL (g_as lv) :=
  ⟨h.1, h.2.1, fun q hq => h.2.2 q.1 q.2 (g_as_mem.mp hq)⟩
theorem g_set_get {lv : gL} {i j : Nat} {v w : Value} (h : (g_set lv i v)[j]? = some (some w)) : (j = i ∧ w = v) ∨ (j ≠ i ∧ lv[j]? = some (some w)) := by
  unfold g_set at h
  by_cases hj : j = i
  · subst hj
    rw [List.getElem?_set_self (by simp; omega)] at h
    cases h
    exact Or.inl ⟨rfl, rfl⟩
  · rw [List.getElem?_set_ne (Ne.symm hj)] at h
    by_cases hl : j < lv.length
    · rw [List.getElem?_append_left hl] at h
      exact Or.inr ⟨hj, h⟩
    · rw [List.getElem?_append_right (by omega)] at h
      have := List.mem_of_getElem? h
      simp at this
theorem g_ok1_spec {lv : gL} {i j : Nat} {w : Value} (h : g_ok1 lv i = true) (hj : lv[j]? = some (some w)) (hi : j + 1 = i) : ¬ w.category = 2 := by
  subst hi
  cases w <;> simp [g_ok1, hj, Value.category] at h ⊢
theorem g_has_set {ls' : Array Slot} {nL i : Nat} {lv : gL} {v : Value} (hok : g_ok1 lv i = true) (h : lv_has ls' nL ((i, v) :: (g_as lv).filter (fun q => !(q.1 == i) && !(q.1 + 1 == i && q.2.category == 2)))) : g_has ls' nL (g_set lv i v) := by
  refine ⟨h.1, h.2.1, fun j w hj => ?_⟩
  rcases g_set_get hj with ⟨rfl, rfl⟩ | ⟨hne, hlv⟩
  · exact h.2.2 (j, w) List.mem_cons_self
  · refine h.2.2 (j, w) (List.mem_cons_of_mem _ (List.mem_filter.mpr ⟨g_as_mem.mpr hlv, ?_⟩))
    by_cases h1 : j + 1 = i
    · have h2 := g_ok1_spec hok hlv h1
      simp [hne, h2]
    · simp [hne, h1]
theorem g_has_take {ls : Array Slot} {nL : Nat} {lv : gL} (n : Nat) (h : g_has ls nL lv) : g_has ls nL (lv.take n) := by
  refine ⟨h.1, h.2.1, fun i v hi => h.2.2 i v ?_⟩
  rw [List.getElem?_take] at hi
  split at hi
  · exact hi
  · cases hi
/-- what holds of the machine throughout a method's walk -/
def g_X (sc : gX) (p : Program) (s : State) (m : MethodId) (args : Array Value) (meth : Method) (c0 : Code) (D : gD) (cl : List vw_C) (A : Nat → Prop) (nL : Nat) (cc : ByteArray) (own : String) (tbl nest : List Jvm.Cond) (aT : List FieldType) (ao : List String) : Prop :=
  p.tables.exec = Jvm.exec ∧ c0.code = cc ∧ c0.maxLocals = nL ∧ s.vm.findClass own = some m.cls ∧ (∀ w ∈ tbl, w.before args s = true) ∧ va_K D.1 cl (g_tys D aT) s ∧ (∀ w ∈ nest, va_Nw w s) ∧ (∀ C ∈ ao, va_AO C s) ∧ (∀ q, s.heap.size ≤ q → A q) ∧ va_X sc.1 sc.2.1 sc.2.2 s s.heap ∧ sc.1 < s.heap.size ∧ ¬ A sc.1
/-- from this state the machine comes to Q -/
def g_G (p : Program) (l : Launch) (e : Env) (R : Room) (s : State) (m : MethodId) (args : Array Value) (below : List Frame) (meth : Method) (c0 : Code) (Q : State → Prop) (D : gD) (cl : List vw_C) (A : Nat → Prop) (nL pc : Nat) (lv : gL) (st : List Value) (σ : gS) (c z : Nat) : Prop :=
  ∀ (H : Heap) (locs : List Loc) (ls : Array Slot), g_H D cl σ H → (∀ q, g_dom σ q → A q) → va_S A s.heap H locs → g_has ls nL lv → W p l e R s m args below meth c0 H locs c z Q (F0 m pc ls st)
/-- the classes: their tables' words, their fields' types and names -/
def g_COK (cl : List vw_C) (tbl : List Jvm.Cond) : Prop := ∀ (ci : Nat) (C : String) (F : u_T) (N : Nat), cl[ci]? = some (C, F, N) → (∀ w ∈ u_ws C F N, w ∈ tbl) ∧ (∃ ty0 : Nat → FieldType, ∀ k, k < N → parseFieldDescriptor (F k).2.2.1 = some (ty0 k)) ∧ ∀ a, a < N → ∀ b, b < N → a ≠ b → (F a).2.1 ≠ (F b).2.1
def g_kind (ft : Nat) (ty : FieldType) : Bool := match ft, ty with
  | 0, .int => true
  | 1, .object _ => true
  | 1, .array _ => true
  | 2, .long => true
  | 3, .boolean => true
  | _, _ => false
theorem g_fit_ok {ft : Nat} {ty : FieldType} {v : Value} (hk : g_kind ft ty = true) (hf : g_fit ft v) : narrow ty v = v ∧ fits ty v = true := by
  unfold g_kind at hk
  unfold g_fit at hf
  split at hk <;> split at hf <;> first | exact hf.elim | (cases hk; done) | simp_all [narrow, fits]
  rcases hf with rfl | rfl <;> decide
def g_FOK (T : gT) (own : String) (cl : List vw_C) (tbl nest : List Jvm.Cond) : Prop := ∀ (idx ci k ft pk : Nat), T.1 idx = some (ci, k, ft, pk) → ∃ (C : String) (F : u_T) (N : Nat) (ty : FieldType), cl[ci]? = some (C, F, N) ∧ k < N ∧ (F k).1 = C ∧ parseFieldDescriptor (F k).2.2.1 = some ty ∧ g_kind ft ty = true ∧ (pk = 1 → (F k).2.2.2 = false) ∧
  ((Jvm.Cond.fieldLink own idx C (F k).2.1 (F k).2.2.1 ∈ tbl ∧ (pk = 2 → (F k).2.2.2 = true ∧ C = own)) ∨ ((∃ host, Jvm.Cond.fieldLinkNest own idx C (F k).2.1 (F k).2.2.1 host ∈ nest) ∧ ¬ pk = 2))
def g_NOK (T : gT) (own : String) (cl : List vw_C) (tbl : List Jvm.Cond) : Prop := ∀ (idx ci : Nat) (fs : List Value), T.2.2.1 idx = some (ci, fs) → ∃ (C : String) (F : u_T) (N : Nat), cl[ci]? = some (C, F, N) ∧ fs.length = N ∧ Jvm.Cond.classLink own idx C ∈ tbl ∧ Jvm.Cond.instantiable C N ∈ tbl ∧ Jvm.Cond.initialized C ∈ tbl ∧ ∃ ty : Nat → FieldType, (∀ k, k < N → parseFieldDescriptor (F k).2.2.1 = some (ty k)) ∧ ∀ j, j < N → defaultValue (ty j) = vp_V fs j
def g_AOK (T : gT) (own : String) (tbl : List Jvm.Cond) (aT : List FieldType) (ao : List String) : Prop := ∀ (idx t : Nat), T.2.2.2.1 idx = some t → ∃ C : String, aT[t]? = some (.object C) ∧ Jvm.Cond.classLink own idx C ∈ tbl ∧ C ∈ ao
def g_LOK (T : gT) (own : String) (tbl : List Jvm.Cond) : Prop := ∀ (idx : Nat) (d : Int64), T.2.2.2.2.1 idx = some d → Jvm.Cond.constantLong own idx d ∈ tbl
def g_MOK (T : gT) (own : String) (tbl : List Jvm.Cond) : Prop := ∀ (idx : Nat),
  (T.2.2.2.2.2 idx = some 0 → Jvm.Cond.methodLink own idx Lib.objectInit ∈ tbl ∧ Jvm.Cond.instanceMethod Lib.objectInit ∈ tbl ∧ Jvm.Cond.code Lib.objectInit ⟨#[0xb1]⟩ 1 none ∈ tbl) ∧
  (T.2.2.2.2.2 idx = some 1 → Jvm.Cond.methodLink own idx Lib.Math.max.name ∈ tbl ∧ Jvm.Cond.static Lib.Math.max.name ∈ tbl ∧ Jvm.Cond.initialized "java/lang/Math" ∈ tbl ∧ Jvm.Cond.code Lib.Math.max.name Lib.Math.max.code 2 (some .int) ∈ tbl) ∧
  (T.2.2.2.2.2 idx = some 2 → Jvm.Cond.methodLink own idx Lib.Math.min.name ∈ tbl ∧ Jvm.Cond.static Lib.Math.min.name ∈ tbl ∧ Jvm.Cond.initialized "java/lang/Math" ∈ tbl ∧ Jvm.Cond.code Lib.Math.min.name Lib.Math.min.code 2 (some .int) ∈ tbl)
def g_Q (D : gD) (cl : List vw_C) (P : gP) (A : Nat → Prop) : Array Value → State → Outcome → State → Prop := fun _ st oc t => (∃ (r : Option Value) (σ' : gS), oc = .returned r ∧ P r σ' ∧ g_H D cl σ' t.heap ∧ ∀ q, g_dom σ' q → A q) ∧ va_F A st t
def g_A (σ : gS) (sz : Nat) : Nat → Prop := fun q => g_dom σ q ∨ sz ≤ q
def g_tab (D : gD) (cl : List vw_C) (aT : List FieldType) (ao : List String) (nest : List Jvm.Cond) (U : State) : Prop := va_K D.1 cl (g_tys D aT) U ∧ (∀ w ∈ nest, va_Nw w U) ∧ ∀ C ∈ ao, va_AO C U
def g_Pc (sc : gX) (D : gD) (cl : List vw_C) (aT : List FieldType) (ao : List String) (nest : List Jvm.Cond) (av : List Value) (σ : gS) (sz : Nat) : Array Value → State → Prop := va_Pc av (fun U => U.heap.size = sz ∧ g_H D cl σ U.heap ∧ (va_X sc.1 sc.2.1 sc.2.2 U U.heap ∧ sc.1 < sz ∧ ¬ g_dom σ sc.1) ∧ g_tab D cl aT ao nest U)
/-- a method's contract, out of a predicate transformer over stores -/
def g_Met (l : Launch) (sc : gX) (cl : List vw_C) (tbl nest : List Jvm.Cond) (aT : List FieldType) (ao : List String) (y : MethodName) (b : ByteArray) (nL : Nat) (ret : Option FieldType) (rm : Room) (sp : gSpec) (mc ms : Nat) : Prop :=
  ∀ (D : gD) (sz : Nat) (av : List Value) (σ : gS) (P : gP), sp av σ P → Met l y (Jvm.Cond.code y b nL ret :: tbl) rm (g_Pc sc D cl aT ao nest av σ sz) (g_Q D cl P (g_A σ sz)) mc ms (g_A σ sz)
def g_nst (nest : List Jvm.Cond) : Prop := ∀ w ∈ nest, (∃ a i b n d h, w = Jvm.Cond.fieldLinkNest a i b n d h) ∨ (∃ a i x h, w = Jvm.Cond.methodLinkNest a i x h)
def g_good (tbl : List Jvm.Cond) : Prop := ∀ w ∈ tbl, (w.onTables && w.keeps) = true ∨ ∃ ty, w = Jvm.Cond.arrayClass ty
def g_CallOK (l : Launch) (sc : gX) (R : Room) (T : gT) (own : String) (cl : List vw_C) (tbl nest : List Jvm.Cond) (aT : List FieldType) (ao : List String) : Prop := ∀ (idx na kind : Nat) (sp : gSpec) (c' z' : Nat), T.2.1 idx = some (na, kind, sp, c', z') →
  ∃ (y : MethodName) (b : ByteArray) (nL' : Nat) (ret : Option FieldType) (rm : Room), g_Met l sc cl tbl nest aT ao y b nL' ret rm sp c' z' ∧ rm.cells = c' ∧ rm.slots = z' ∧ rm.frames + 1 ≤ R.frames ∧ 8 + (nL' + 11) + rm.locals ≤ R.locals ∧ Jvm.Cond.code y b nL' ret ∈ tbl ∧ Jvm.Cond.initialized y.cls ∈ tbl ∧ (y.cls ≠ "java/lang/invoke/MethodHandle" ∧ y.cls ≠ "java/lang/invoke/VarHandle") ∧
    (Jvm.Cond.methodLink own idx y ∈ tbl ∨ ∃ host, Jvm.Cond.methodLinkNest own idx y host ∈ nest) ∧
    (match kind with
      | 0 => (parseMethodDescriptor y.desc).map (fun d => d.parameters.length) = some na ∧ Jvm.Cond.static y ∈ tbl
      | 1 => (parseMethodDescriptor y.desc).map (fun d => d.parameters.length + 1) = some na ∧ y.name = "<init>" ∧ ret = none ∧ Jvm.Cond.instanceMethod y ∈ tbl
      | ci + 2 => (parseMethodDescriptor y.desc).map (fun d => d.parameters.length + 1) = some na ∧ Jvm.Cond.instanceMethod y ∈ tbl ∧ ∃ (C : String) (F : u_T) (N : Nat), cl[ci]? = some (C, F, N) ∧ Jvm.Cond.selects C y y ∈ tbl)
def g_EOK (el : Nat → Option Nat) (cl : List vw_C) (aT : List FieldType) : Prop := (∀ t, (el t).isSome = true → ∃ C, aT[t]? = some (.object C)) ∧ ∀ t ci, el t = some ci → ∃ (C : String) (F : u_T) (N : Nat), aT[t]? = some (.object C) ∧ cl[ci]? = some (C, F, N)
section GS
variable {p : Program} {l : Launch} {e : Env} {R : Room} {s : State} {m : MethodId} {args : Array Value} {below : List Frame} {meth : Method} {c0 : Code} {Q : State → Prop} {D : gD} {cl : List vw_C} {A : Nat → Prop} {nL : Nat} {cc : ByteArray} {own : String} {tbl nest : List Jvm.Cond} {aT : List FieldType} {ao : List String} {T : gT} {sc : gX}
variable {pc : Nat} {lv : gL} {st : List Value} {σ : gS} {c z : Nat}
theorem g_s_st1 {v : Value} {i : Nat} {H : Heap} {locs : List Loc} {ls : Array Slot} (hok : g_ok1 lv i = true) (hl : g_has ls nL lv) (kk : ∀ ls' : Array Slot, g_has ls' nL (g_set lv i v) → W p l e R s m args below meth c0 H locs c z Q (F0 m pc ls' st)) :
    ∀ ls' : Array Slot, lv_has ls' nL ((i, v) :: (g_as lv).filter (fun q => !(q.1 == i) && !(q.1 + 1 == i && q.2.category == 2))) → W p l e R s m args below meth c0 H locs c z Q (F0 m pc ls' st) :=
  fun ls' h => kk ls' (g_has_set hok h)
theorem g_s_get (X : g_X sc p s m args meth c0 D cl A nL cc own tbl nest aT ao) (hC : g_COK cl tbl) (hF : g_FOK T own cl tbl nest) {idx ci k ft pk a : Nat} {f : Value → Prop} (hT : T.1 idx = some (ci, k, ft, pk)) (hd : decode cc pc = .ok (.getfield idx, 3)) (h : g_rd (σ a) ci k f)
    (kk : ∀ v, f v → g_G p l e R s m args below meth c0 Q D cl A nL (pc + 3) lv (v :: st) σ c z) : g_G p l e R s m args below meth c0 Q D cl A nL pc lv (.ref a :: st) σ c z := by
  intro H locs ls hH hA hS hl
  obtain ⟨hx, hb, -, hown, hts, hK, hN, -, -, hsX, hsl, hsA⟩ := X
  unfold g_rd at h
  split at h
  case h_2 => exact h.elim
  case h_1 c' fs hσ =>
    obtain ⟨rfl, h⟩ := h
    unfold g_opt at h
    split at h
    case h_2 => exact h.elim
    case h_1 v hv =>
      obtain ⟨ws, hP, hD, hm⟩ := id hH
      obtain ⟨q0, hq⟩ := hm a _ hσ
      obtain ⟨C, F, N, ty, h1, h2, h3, h4, h5, h6, h7⟩ := hF idx _ k ft pk hT
      have k1 := kk v h H locs ls hH hA hS hl
      rcases h7 with ⟨h7, -⟩ | ⟨⟨host, h7⟩, -⟩
      · exact va_get (D := D.1) hx hb hts (hC _ _ _ _ h1).1 hown hK hP q0 hq h1 k h2 (hts _ h7) (fun x hx => by rw [h3] at hx; exact hx) hv hd k1
      · exact va_getN (D := D.1) hx hb hts (hC _ _ _ _ h1).1 hown hK hP q0 hq h1 k h2 (va_Nw.use rfl (hN _ h7)) (fun x hx => by rw [h3] at hx; exact hx) hv hd k1
theorem g_s_put (X : g_X sc p s m args meth c0 D cl A nL cc own tbl nest aT ao) (hC : g_COK cl tbl) (hF : g_FOK T own cl tbl nest) {ini : Bool} (hini : ini = true → meth.name = "<init>") {idx ci k ft pk a : Nat} {v : Value} {f : List Value → Prop} (hT : T.1 idx = some (ci, k, ft, pk)) (hd : decode cc pc = .ok (.putfield idx, 3)) (hpk : pk = 1 ∨ (pk = 2 ∧ ini = true)) (hfit : g_fit ft v) (h : g_pt (σ a) ci k f)
    (kk : ∀ fs, f fs → g_G p l e R s m args below meth c0 Q D cl A nL (pc + 3) lv st (g_up σ a (g_ob ci (fs.set k v))) c z) : g_G p l e R s m args below meth c0 Q D cl A nL pc lv (v :: .ref a :: st) σ c z := by
  intro H locs ls hH hA hS hl
  obtain ⟨hx, hb, -, hown, hts, hK, hN, -, -, hsX, hsl, hsA⟩ := X
  unfold g_pt at h
  split at h
  case h_2 => exact h.elim
  case h_1 c' fs hσ =>
    obtain ⟨rfl, hlen, h⟩ := h
    obtain ⟨ws, hP, hD, hm⟩ := id hH
    obtain ⟨q0, hq⟩ := hm a _ hσ
    obtain ⟨C, F, N, ty, h1, h2, h3, h4, h5, h6, h7⟩ := hF idx _ k ft pk hT
    obtain ⟨hn, hft⟩ := g_fit_ok h5 hfit
    obtain ⟨hw, ⟨ty0, hty⟩, hnm⟩ := hC _ _ _ _ h1
    have hDA : va_D A ws := hD.weaken (fun _ q _ hq => hA _ hq)
    have fin : ∀ (H1 : Heap) (locs1 : List Loc), va_P D.1 cl (ws.set q0 (a, .inr (c', fs.set k v))) H1 → va_D A (ws.set q0 (a, .inr (c', fs.set k v))) → va_S A s.heap H1 locs1 → W p l e R s m args below meth c0 H1 locs1 c z Q (F0 m (pc + 3) ls st) := by
      intro H1 locs1 g1 g2 g3
      refine kk _ h H1 locs1 ls (g_H_set (e' := g_ob c' (fs.set k v)) hD hm hq g1) ?_ g3 hl
      intro q ⟨e, he⟩
      by_cases hqa : q = a
      · subst hqa; exact hA _ ⟨_, hσ⟩
      · rw [g_up_n hqa] at he; exact hA _ ⟨_, he⟩
    rcases hpk with rfl | ⟨rfl, hi⟩
    · rcases h7 with ⟨h7, -⟩ | ⟨⟨host, h7⟩, -⟩
      · exact va_put (D := D.1) hx hb hts hw ty0 hty hnm hown hK hP hDA hS q0 hq h1 k h2 (hts _ h7) (fun x hx => by rw [h3] at hx; exact hx) (h6 rfl) h4 hn hft hlen hd fin
      · exact va_putN (D := D.1) hx hb hts hw ty0 hty hnm hown hK hP hDA hS q0 hq h1 k h2 (va_Nw.use rfl (hN _ h7)) (fun x hx => by rw [h3] at hx; exact hx) (h6 rfl) h4 hn hft hlen hd fin
    · rcases h7 with ⟨h7, h8⟩ | ⟨-, h8⟩
      · exact va_putF (D := D.1) hx hb hts hw ty0 hty hnm hown hK hP hDA hS q0 hq h1 k h2 (hts _ h7) (fun x hx => by rw [h3] at hx; exact hx) (h8 rfl).1 (hini hi) (h3.trans (h8 rfl).2) h4 hn hft hlen hd fin
      · exact absurd rfl h8
theorem g_dom_up' {a : Nat} {e' : gE} {e0 : gE} (hσ : σ a = some e0) (hA : ∀ q, g_dom σ q → A q) : ∀ q, g_dom (g_up σ a e') q → A q := by
  intro q ⟨e, he⟩
  by_cases hqa : q = a
  · subst hqa; exact hA _ ⟨_, hσ⟩
  · rw [g_up_n hqa] at he; exact hA _ ⟨_, he⟩
theorem g_dom_new {a : Nat} {e' : gE} (ha : A a) (hA : ∀ q, g_dom σ q → A q) : ∀ q, g_dom (g_up σ a e') q → A q := by
  intro q ⟨e, he⟩
  by_cases hqa : q = a
  · subst hqa; exact ha
  · rw [g_up_n hqa] at he; exact hA _ ⟨_, he⟩
theorem g_s_iald (X : g_X sc p s m args meth c0 D cl A nL cc own tbl nest aT ao) (h0 : aT[0]? = some .int) {a : Nat} {i : Int32} {f : (Nat → Int32) → Prop} (hd : decode cc pc = .ok (.iaload, 1)) (h : g_lds sc a (σ a) i f)
    (kk : ∀ g, f g → g_G p l e R s m args below meth c0 Q D cl A nL (pc + 1) lv (.int (g i.toNatClampNeg) :: st) σ c z) : g_G p l e R s m args below meth c0 Q D cl A nL pc lv (.int i :: .ref a :: st) σ c z := by
  intro H locs ls hH hA hS hl
  obtain ⟨hx, hb, -, hown, hts, hK, hN, -, -, hsX, hsl, hsA⟩ := X
  unfold g_lds at h
  split at h
  case h_1 t' n g hσ =>
    obtain ⟨rfl, hin, h⟩ := h
    obtain ⟨ws, hP, hD, hm⟩ := id hH
    obtain ⟨q0, hq⟩ := hm a _ hσ
    exact va_iald (D := D.1) hx hb hK hP q0 0 hq (g_tys_at h0) hin hd (kk _ h H locs ls hH hA hS hl)
  case h_2 hσ =>
    obtain ⟨rfl, hin, h⟩ := h
    exact va_sld hx hb hsX hsl hsA hS hin hd (kk _ h H locs ls hH hA hS hl)
  case h_3 => exact h.elim
theorem g_s_bald (X : g_X sc p s m args meth c0 D cl A nL cc own tbl nest aT ao) (h0 : aT[1]? = some .boolean) {a : Nat} {i : Int32} {f : Nat → (Nat → Int32) → Prop} (hd : decode cc pc = .ok (.baload, 1)) (h : g_ai (σ a) 1 i f)
    (kk : ∀ n g, f n g → g_G p l e R s m args below meth c0 Q D cl A nL (pc + 1) lv (.int (g i.toNatClampNeg) :: st) σ c z) : g_G p l e R s m args below meth c0 Q D cl A nL pc lv (.int i :: .ref a :: st) σ c z := by
  intro H locs ls hH hA hS hl
  obtain ⟨hx, hb, -, hown, hts, hK, hN, -, -, hsX, hsl, hsA⟩ := X
  unfold g_ai at h
  split at h
  case h_2 => exact h.elim
  case h_1 t' n g hσ =>
    obtain ⟨rfl, hin, h⟩ := h
    obtain ⟨ws, hP, hD, hm⟩ := id hH
    obtain ⟨q0, hq⟩ := hm a _ hσ
    exact va_zald (D := D.1) hx hb hK hP q0 1 hq (g_tys_at h0) hin hd (kk _ _ h H locs ls hH hA hS hl)
theorem g_s_lald (X : g_X sc p s m args meth c0 D cl A nL cc own tbl nest aT ao) (h0 : aT[2]? = some .long) {a : Nat} {i : Int32} {f : Nat → (Nat → Int64) → Prop} (hd : decode cc pc = .ok (.laload, 1)) (h : g_al (σ a) 2 i f)
    (kk : ∀ n g, f n g → g_G p l e R s m args below meth c0 Q D cl A nL (pc + 1) lv (.long (g i.toNatClampNeg) :: st) σ c z) : g_G p l e R s m args below meth c0 Q D cl A nL pc lv (.int i :: .ref a :: st) σ c z := by
  intro H locs ls hH hA hS hl
  obtain ⟨hx, hb, -, hown, hts, hK, hN, -, -, hsX, hsl, hsA⟩ := X
  unfold g_al at h
  split at h
  case h_2 => exact h.elim
  case h_1 t' n g hσ =>
    obtain ⟨rfl, hin, h⟩ := h
    obtain ⟨ws, hP, hD, hm⟩ := id hH
    obtain ⟨q0, hq⟩ := hm a _ hσ
    exact va_lald (D := D.1) hx hb hK hP q0 2 hq (g_tys_at h0) hin hd (kk _ _ h H locs ls hH hA hS hl)
theorem g_s_aald (X : g_X sc p s m args meth c0 D cl A nL cc own tbl nest aT ao) {el : Nat → Option Nat} (hE : g_EOK el cl aT) {a : Nat} {i : Int32} {f : Nat → Nat → (Nat → Option Nat) → Prop} (hd : decode cc pc = .ok (.aaload, 1)) (h : g_ar el (σ a) i f)
    (k1 : ∀ t n g, f t n g → g i.toNatClampNeg = none → g_G p l e R s m args below meth c0 Q D cl A nL (pc + 1) lv (.null :: st) σ c z) (k2 : ∀ t n g q, f t n g → g i.toNatClampNeg = some q → g_G p l e R s m args below meth c0 Q D cl A nL (pc + 1) lv (.ref q :: st) σ c z) : g_G p l e R s m args below meth c0 Q D cl A nL pc lv (.int i :: .ref a :: st) σ c z := by
  intro H locs ls hH hA hS hl
  obtain ⟨hx, hb, -, hown, hts, hK, hN, -, -, hsX, hsl, hsA⟩ := X
  unfold g_ar at h
  split at h
  case h_2 => exact h.elim
  case h_1 t' n g hσ =>
    obtain ⟨hel, hin, h⟩ := h
    obtain ⟨ws, hP, hD, hm⟩ := id hH
    obtain ⟨q0, hq⟩ := hm a _ hσ
    obtain ⟨C, hC⟩ := hE.1 t' hel
    refine va_aldq (D := D.1) hx hb hK hP q0 t' hq (g_tys_at hC) hin hd ?_
    cases hg : g i.toNatClampNeg with
    | none => exact k1 _ _ _ h hg H locs ls hH hA hS hl
    | some q => exact k2 _ _ _ q h hg H locs ls hH hA hS hl
theorem g_s_iast (X : g_X sc p s m args meth c0 D cl A nL cc own tbl nest aT ao) (h0 : aT[0]? = some .int) {a : Nat} {i x : Int32} {f : Nat → (Nat → Int32) → Prop} (hd : decode cc pc = .ok (.iastore, 1)) (h : g_ai (σ a) 0 i f)
    (kk : ∀ n g, f n g → g_G p l e R s m args below meth c0 Q D cl A nL (pc + 1) lv st (g_up σ a (g_ia 0 n (upd g i.toNatClampNeg x))) c z) : g_G p l e R s m args below meth c0 Q D cl A nL pc lv (.int x :: .int i :: .ref a :: st) σ c z := by
  intro H locs ls hH hA hS hl
  obtain ⟨hx, hb, -, hown, hts, hK, hN, -, -, hsX, hsl, hsA⟩ := X
  unfold g_ai at h
  split at h
  case h_2 => exact h.elim
  case h_1 t' n g hσ =>
    obtain ⟨rfl, hin, h⟩ := h
    obtain ⟨ws, hP, hD, hm⟩ := id hH
    obtain ⟨q0, hq⟩ := hm a _ hσ
    have hDA : va_D A ws := hD.weaken (fun _ q _ hq => hA _ hq)
    exact va_iast (D := D.1) hx hb hK hP hDA hS q0 0 hq (g_tys_at h0) hin hd fun H1 locs1 g1 g2 g3 => kk _ _ h H1 locs1 ls (g_H_set (e' := g_ia 0 n (upd g i.toNatClampNeg x)) hD hm hq g1) (g_dom_up' hσ hA) g3 hl
theorem g_nar1 {x : Int32} (h : x = 0 ∨ x = 1) : vp_nar .boolean x = x := by
  rcases h with rfl | rfl <;> decide +kernel
theorem g_s_bast (X : g_X sc p s m args meth c0 D cl A nL cc own tbl nest aT ao) (h0 : aT[1]? = some .boolean) {a : Nat} {i x : Int32} {f : Nat → (Nat → Int32) → Prop} (hd : decode cc pc = .ok (.bastore, 1)) (hx1 : x = 0 ∨ x = 1) (h : g_ai (σ a) 1 i f)
    (kk : ∀ n g, f n g → g_G p l e R s m args below meth c0 Q D cl A nL (pc + 1) lv st (g_up σ a (g_ia 1 n (upd g i.toNatClampNeg x))) c z) : g_G p l e R s m args below meth c0 Q D cl A nL pc lv (.int x :: .int i :: .ref a :: st) σ c z := by
  intro H locs ls hH hA hS hl
  obtain ⟨hx, hb, -, hown, hts, hK, hN, -, -, hsX, hsl, hsA⟩ := X
  unfold g_ai at h
  split at h
  case h_2 => exact h.elim
  case h_1 t' n g hσ =>
    obtain ⟨rfl, hin, h⟩ := h
    obtain ⟨ws, hP, hD, hm⟩ := id hH
    obtain ⟨q0, hq⟩ := hm a _ hσ
    have hDA : va_D A ws := hD.weaken (fun _ q _ hq => hA _ hq)
    refine va_zast (D := D.1) hx hb hK hP hDA hS q0 1 hq (g_tys_at h0) hin hd fun H1 locs1 g1 g2 g3 => ?_
    rw [g_nar1 hx1] at g1
    exact kk _ _ h H1 locs1 ls (g_H_set (e' := g_ia 1 n (upd g i.toNatClampNeg x)) hD hm hq g1) (g_dom_up' hσ hA) g3 hl
theorem g_s_last (X : g_X sc p s m args meth c0 D cl A nL cc own tbl nest aT ao) (h0 : aT[2]? = some .long) {a : Nat} {i : Int32} {x : Int64} {f : Nat → (Nat → Int64) → Prop} (hd : decode cc pc = .ok (.lastore, 1)) (h : g_al (σ a) 2 i f)
    (kk : ∀ n g, f n g → g_G p l e R s m args below meth c0 Q D cl A nL (pc + 1) lv st (g_up σ a (g_la 2 n (vp_updL g i.toNatClampNeg x))) c z) : g_G p l e R s m args below meth c0 Q D cl A nL pc lv (.long x :: .int i :: .ref a :: st) σ c z := by
  intro H locs ls hH hA hS hl
  obtain ⟨hx, hb, -, hown, hts, hK, hN, -, -, hsX, hsl, hsA⟩ := X
  unfold g_al at h
  split at h
  case h_2 => exact h.elim
  case h_1 t' n g hσ =>
    obtain ⟨rfl, hin, h⟩ := h
    obtain ⟨ws, hP, hD, hm⟩ := id hH
    obtain ⟨q0, hq⟩ := hm a _ hσ
    have hDA : va_D A ws := hD.weaken (fun _ q _ hq => hA _ hq)
    exact va_last (D := D.1) hx hb hK hP hDA hS q0 2 hq (g_tys_at h0) hin hd fun H1 locs1 g1 g2 g3 => kk _ _ h H1 locs1 ls (g_H_set (e' := g_la 2 n (vp_updL g i.toNatClampNeg x)) hD hm hq g1) (g_dom_up' hσ hA) g3 hl
theorem g_s_aastN (X : g_X sc p s m args meth c0 D cl A nL cc own tbl nest aT ao) {el : Nat → Option Nat} (hE : g_EOK el cl aT) {a : Nat} {i : Int32} {f : Nat → Nat → (Nat → Option Nat) → Prop} (hd : decode cc pc = .ok (.aastore, 1)) (h : g_ar el (σ a) i f)
    (kk : ∀ t n g, f t n g → g_G p l e R s m args below meth c0 Q D cl A nL (pc + 1) lv st (g_up σ a (g_ra t n (va_up g i.toNatClampNeg none))) c z) : g_G p l e R s m args below meth c0 Q D cl A nL pc lv (.null :: .int i :: .ref a :: st) σ c z := by
  intro H locs ls hH hA hS hl
  obtain ⟨hx, hb, -, hown, hts, hK, hN, -, -, hsX, hsl, hsA⟩ := X
  obtain ⟨ws, hP, hD, hm⟩ := id hH
  have hDA : va_D A ws := hD.weaken (fun _ q _ hq => hA _ hq)
  unfold g_ar at h
  split at h
  case h_2 => exact h.elim
  case h_1 t n g hσ =>
    obtain ⟨hel, hin, h⟩ := h
    obtain ⟨q0, hq⟩ := hm a _ hσ
    obtain ⟨C, hC⟩ := hE.1 t hel
    exact va_astqN (D := D.1) hx hb hK hP hDA hS q0 t hq (g_tys_at hC) hin hd fun H1 locs1 g1 g2 g3 => kk _ _ _ h H1 locs1 ls (g_H_set (e' := g_ra t n (va_up g i.toNatClampNeg none)) hD hm hq g1) (g_dom_up' hσ hA) g3 hl
theorem g_s_aast (X : g_X sc p s m args meth c0 D cl A nL cc own tbl nest aT ao) {el : Nat → Option Nat} (hE : g_EOK el cl aT) {a q : Nat} {i : Int32} {f : Nat → Nat → (Nat → Option Nat) → Prop} (hd : decode cc pc = .ok (.aastore, 1)) (h : g_ar el (σ a) i (fun t n g => g_cls (σ q) (fun cq => el t = some cq) ∧ f t n g))
    (kk : ∀ t n g, f t n g → g_G p l e R s m args below meth c0 Q D cl A nL (pc + 1) lv st (g_up σ a (g_ra t n (va_up g i.toNatClampNeg (some q)))) c z) : g_G p l e R s m args below meth c0 Q D cl A nL pc lv (.ref q :: .int i :: .ref a :: st) σ c z := by
  intro H locs ls hH hA hS hl
  obtain ⟨hx, hb, -, hown, hts, hK, hN, -, -, hsX, hsl, hsA⟩ := X
  obtain ⟨ws, hP, hD, hm⟩ := id hH
  have hDA : va_D A ws := hD.weaken (fun _ q _ hq => hA _ hq)
  unfold g_ar at h
  split at h
  case h_2 => exact h.elim
  case h_1 t n g hσ =>
    obtain ⟨-, hin, hcq, h⟩ := h
    unfold g_cls at hcq
    split at hcq
    case h_2 => exact hcq.elim
    case h_1 c' fs hσq =>
      obtain ⟨q0, hq⟩ := hm a _ hσ
      obtain ⟨qk, hqk⟩ := hm q _ hσq
      obtain ⟨C, F, N, h1, h2⟩ := hE.2 t c' hcq
      exact va_astq (D := D.1) (r := (C, F, N)) hx hb hK hP hDA hS q0 t qk c' hq (g_tys_at h1) hqk h2 hin hd fun H1 locs1 g1 g2 g3 => kk _ _ _ h H1 locs1 ls (g_H_set (e' := g_ra t n (va_up g i.toNatClampNeg (some q))) hD hm hq g1) (g_dom_up' hσ hA) g3 hl
theorem g_s_len (X : g_X sc p s m args meth c0 D cl A nL cc own tbl nest aT ao) (h0 : aT[0]? = some .int) (h1 : aT[1]? = some .boolean) (h2 : aT[2]? = some .long) {el : Nat → Option Nat} (hE : g_EOK el cl aT) {a : Nat} {f : Int32 → Prop} (hd : decode cc pc = .ok (.arraylength, 1)) (h : g_len sc el a (σ a) f)
    (kk : ∀ x, f x → g_G p l e R s m args below meth c0 Q D cl A nL (pc + 1) lv (.int x :: st) σ c z) : g_G p l e R s m args below meth c0 Q D cl A nL pc lv (.ref a :: st) σ c z := by
  intro H locs ls hH hA hS hl
  obtain ⟨hx, hb, -, hown, hts, hK, hN, -, -, hsX, hsl, hsA⟩ := X
  obtain ⟨ws, hP, hD, hm⟩ := id hH
  unfold g_len at h
  split at h
  case h_1 hσ =>
    obtain ⟨rfl, h⟩ := h
    exact va_slen hx hb hsX hsl hsA hS hd (kk _ h H locs ls hH hA hS hl)
  case h_2 t n g hσ =>
    obtain ⟨ht, h⟩ := h
    obtain ⟨q0, hq⟩ := hm a _ hσ
    rcases ht with rfl | rfl
    · exact va_alen (D := D.1) hx hb hK hP q0 0 hq (g_tys_at h0) (v := nI n) rfl hd (kk _ h H locs ls hH hA hS hl)
    · exact va_alen (D := D.1) hx hb hK hP q0 1 hq (g_tys_at h1) (v := nI n) rfl hd (kk _ h H locs ls hH hA hS hl)
  case h_3 t n g hσ =>
    obtain ⟨rfl, h⟩ := h
    obtain ⟨q0, hq⟩ := hm a _ hσ
    exact va_alen (D := D.1) hx hb hK hP q0 2 hq (g_tys_at h2) (v := nI n) rfl hd (kk _ h H locs ls hH hA hS hl)
  case h_4 t n g hσ =>
    obtain ⟨ht, h⟩ := h
    obtain ⟨q0, hq⟩ := hm a _ hσ
    obtain ⟨C, hC⟩ := hE.1 t ht
    exact va_alen (D := D.1) hx hb hK hP q0 t hq (g_tys_at hC) (v := nI n) rfl hd (kk _ h H locs ls hH hA hS hl)
  case h_5 => exact h.elim
theorem g_cA {cA : ClassId} {ty : FieldType} {t : Nat} (hK : va_K D.1 cl (g_tys D aT ++ [(cA, ty)]) s) (h : aT[t]? = some ty) : cA = D.2 t := by
  have hl : (g_tys D aT)[t]? = some (D.2 t, ty) := g_tys_at h
  have h1 := (hK.2 t (D.2 t, ty) (by rw [List.getElem?_append_left (List.getElem?_eq_some_iff.mp hl).1]; exact hl)).2
  have h2 := (hK.2 (g_tys D aT).length (cA, ty) (by simp)).2
  cases ty with
  | object C =>
    obtain ⟨_, _, _, _, _, a⟩ := h1
    obtain ⟨_, _, _, _, _, b⟩ := h2
    exact Option.some.inj (b.symm.trans a)
  | _ => exact Option.some.inj (Eq.trans (Eq.symm h2) h1)
theorem g_s_new (X : g_X sc p s m args meth c0 D cl A nL cc own tbl nest aT ao) (hC : g_COK cl tbl) (hN : g_NOK T own cl tbl) {idx ci : Nat} {fs : List Value} (hT : T.2.2.1 idx = some (ci, fs)) (hd : decode cc pc = .ok (.new idx, 3)) (hr : c + 1 ≤ R.cells) (hz : z + fs.length ≤ R.slots)
    (kk : ∀ q, σ q = none → q ≠ sc.1 → g_G p l e R s m args below meth c0 Q D cl A nL (pc + 3) lv (.ref q :: st) (g_up σ q (g_ob ci fs)) (c + 1) (z + fs.length)) : g_G p l e R s m args below meth c0 Q D cl A nL pc lv st σ c z := by
  intro H locs ls hH hA hS hl
  obtain ⟨hx, hb, -, hown, hts, hK, -, -, hfr, -, -, hsA⟩ := X
  obtain ⟨ws, hP, hD, hm⟩ := id hH
  have hDA : va_D A ws := hD.weaken (fun _ q _ hq => hA _ hq)
  obtain ⟨C, F, N, h1, rfl, h3, h4, h5, ty, h6, h7⟩ := hN idx ci fs hT
  refine va_new (D := D.1) hx hb hts (hC _ _ _ _ h1).1 ty h6 hown (hts _ h3) (hts _ h4) (hts _ h5) hK hP hDA hS hfr h1 h7 hr hz hd fun q H1 g1 g2 g3 => ?_
  obtain ⟨k1, k2⟩ := g_H_new (e := g_ob ci fs) hD hm g1 g2
  exact kk q k1 (fun z => hsA (z ▸ g2.2 ws.length (q, .inr (ci, fs)) (by simp))) H1 locs ls k2 (g_dom_new (g2.2 ws.length (q, .inr (ci, fs)) (by simp)) hA) g3 hl
theorem g_s_newi (X : g_X sc p s m args meth c0 D cl A nL cc own tbl nest aT ao) {ty : ArrayType} {fty : FieldType} {t : Nat} {a0 : vp_A} {e0 : gE} {n : Int32} (hf : newarray.typeOf ty = fty) (ht : aT[t]? = some fty) (hw : Jvm.Cond.arrayClass fty ∈ tbl) (ha : ∀ cA : ClassId, vp_cell cA a0 = arrV cA n.toNatClampNeg (fun _ => defaultValue fty)) (he : g_V D e0 = .inl (D.2 t, a0)) (hcb : componentBytes fty ≤ 8) (hn : ¬ n < 0) (hb60 : n.toNatClampNeg ≤ 60000000) (hd : decode cc pc = .ok (.newarray ty, 2)) (hr : c + 1 ≤ R.cells) (hz : z + n.toNatClampNeg ≤ R.slots)
    (kk : ∀ q, σ q = none → g_G p l e R s m args below meth c0 Q D cl A nL (pc + 2) lv (.ref q :: st) (g_up σ q e0) (c + 1) (z + n.toNatClampNeg)) : g_G p l e R s m args below meth c0 Q D cl A nL pc lv (.int n :: st) σ c z := by
  intro H locs ls hH hA hS hl
  obtain ⟨hx, hb, -, hown, hts, hK, -, -, hfr, -, -, -⟩ := X
  obtain ⟨ws, hP, hD, hm⟩ := id hH
  have hDA : va_D A ws := hD.weaken (fun _ q _ hq => hA _ hq)
  have hby : n.toNatClampNeg * componentBytes fty ≤ 536870912 := by
    have := Nat.mul_le_mul hb60 hcb
    omega
  subst hf
  refine va_newa (D := D.1) hx hb (hts _ hw) rfl hK hP hDA hS hfr (a0 := a0) ha hn rfl hby hr hz hd fun q cA H1 g0 g1 g2 g3 => ?_
  have hcA := g_cA g0 ht
  subst hcA
  rw [← he] at g1 g2
  obtain ⟨k1, k2⟩ := g_H_new hD hm g1 g2
  exact kk q k1 H1 locs ls k2 (g_dom_new (g2.2 ws.length (q, g_V D e0) (by simp)) hA) g3 hl
theorem g_s_newr (X : g_X sc p s m args meth c0 D cl A nL cc own tbl nest aT ao) (hAO : g_AOK T own tbl aT ao) {idx t : Nat} {n : Int32} (hT : T.2.2.2.1 idx = some t) (hn : ¬ n < 0) (hb60 : n.toNatClampNeg ≤ 60000000) (hd : decode cc pc = .ok (.anewarray idx, 3)) (hr : c + 1 ≤ R.cells) (hz : z + n.toNatClampNeg ≤ R.slots)
    (kk : ∀ q, σ q = none → g_G p l e R s m args below meth c0 Q D cl A nL (pc + 3) lv (.ref q :: st) (g_up σ q (g_ra t n.toNatClampNeg (fun _ => none))) (c + 1) (z + n.toNatClampNeg)) : g_G p l e R s m args below meth c0 Q D cl A nL pc lv (.int n :: st) σ c z := by
  intro H locs ls hH hA hS hl
  obtain ⟨hx, hb, -, hown, hts, hK, -, hO, hfr, -, -, -⟩ := X
  obtain ⟨ws, hP, hD, hm⟩ := id hH
  have hDA : va_D A ws := hD.weaken (fun _ q _ hq => hA _ hq)
  obtain ⟨C, h1, h2, h3⟩ := hAO idx t hT
  refine va_newq (D := D.1) hx hb hown (hts _ h2) (hO _ h3) hK hP hDA hS hfr hn rfl (by omega) hr hz hd fun q cA H1 g0 g1 g2 g3 => ?_
  have hcA := g_cA g0 h1
  subst hcA
  obtain ⟨k1, k2⟩ := g_H_new (e := g_ra t n.toNatClampNeg (fun _ => none)) hD hm g1 g2
  exact kk q k1 H1 locs ls k2 (g_dom_new (g2.2 ws.length (q, g_V D (g_ra t n.toNatClampNeg (fun _ => none))) (by simp [g_V, g_ra])) hA) g3 hl
theorem g_catsum : ∀ (r : List Value), r.length ≤ 4 → (r.map fun v => v.category).sum ≤ 8 := by
  have key : ∀ (r : List Value), (r.map fun v => v.category).sum ≤ 2 * r.length := by
    intro r
    induction r with
    | nil => simp
    | cons v r ih =>
      have : v.category ≤ 2 := by cases v <;> simp [Value.category]
      simp only [List.map_cons, List.sum_cons, List.length_cons]
      omega
  intro r h
  have := key r
  omega
theorem g_tab_warm {s U : State} (hn : g_nst nest) (hW : s.WarmedH U.vm) (h : g_tab D cl aT ao nest s) : g_tab D cl aT ao nest U := by
  refine ⟨va_K.moved hW.alike h.1, fun w hw => ?_, fun C hC => va_AO.moved hW.alike (h.2.2 C hC)⟩
  have h1 := h.2.1 w hw
  rcases hn w hw with ⟨a, i, b, n, d, hh, rfl⟩ | ⟨a, i, x, hh, rfl⟩
  · exact va_Nw.warmF hW h1
  · exact va_Nw.warmM hW h1
theorem g_blind {av : List Value} {sz : Nat} (hn : g_nst nest) : FrameBlind (g_Pc sc D cl aT ao nest av σ sz) := by
  intro a U g mk q
  obtain ⟨q0, q1, qH, qX, qK, qN, qO⟩ := q
  refine ⟨q0, q1, qH, ⟨va_X.moved (u := U) (U := U.calling g mk a) (Vm.Alike.refl U.vm) qX.1, qX.2⟩, va_K.moved (u := U) (U := U.calling g mk a) (Vm.Alike.refl U.vm) qK, fun w hw => ?_, fun C hC => va_AO.moved (u := U) (U := U.calling g mk a) (Vm.Alike.refl U.vm) (qO C hC)⟩
  have h1 := qN w hw
  rcases hn w hw with ⟨a, i, b, n, d, hh, rfl⟩ | ⟨a, i, x, hh, rfl⟩
  · exact va_Nw.same (u := U) rfl rfl h1
  · exact va_Nw.same (u := U) rfl rfl h1
theorem g_run {H : Heap} {locs : List Loc} {ls : Array Slot} {st0 rest : List Value} {c' z' : Nat} {P : gP} {a : Array Value} (hr : va_Run p l e R s m args below meth c0 H locs c z c' z' (F0 m pc ls st0) rest (g_Q D cl P (g_A σ H.size) a) (g_A σ H.size)) (hA : ∀ q, g_dom σ q → A q) (hfr : ∀ q, s.heap.size ≤ q → A q) (hS : va_S A s.heap H locs)
    (kk : ∀ (r : Option Value) (σ' : gS), P r σ' → ∀ (H1 : Heap) (locs1 : List Loc), g_H D cl σ' H1 → (∀ q, g_dom σ' q → A q) → va_S A s.heap H1 locs1 → W p l e R s m args below meth c0 H1 locs1 (c + c') (z + z') Q (F0 m (pc + 3) ls (r.toList ++ rest))) : W p l e R s m args below meth c0 H locs c z Q (F0 m pc ls st0) := by
  have hAA : ∀ q, g_A σ H.size q → A q := fun q h => by
    rcases h with h | h
    · exact hA q h
    · exact hfr q (Nat.le_trans hS.1 h)
  intro T hT X
  obtain ⟨v, st₀, t, T', L, h0, X', hL, e1, e2, ⟨⟨r, σ', hv, hp, hH, hd⟩, hz, hk⟩, stp⟩ := hr T hT X
  cases hv
  rw [h0] at hz hk
  obtain ⟨t2, a1, b1⟩ := kk v σ' hp T'.heap (locs ++ L) (by rw [e1]; exact hH) (fun q h => hAA q (hd q h))
    ⟨Nat.le_trans hS.1 (by rw [e1]; exact hz), fun q h1 h2 => by rw [e1, hk q (Nat.lt_of_lt_of_le h1 hS.1) (fun zz => h2 (hAA q zz))]; exact hS.2.1 q h1 h2, fun q hq => by
      rcases List.mem_append.mp hq with h | h
      · exact hS.2.2 q h
      · exact hAA _ (hL q h)⟩ T' rfl X'
  exact ⟨t2, stp t2 a1, b1⟩
def g_ins (iv idx : Nat) : Instr := match iv with
  | 0 => .invokestatic idx
  | 1 => .invokespecial idx
  | _ => .invokevirtual idx
theorem g_rv_spec {k : Nat} {av : List Value} (h : g_rv σ k av) : ∃ b As fs, av = .ref b :: As ∧ σ b = some (g_ob k fs) := by
  unfold g_rv at h
  split at h
  · rename_i b As
    unfold g_cls at h
    split at h
    · rename_i c fs hs
      subst h
      exact ⟨b, As, fs, rfl, hs⟩
    · exact h.elim
  · exact h.elim
theorem g_s_call (X : g_X sc p s m args meth c0 D cl A nL cc own tbl nest aT ao) (hg : g_good tbl) (hn : g_nst nest) (hK : g_CallOK l sc R T own cl tbl nest aT ao) {idx na kind c' z' iv : Nat} {sp : gSpec} {P : gP} {i : Instr} (hT : T.2.1 idx = some (na, kind, sp, c', z')) (hiv : min kind 2 = iv) (hi : i = g_ins iv idx) (hd : decode cc pc = .ok (i, 3))
    (hna : na ≤ st.length) (h4 : (st.drop na).length ≤ 4) (hc : c + c' ≤ R.cells) (hz : z + z' ≤ R.slots) (hrc : g_rcv σ kind (st.take na).reverse) (hsp : sp (st.take na).reverse σ P)
    (kk : ∀ (r : Option Value) (σ' : gS), P r σ' → g_G p l e R s m args below meth c0 Q D cl A nL (pc + 3) lv (r.toList ++ st.drop na) σ' (c + c') (z + z')) : g_G p l e R s m args below meth c0 Q D cl A nL pc lv st σ c z := by
  intro H locs ls hH hA hS hl
  obtain ⟨hx, hb, hml, hown, hts, hKs, hNs, hO, hfr, hsX, hsl, hsA⟩ := X
  obtain ⟨y, b, nL', ret, rm, hM, r1, r2, r3, r4, w1, w2, hy, hlk, hkd⟩ := hK idx na kind sp c' z' hT
  generalize hav : (st.take na).reverse = av at hrc hsp
  generalize hrest : st.drop na = rest at h4 kk
  have hst : st = av.reverse ++ rest := by rw [← hav, ← hrest, List.reverse_reverse, List.take_append_drop]
  have hlen : av.length = na := by rw [← hav]; simp; omega
  have hG : GoodIn tbl (Jvm.Cond.code y b nL' ret :: tbl) := by
    intro w hw
    rcases List.mem_cons.mp hw with rfl | hw
    · exact ⟨w1, hg _ w1⟩
    · exact ⟨hw, hg _ hw⟩
  have hws := pay_in hts hG
  have hM1 := hM D H.size av σ P hsp
  have hPc : ∀ U : State, U.heap = H → s.WarmedH U.vm → g_Pc sc D cl aT ao nest av σ H.size av.toArray U := fun U hU hW =>
    ⟨rfl, by rw [hU], by rw [hU]; exact hH, ⟨va_X.moved hW.alike (by rw [hU]; exact hsX.kept (hS.2.1 _ hsl hsA)), Nat.lt_of_lt_of_le hsl hS.1, fun hdm => hsA (hA _ hdm)⟩, g_tab_warm hn hW ⟨hKs, hNs, hO⟩⟩
  have hrm : 2 * (F0 m pc ls st).monitorRoom + (rest.map fun v => v.category).sum ≤ 8 := lv_room (rest := st) (g_catsum rest h4)
  have fin : ∀ (r : Option Value) (σ' : gS), P r σ' → ∀ (H1 : Heap) (locs1 : List Loc), g_H D cl σ' H1 → (∀ q, g_dom σ' q → A q) → va_S A s.heap H1 locs1 → W p l e R s m args below meth c0 H1 locs1 (c + c') (z + z') Q (F0 m (pc + 3) ls (r.toList ++ rest)) :=
    fun r σ' hp H1 locs1 k1 k2 k3 => kk r σ' hp H1 locs1 ls k1 k2 k3 hl
  have hS5 : CallFix p m c0 cc nL s args tbl own := ⟨hx, hb, hml, hown, hts⟩
  match kind, hiv, hrc, hkd with
  | 0, hiv, hrc, hkd =>
    subst hiv
    subst hi
    have har : ∀ sig, parseMethodDescriptor y.desc = some sig → na = sig.parameters.length := fun sig hs => by
      have := hkd.1; rw [hs] at this; exact (Option.some.inj this).symm
    have hr : va_Run p l e R s m args below meth c0 H locs c z c' z' (F0 m pc ls st) rest (g_Q D cl P (g_A σ H.size) av.toArray) (g_A σ H.size) := by
      rcases hlk with hlk | ⟨host, hlk⟩
      · exact va_runS (n := na) hS5 hM1 ⟨⟨r1, r2, r3, r4, hws, List.mem_cons_self, hts _ w1, hts _ w2, hy, har, hts _ hlk⟩, hts _ hkd.2⟩ ⟨g_blind hn, hPc⟩ rfl hlen hl.1 hst hrm hd ⟨hc, hz⟩
      · exact va_runSN (n := na) hS5 hM1 ⟨⟨⟨r1, r2, r3, r4, hws, List.mem_cons_self⟩, hts _ w1, hts _ w2, hy, har, va_Nw.use rfl (hNs _ hlk)⟩, hts _ hkd.2, trivial⟩ ⟨g_blind hn, hPc⟩ rfl hlen hl.1 hst hrm hd ⟨hc, hz⟩
    exact g_run hr hA hfr hS fin
  | 1, hiv, hrc, hkd =>
    subst hiv
    subst hi
    obtain ⟨bb, As, rfl⟩ := hrc
    obtain ⟨hk1, hk2, rfl, hk3⟩ := hkd
    have har : ∀ sig, parseMethodDescriptor y.desc = some sig → As.length = sig.parameters.length := fun sig hs => by
      have h7 := hk1; rw [hs] at h7; simp only [Option.map_some, Option.some.injEq] at h7; simp at hlen; omega
    have hst' : (F0 m pc ls st).stack = As.reverse ++ .ref bb :: rest := by rw [hst]; simp
    have hr : va_Run p l e R s m args below meth c0 H locs c z c' z' (F0 m pc ls st) rest (g_Q D cl P (g_A σ H.size) (Value.ref bb :: As).toArray) (g_A σ H.size) := by
      rcases hlk with hlk | ⟨host, hlk⟩
      · exact va_runI (n := As.length) hS5 hM1 ⟨⟨r1, r2, r3, r4, hws, List.mem_cons_self, hts _ w1, hts _ w2, hy, har, hts _ hlk⟩, hk2, hts _ hk3⟩ ⟨g_blind hn, hPc⟩ rfl rfl hl.1 hst' hrm hd ⟨hc, hz⟩
      · exact va_runIN (n := As.length) hS5 hM1 ⟨⟨⟨r1, r2, r3, r4, hws, List.mem_cons_self⟩, hts _ w1, hts _ w2, hy, har, va_Nw.use rfl (hNs _ hlk)⟩, hk2, hts _ hk3⟩ ⟨g_blind hn, hPc⟩ rfl rfl hl.1 hst' hrm hd ⟨hc, hz⟩
    exact g_run hr hA hfr hS fin
  | k + 2, hiv, hrc, hkd =>
    have hiv2 : iv = 2 := by omega
    subst hiv2
    subst hi
    obtain ⟨hk1, hk3, C, F, N, hk4, hk5⟩ := hkd
    obtain ⟨bb, As, fsB, rfl, hσ⟩ := g_rv_spec hrc
    have har : ∀ sig, parseMethodDescriptor y.desc = some sig → As.length = sig.parameters.length := fun sig hs => by
      have h7 := hk1; rw [hs] at h7; simp only [Option.map_some, Option.some.injEq] at h7; simp at hlen; omega
    have hst' : (F0 m pc ls st).stack = As.reverse ++ .ref bb :: rest := by rw [hst]; simp
    obtain ⟨ws, hP, hD, hm⟩ := id hH
    obtain ⟨q0, hq⟩ := hm bb _ hσ
    have hcell := va_recv hKs hP hk4 hq
    have hr : va_Run p l e R s m args below meth c0 H locs c z c' z' (F0 m pc ls st) rest (g_Q D cl P (g_A σ H.size) (Value.ref bb :: As).toArray) (g_A σ H.size) := by
      rcases hlk with hlk | ⟨host, hlk⟩
      · exact va_runV (n := As.length) (C := C) hS5 hM1 ⟨⟨r1, r2, r3, r4, hws, List.mem_cons_self, hts _ w1, hts _ w2, hy, har, hts _ hlk⟩, hts _ hk3, hts _ hk5⟩ ⟨g_blind hn, hcell, hPc⟩ rfl rfl hl.1 hst' hrm hd ⟨hc, hz⟩
      · exact va_runVN (n := As.length) (C := C) hS5 hM1 ⟨⟨⟨r1, r2, r3, r4, hws, List.mem_cons_self⟩, hts _ w1, hts _ w2, hy, har, va_Nw.use rfl (hNs _ hlk)⟩, hts _ hk3, hts _ hk5⟩ ⟨g_blind hn, hcell, hPc⟩ rfl rfl hl.1 hst' hrm hd ⟨hc, hz⟩
    exact g_run hr hA hfr hS fin
def g_ln : Instr → Nat
  | .ldc2_w _ => 3
  | .iload _ => 2
  | .lload _ => 2
  | .aload _ => 2
  | .getfield _ => 3
  | .putfield _ => 3
  | .new _ => 3
  | .newarray _ => 2
  | .anewarray _ => 3
  | .invokevirtual _ => 3
  | .invokespecial _ => 3
  | .invokestatic _ => 3
  | _ => 1
def g_oki (nL pc : Nat) (i : Instr) (len : Nat) (c32 : Int32) (tg : List (Int × Nat)) : Bool := match i with
  | .iconst n => len == 1 && decide (Int32.ofInt n = c32)
  | .bipush n => len == 2 && decide ((Int8.ofInt n).toInt32 = c32)
  | .sipush n => len == 3 && decide ((Int16.ofInt n).toInt32 = c32)
  | .iinc j n => len == 3 && (decide (Int32.ofInt n = c32) && decide (j < nL))
  | .istore_n j => len == 1 && decide (j.val < nL)
  | .astore_n j => len == 1 && decide (j.val < nL)
  | .istore j => len == 2 && decide (j < nL)
  | .astore j => len == 2 && decide (j < nL)
  | .goto off => len == 3 && decide ((pc : Int) + off = (g_t tg : Int))
  | .if_icmp _ off => len == 3 && decide ((pc : Int) + off = (g_t tg : Int))
  | .ifCond _ off => len == 3 && decide ((pc : Int) + off = (g_t tg : Int))
  | .ifnull off => len == 3 && decide ((pc : Int) + off = (g_t tg : Int))
  | .ifnonnull off => len == 3 && decide ((pc : Int) + off = (g_t tg : Int))
  | .tableswitch d lo hi offs => decide (tg = (offs.toList.zipIdx.map (fun q => (lo + (q.2 : Int), ((pc : Int) + q.1).toNat))) ++ [(0, ((pc : Int) + d).toNat)]) && (offs.toList.all (fun o => decide (0 ≤ (pc : Int) + o)) && (decide (0 ≤ (pc : Int) + d) && decide (hi = lo + (offs.size : Int) - 1)))
  | .lookupswitch d ps => decide (tg = (ps.toList.map (fun q => (q.1, ((pc : Int) + q.2).toNat))) ++ [(0, ((pc : Int) + d).toNat)]) && (ps.toList.all (fun o => decide (0 ≤ (pc : Int) + o.2)) && (decide (0 ≤ (pc : Int) + d) && (ps.toList.zip (ps.toList.drop 1)).all (fun (a, next) => a.1 < next.1)))
  | i => len == g_ln i
def g_okb (cc : ByteArray) (nL : Nat) (code : gCd) : Bool := code.all (fun q => decide (decode cc q.1 = .ok (q.2.2.1, q.2.2.2.1)) && g_oki nL q.1 q.2.2.1 q.2.2.2.1 q.2.2.2.2.1 q.2.2.2.2.2)
theorem g_lookup {α : Type} {a : Nat} {b : α} : ∀ (l : List (Nat × α)), l.lookup a = some b → (a, b) ∈ l
  | [], h => by simp at h
  | (k, v) :: r, h => by
    rw [List.lookup_cons] at h
    by_cases hk : a = k
    · subst hk
      simp at h
      rw [h]
      exact List.mem_cons_self
    · have : (a == k) = false := by simpa using hk
      rw [this] at h
      exact List.mem_cons_of_mem _ (g_lookup r h)
theorem g_okb_ok {cc : ByteArray} {nL : Nat} {code : gCd} (h : g_okb cc nL code = true) {pc : Nat} {x : Option Nat} {ins : gI} (hl : code.lookup pc = some (x, ins)) : decode cc pc = .ok (ins.1, ins.2.1) ∧ g_oki nL pc ins.1 ins.2.1 ins.2.2.1 ins.2.2.2 = true := by
  have h1 := List.all_eq_true.mp h _ (g_lookup code hl)
  simpa only [Bool.and_eq_true, decide_eq_true_eq] using h1
theorem g_sw_look {x : Int32} {j : Nat → Prop} {pc : Nat} {d : Int} : ∀ (ps : List (Int × Int)), g_sw x j ((ps.map (fun q => (q.1, ((pc : Int) + q.2).toNat))) ++ [(0, ((pc : Int) + d).toNat)]) → j ((pc : Int) + Op.lookupswitch.offset ps d x.toInt).toNat
  | [], h => h
  | q :: ps, h => by
    obtain ⟨q2, r', hr⟩ : ∃ q2 r', (ps.map (fun q => (q.1, ((pc : Int) + q.2).toNat))) ++ [((0 : Int), ((pc : Int) + d).toNat)] = q2 :: r' := by
      cases ps with
      | nil => exact ⟨_, _, rfl⟩
      | cons a b => exact ⟨_, _, rfl⟩
    have h' : g_sw x j ((q.1, ((pc : Int) + q.2).toNat) :: ((ps.map (fun q => (q.1, ((pc : Int) + q.2).toNat))) ++ [((0 : Int), ((pc : Int) + d).toNat)])) := h
    rw [hr] at h'
    obtain ⟨a, o⟩ := q
    rw [Op.lookupswitch.offset_cons]
    by_cases hx : a = x.toInt
    · rw [if_pos hx]
      exact h'.1 hx.symm
    · rw [if_neg hx]
      have h2 := h'.2 (fun z => hx z.symm)
      rw [← hr] at h2
      exact g_sw_look ps h2
theorem g_sw_tab {x : Int32} {j : Nat → Prop} {pc : Nat} {lo : Int} {dt : Nat} : ∀ (os : List Int) (b : Nat), g_sw x j (((os.zipIdx b).map (fun q => (lo + (q.2 : Int), ((pc : Int) + q.1).toNat))) ++ [(0, dt)]) → (∀ (n : Nat) (off : Int), os[n]? = some off → x.toInt = lo + ((b + n : Nat) : Int) → j ((pc : Int) + off).toNat) ∧ ((∀ n : Nat, n < os.length → ¬ x.toInt = lo + ((b + n : Nat) : Int)) → j dt)
  | [], b, h => ⟨fun n off hn => by simp at hn, fun _ => h⟩
  | o :: os, b, h => by
    obtain ⟨q2, r', hr⟩ : ∃ q2 r', (((os.zipIdx (b + 1)).map (fun q => (lo + (q.2 : Int), ((pc : Int) + q.1).toNat))) ++ [((0 : Int), dt)]) = q2 :: r' := by
      cases os with
      | nil => exact ⟨_, _, rfl⟩
      | cons a b => exact ⟨_, _, rfl⟩
    have h' : g_sw x j ((lo + (b : Int), ((pc : Int) + o).toNat) :: (((os.zipIdx (b + 1)).map (fun q => (lo + (q.2 : Int), ((pc : Int) + q.1).toNat))) ++ [((0 : Int), dt)])) := h
    rw [hr] at h'
    refine ⟨fun n off hn hx => ?_, fun hx => ?_⟩
    · cases n with
      | zero =>
        simp at hn
        subst hn
        exact h'.1 (by simpa using hx)
      | succ n =>
        have hne : ¬ x.toInt = lo + (b : Int) := by
          intro z
          rw [z] at hx
          omega
        have h2 := h'.2 hne
        rw [← hr] at h2
        exact (g_sw_tab os (b + 1) h2).1 n off (by simpa using hn) (by rw [hx]; congr 2; omega)
    · have hne : ¬ x.toInt = lo + (b : Int) := by simpa using hx 0 (by simp)
      have h2 := h'.2 hne
      rw [← hr] at h2
      exact (g_sw_tab os (b + 1) h2).2 (fun n hn => by
        have := hx (n + 1) (by simp; omega)
        intro z
        exact this (by rw [z]; congr 2; omega))
def g_ret (rk : Nat) (i : Instr) (v : Option Value) : Prop := match i, v with
  | .ireturn, some (.int x) => rk = 1 ∨ (rk = 2 ∧ (x = 0 ∨ x = 1))
  | .areturn, some (.ref _) => rk = 3
  | .areturn, some .null => rk = 3
  | .return_, none => rk = 0
  | _, _ => False
theorem g_c1_ok {v : Value} (h : g_c1 v = true) : v.category = 1 := by
  cases v <;> simp [g_c1, Value.category] at h ⊢
set_option maxHeartbeats 4000000 in
set_option maxRecDepth 100000 in
theorem g_s_calls (X : g_X sc p s m args meth c0 D cl A nL cc own tbl nest aT ao) (hMO : g_MOK T own tbl) (hCall : g_CallOK l sc R T own cl tbl nest aT ao) (hg : g_good tbl) (hn : g_nst nest) {mc ms : Nat} (hR : mc ≤ R.cells ∧ ms ≤ R.slots) (hRf : 1 ≤ R.frames ∧ 21 ≤ R.locals) {iv idx : Nat} {i : Instr} {f : List Value → gS → Nat → Nat → Prop} (hi : i = g_ins iv idx) (hd : decode cc pc = .ok (i, 3)) (h : g_cl iv (T.2.2.2.2.2 idx) (T.2.1 idx) σ st c z mc ms f)
    (kk : ∀ st' σ' c' z', f st' σ' c' z' → g_G p l e R s m args below meth c0 Q D cl A nL (pc + 3) lv st' σ' c' z') : g_G p l e R s m args below meth c0 Q D cl A nL pc lv st σ c z := by
  have hts := X.2.2.2.2.1
  have hM := hMO idx
  unfold g_cl at h
  split at h
  case h_1 hT =>
    split at h
    case h_2 => exact h.elim
    case h_1 a s' =>
      obtain ⟨rfl, h4, h⟩ := h
      subst hi
      obtain ⟨m1, m2, m3⟩ := hM.1 hT
      intro H locs ls a1 a2 a3 a4
      have hr := lv_room (m := m) (pc := pc) (ls := ls) (rest := .ref a :: s') (g_catsum s' h4)
      exact W.objInit X.1 X.2.1 X.2.2.2.1 (hts _ m1) (hts _ m2) (hts _ m3) rfl (a4.1.trans X.2.2.1.symm) rfl hd hRf.1 (by omega) (kk _ _ _ _ h H locs ls a1 a2 a3 a4)
  case h_2 hT =>
    split at h
    case h_2 => exact h.elim
    case h_1 y x s' =>
      obtain ⟨rfl, h4, h5, h6, h⟩ := h
      subst hi
      obtain ⟨m1, m2, m3, m4⟩ := hM.2.1 hT
      intro H locs ls a1 a2 a3 a4
      have hr := g_catsum s' h4
      exact va_mmax X.1 X.2.1 (X.2.2.1.trans a4.1.symm) X.2.2.2.1 (hts _ m1) (hts _ m2) (hts _ m3) (hts _ m4) hRf.1 (by omega) (by omega) (by omega) hd (kk _ _ _ _ h H locs ls a1 a2 a3 a4)
  case h_3 hT =>
    split at h
    case h_2 => exact h.elim
    case h_1 y x s' =>
      obtain ⟨rfl, h4, h5, h6, h⟩ := h
      subst hi
      obtain ⟨m1, m2, m3, m4⟩ := hM.2.2 hT
      intro H locs ls a1 a2 a3 a4
      have hr := g_catsum s' h4
      exact va_mmin X.1 X.2.1 (X.2.2.1.trans a4.1.symm) X.2.2.2.1 (hts _ m1) (hts _ m2) (hts _ m3) (hts _ m4) hRf.1 (by omega) (by omega) (by omega) hd (kk _ _ _ _ h H locs ls a1 a2 a3 a4)
  case h_4 => exact h.elim
  case h_5 =>
    split at h
    case h_2 => exact h.elim
    case h_1 na kind sp c' z' hT =>
      obtain ⟨b0, b1, b2, b3, b4, b5, b6⟩ := h
      exact g_s_call X hg hn hCall hT b0 hi hd b1 b2 (by omega) (by omega) b5 b6 (fun r σ' hp => kk _ _ _ _ hp)
set_option maxHeartbeats 8000000 in
set_option maxRecDepth 100000 in
theorem g_sound (X : g_X sc p s m args meth c0 D cl A nL cc own tbl nest aT ao) (hC : g_COK cl tbl) (hF : g_FOK T own cl tbl nest) (hNw : g_NOK T own cl tbl) (hAO : g_AOK T own tbl aT ao) (hLO : g_LOK T own tbl) (hMO : g_MOK T own tbl) (hCall : g_CallOK l sc R T own cl tbl nest aT ao) (hg : g_good tbl) (hn : g_nst nest) {el : Nat → Option Nat} (hE : g_EOK el cl aT) (h0 : aT[0]? = some .int) (h1 : aT[1]? = some .boolean) (h2 : aT[2]? = some .long) (hw0 : Jvm.Cond.arrayClass .int ∈ tbl) (hw1 : Jvm.Cond.arrayClass .boolean ∈ tbl) (hw2 : Jvm.Cond.arrayClass .long ∈ tbl)
    {ini : Bool} (hini : ini = true → meth.name = "<init>") {rk : Nat} {code : gCd} {K : gK} {P : gP} {mc ms : Nat} (hR : mc ≤ R.cells ∧ ms ≤ R.slots) (hRf : 1 ≤ R.frames ∧ 21 ≤ R.locals) (hcode : g_okb cc nL code = true)
    (hK : ∀ pc lv st σ c z, K pc lv st σ c z → g_G p l e R s m args below meth c0 Q D cl A nL pc lv st σ c z)
    (hret : ∀ v σ c z pc i, g_ret rk i v → decode cc pc = .ok (i, 1) → P v σ → c ≤ mc → z ≤ ms → ∀ lv, g_G p l e R s m args below meth c0 Q D cl A nL pc lv v.toList σ c z) :
    ∀ (n pc : Nat) (x : Option Nat) (ins : gI) (lv : gL) (st : List Value) (σ : gS) (c z : Nat), code.lookup pc = some (x, ins) → g_wp sc T el ini rk code K P mc ms n pc ins lv st σ c z → g_G p l e R s m args below meth c0 Q D cl A nL pc lv st σ c z := by
  intro n
  induction n with
  | zero =>
    intro pc x ins lv st σ c z _ h
    exact False.elim h
  | succ n ih =>
      intro pc x ins lv st σ c z hlk h
      obtain ⟨hd, hoki⟩ := g_okb_ok hcode hlk
      obtain ⟨i, len, c32, tg⟩ := ins
      have jump : ∀ {t : Nat} {lv : gL} {st : List Value} {σ : gS} {c z : Nat}, g_go code K (g_wp sc T el ini rk code K P mc ms n) t lv st σ c z → g_G p l e R s m args below meth c0 Q D cl A nL t lv st σ c z := by
        intro t lv st σ c z hx
        unfold g_go at hx
        split at hx
        · exact False.elim hx
        · rename_i q hq
          obtain ⟨x2, ins2⟩ := q
          cases x2 with
          | some nl => exact fun H locs ls a1 a2 a3 a4 => hK _ _ _ _ _ _ hx H locs ls a1 a2 a3 (g_has_take _ a4)
          | none => exact ih t none ins2 lv st σ c z hq hx
      have next : ∀ {np : Nat} {lv : gL} {st : List Value} {σ : gS} {c z : Nat}, np = pc + len → g_go code K (g_wp sc T el ini rk code K P mc ms n) (pc + len) lv st σ c z → g_G p l e R s m args below meth c0 Q D cl A nL np lv st σ c z := by
        intro np lv st σ c z hnp hx
        subst hnp
        exact jump hx
      replace h : g_step sc T el ini rk code K P mc ms (g_wp sc T el ini rk code K P mc ms n) pc i len c32 tg lv st σ c z := h
      dsimp only at hd hoki
      have hx := X.1
      have hb := X.2.1
      have hts := X.2.2.2.2.1
      cases i with
      | aconst_null =>
        obtain rfl : len = 1 := by simpa [g_oki, g_ln] using hoki
        exact fun H locs ls a1 a2 a3 a4 => lv_null hx hb hd (next rfl h H locs ls a1 a2 a3 a4)
      | iconst k =>
        obtain ⟨rfl, hv⟩ : len = 1 ∧ Int32.ofInt k = c32 := by simpa [g_oki] using hoki
        exact fun H locs ls a1 a2 a3 a4 => lv_iconst hx hb hd hv (next rfl h H locs ls a1 a2 a3 a4)
      | bipush k =>
        obtain ⟨rfl, hv⟩ : len = 2 ∧ (Int8.ofInt k).toInt32 = c32 := by simpa only [g_oki, Bool.and_eq_true, beq_iff_eq, decide_eq_true_eq] using hoki
        exact fun H locs ls a1 a2 a3 a4 => lv_bipush hx hb hd hv (next rfl h H locs ls a1 a2 a3 a4)
      | sipush k =>
        obtain ⟨rfl, hv⟩ : len = 3 ∧ (Int16.ofInt k).toInt32 = c32 := by simpa only [g_oki, Bool.and_eq_true, beq_iff_eq, decide_eq_true_eq] using hoki
        exact fun H locs ls a1 a2 a3 a4 => lv_sipush hx hb hd hv (next rfl h H locs ls a1 a2 a3 a4)
      | ldc2_w idx =>
        obtain rfl : len = 3 := by simpa [g_oki, g_ln] using hoki
        dsimp only [g_step, g_opt] at h
        split at h
        · rename_i d hT
          exact fun H locs ls a1 a2 a3 a4 => lv_ldc2 hx hb X.2.2.2.1 (hts _ (hLO idx d hT)) hd (next rfl h H locs ls a1 a2 a3 a4)
        · exact h.elim
      | iload_n j =>
        obtain rfl : len = 1 := by simpa [g_oki, g_ln] using hoki
        dsimp only [g_step, g_oI] at h
        split at h
        · rename_i x hx1
          exact fun H locs ls a1 a2 a3 a4 => lv_iload_n hx hb hd rfl (a4.2.2 _ _ hx1) (next rfl h H locs ls a1 a2 a3 a4)
        · exact h.elim
      | iload j =>
        obtain rfl : len = 2 := by simpa [g_oki, g_ln] using hoki
        dsimp only [g_step, g_oI] at h
        split at h
        · rename_i x hx1
          exact fun H locs ls a1 a2 a3 a4 => lv_iload hx hb hd (a4.2.2 _ _ hx1) (next rfl h H locs ls a1 a2 a3 a4)
        · exact h.elim
      | lload_n j =>
        obtain rfl : len = 1 := by simpa [g_oki, g_ln] using hoki
        dsimp only [g_step, g_oL] at h
        split at h
        · rename_i x hx1
          exact fun H locs ls a1 a2 a3 a4 => lv_lload_n hx hb hd rfl (a4.2.2 _ _ hx1) (next rfl h H locs ls a1 a2 a3 a4)
        · exact h.elim
      | lload j =>
        obtain rfl : len = 2 := by simpa [g_oki, g_ln] using hoki
        dsimp only [g_step, g_oL] at h
        split at h
        · rename_i x hx1
          exact fun H locs ls a1 a2 a3 a4 => lv_lload hx hb hd (a4.2.2 _ _ hx1) (next rfl h H locs ls a1 a2 a3 a4)
        · exact h.elim
      | aload_n j =>
        obtain rfl : len = 1 := by simpa [g_oki, g_ln] using hoki
        dsimp only [g_step, g_oA] at h
        split at h
        · rename_i x hx1
          exact fun H locs ls a1 a2 a3 a4 => lv_aload_n hx hb hd rfl (a4.2.2 _ _ hx1) (next rfl h H locs ls a1 a2 a3 a4)
        · rename_i hx1
          exact fun H locs ls a1 a2 a3 a4 => lv_aload_nN hx hb hd rfl (a4.2.2 _ _ hx1) (next rfl h H locs ls a1 a2 a3 a4)
        · exact h.elim
      | aload j =>
        obtain rfl : len = 2 := by simpa [g_oki, g_ln] using hoki
        dsimp only [g_step, g_oA] at h
        split at h
        · rename_i x hx1
          exact fun H locs ls a1 a2 a3 a4 => lv_aload hx hb hd (a4.2.2 _ _ hx1) (next rfl h H locs ls a1 a2 a3 a4)
        · rename_i hx1
          exact fun H locs ls a1 a2 a3 a4 => lv_aloadN hx hb hd (a4.2.2 _ _ hx1) (next rfl h H locs ls a1 a2 a3 a4)
        · exact h.elim
      | istore_n j =>
        obtain ⟨rfl, hj⟩ : len = 1 ∧ j.val < nL := by simpa [g_oki] using hoki
        dsimp only [g_step] at h
        split at h
        · obtain ⟨hok, h⟩ := h
          exact fun H locs ls a1 a2 a3 a4 => lv_istore_n hx hb hd rfl (g_has_lv a4) hj rfl (fun ls' h' => next rfl h H locs ls' a1 a2 a3 (g_has_set hok h'))
        · exact h.elim
      | istore j =>
        obtain ⟨rfl, hj⟩ : len = 2 ∧ j < nL := by simpa [g_oki] using hoki
        dsimp only [g_step] at h
        split at h
        · obtain ⟨hok, h⟩ := h
          exact fun H locs ls a1 a2 a3 a4 => lv_istore hx hb hd (g_has_lv a4) hj rfl (fun ls' h' => next rfl h H locs ls' a1 a2 a3 (g_has_set hok h'))
        · exact h.elim
      | astore_n j =>
        obtain ⟨rfl, hj⟩ : len = 1 ∧ j.val < nL := by simpa [g_oki] using hoki
        dsimp only [g_step] at h
        split at h
        · obtain ⟨hok, h⟩ := h
          exact fun H locs ls a1 a2 a3 a4 => lv_astore_n hx hb hd rfl (g_has_lv a4) hj rfl (fun ls' h' => next rfl h H locs ls' a1 a2 a3 (g_has_set hok h'))
        · obtain ⟨hok, h⟩ := h
          exact fun H locs ls a1 a2 a3 a4 => lv_astore_nN hx hb hd rfl (g_has_lv a4) hj rfl (fun ls' h' => next rfl h H locs ls' a1 a2 a3 (g_has_set hok h'))
        · exact h.elim
      | astore j =>
        obtain ⟨rfl, hj⟩ : len = 2 ∧ j < nL := by simpa [g_oki] using hoki
        dsimp only [g_step] at h
        split at h
        · obtain ⟨hok, h⟩ := h
          exact fun H locs ls a1 a2 a3 a4 => lv_astore hx hb hd (g_has_lv a4) hj rfl (fun ls' h' => next rfl h H locs ls' a1 a2 a3 (g_has_set hok h'))
        · obtain ⟨hok, h⟩ := h
          exact fun H locs ls a1 a2 a3 a4 => lv_astoreN hx hb hd (g_has_lv a4) hj rfl (fun ls' h' => next rfl h H locs ls' a1 a2 a3 (g_has_set hok h'))
        · exact h.elim
      | iinc j k =>
        obtain ⟨rfl, hv, hj⟩ : len = 3 ∧ Int32.ofInt k = c32 ∧ j < nL := by simpa [g_oki] using hoki
        dsimp only [g_step, g_oI] at h
        split at h
        · rename_i x hx1
          obtain ⟨hok, h⟩ := h
          obtain ⟨kk, hkk⟩ := List.getElem?_of_mem (g_as_mem.mpr hx1)
          exact fun H locs ls a1 a2 a3 a4 => lv_iinc (v := x + c32) hx hb hd (g_has_lv a4) hkk (by rw [hv]) hj rfl (fun ls' h' => next rfl h H locs ls' a1 a2 a3 (g_has_set hok h'))
        · exact h.elim
      | dup =>
        obtain rfl : len = 1 := by simpa [g_oki, g_ln] using hoki
        dsimp only [g_step] at h
        split at h
        · exact fun H locs ls a1 a2 a3 a4 => lv_dup hx hb hd (g_c1_ok h.1) (next rfl h.2 H locs ls a1 a2 a3 a4)
        · exact h.elim
      | pop =>
        obtain rfl : len = 1 := by simpa [g_oki, g_ln] using hoki
        dsimp only [g_step] at h
        split at h
        · exact fun H locs ls a1 a2 a3 a4 => lv_pop hx hb hd (g_c1_ok h.1) (next rfl h.2 H locs ls a1 a2 a3 a4)
        · exact h.elim
      | dup_x1 =>
        obtain rfl : len = 1 := by simpa [g_oki, g_ln] using hoki
        dsimp only [g_step] at h
        split at h
        · exact fun H locs ls a1 a2 a3 a4 => lv_dup_x1 hx hb hd (g_c1_ok h.1) (g_c1_ok h.2.1) (next rfl h.2.2 H locs ls a1 a2 a3 a4)
        · exact h.elim
      | dup2 =>
        obtain rfl : len = 1 := by simpa [g_oki, g_ln] using hoki
        dsimp only [g_step] at h
        split at h
        · exact fun H locs ls a1 a2 a3 a4 => lv_dup2_11 hx hb hd (g_c1_ok h.1) (g_c1_ok h.2.1) (next rfl h.2.2 H locs ls a1 a2 a3 a4)
        · exact h.elim
      | iadd =>
        obtain rfl : len = 1 := by simpa [g_oki, g_ln] using hoki
        dsimp only [g_step] at h
        split at h
        · exact fun H locs ls a1 a2 a3 a4 => lv_iadd hx hb hd (next rfl h H locs ls a1 a2 a3 a4)
        · exact h.elim
      | isub =>
        obtain rfl : len = 1 := by simpa [g_oki, g_ln] using hoki
        dsimp only [g_step] at h
        split at h
        · exact fun H locs ls a1 a2 a3 a4 => lv_isub hx hb hd (next rfl h H locs ls a1 a2 a3 a4)
        · exact h.elim
      | imul =>
        obtain rfl : len = 1 := by simpa [g_oki, g_ln] using hoki
        dsimp only [g_step] at h
        split at h
        · exact fun H locs ls a1 a2 a3 a4 => lv_imul hx hb hd (next rfl h H locs ls a1 a2 a3 a4)
        · exact h.elim
      | iand =>
        obtain rfl : len = 1 := by simpa [g_oki, g_ln] using hoki
        dsimp only [g_step] at h
        split at h
        · exact fun H locs ls a1 a2 a3 a4 => lv_iand hx hb hd (next rfl h H locs ls a1 a2 a3 a4)
        · exact h.elim
      | land =>
        obtain rfl : len = 1 := by simpa [g_oki, g_ln] using hoki
        dsimp only [g_step] at h
        split at h
        · exact fun H locs ls a1 a2 a3 a4 => lv_land hx hb hd (next rfl h H locs ls a1 a2 a3 a4)
        · exact h.elim
      | lor =>
        obtain rfl : len = 1 := by simpa [g_oki, g_ln] using hoki
        dsimp only [g_step] at h
        split at h
        · exact fun H locs ls a1 a2 a3 a4 => lv_lor hx hb hd (next rfl h H locs ls a1 a2 a3 a4)
        · exact h.elim
      | lshl =>
        obtain rfl : len = 1 := by simpa [g_oki, g_ln] using hoki
        dsimp only [g_step] at h
        split at h
        · exact fun H locs ls a1 a2 a3 a4 => lv_lshl hx hb hd rfl (next rfl h H locs ls a1 a2 a3 a4)
        · exact h.elim
      | i2l =>
        obtain rfl : len = 1 := by simpa [g_oki, g_ln] using hoki
        dsimp only [g_step] at h
        split at h
        · exact fun H locs ls a1 a2 a3 a4 => lv_i2l hx hb hd rfl (next rfl h H locs ls a1 a2 a3 a4)
        · exact h.elim
      | lcmp =>
        obtain rfl : len = 1 := by simpa [g_oki, g_ln] using hoki
        dsimp only [g_step] at h
        split at h
        · exact fun H locs ls a1 a2 a3 a4 => W.lcmp hx hb hd (next rfl h H locs ls a1 a2 a3 a4)
        · exact h.elim
      | getfield idx =>
        obtain rfl : len = 3 := by simpa [g_oki, g_ln] using hoki
        dsimp only [g_step] at h
        split at h
        · unfold g_opt at h
          split at h
          · rename_i hT
            exact g_s_get X hC hF hT hd h (fun v hv => next rfl hv)
          · exact h.elim
        · exact h.elim
      | putfield idx =>
        obtain rfl : len = 3 := by simpa [g_oki, g_ln] using hoki
        dsimp only [g_step] at h
        split at h
        · unfold g_opt at h
          split at h
          · rename_i hT
            exact g_s_put X hC hF hini hT hd h.1 h.2.1 h.2.2 (fun fs hv => next rfl hv)
          · exact h.elim
        · exact h.elim
      | iaload =>
        obtain rfl : len = 1 := by simpa [g_oki, g_ln] using hoki
        dsimp only [g_step] at h
        split at h
        · exact g_s_iald X h0 hd h (fun g hv => next rfl hv)
        · exact h.elim
      | baload =>
        obtain rfl : len = 1 := by simpa [g_oki, g_ln] using hoki
        dsimp only [g_step] at h
        split at h
        · exact g_s_bald X h1 hd h (fun _ g hv => next rfl hv)
        · exact h.elim
      | laload =>
        obtain rfl : len = 1 := by simpa [g_oki, g_ln] using hoki
        dsimp only [g_step] at h
        split at h
        · exact g_s_lald X h2 hd h (fun _ g hv => next rfl hv)
        · exact h.elim
      | aaload =>
        obtain rfl : len = 1 := by simpa [g_oki, g_ln] using hoki
        dsimp only [g_step] at h
        split at h
        · exact g_s_aald X hE hd h (fun _ _ _ hv hg => next rfl (hv.1 hg)) (fun _ _ _ q hv hg => next rfl (hv.2 q hg))
        · exact h.elim
      | iastore =>
        obtain rfl : len = 1 := by simpa [g_oki, g_ln] using hoki
        dsimp only [g_step] at h
        split at h
        · exact g_s_iast X h0 hd h (fun _ _ hv => next rfl hv)
        · exact h.elim
      | bastore =>
        obtain rfl : len = 1 := by simpa [g_oki, g_ln] using hoki
        dsimp only [g_step] at h
        split at h
        · exact g_s_bast X h1 hd h.1 h.2 (fun _ _ hv => next rfl hv)
        · exact h.elim
      | lastore =>
        obtain rfl : len = 1 := by simpa [g_oki, g_ln] using hoki
        dsimp only [g_step] at h
        split at h
        · exact g_s_last X h2 hd h (fun _ _ hv => next rfl hv)
        · exact h.elim
      | aastore =>
        obtain rfl : len = 1 := by simpa [g_oki, g_ln] using hoki
        dsimp only [g_step] at h
        split at h
        · exact g_s_aastN X hE hd h (fun _ _ _ hv => next rfl hv)
        · exact g_s_aast X hE hd h (fun _ _ _ hv => next rfl hv)
        · exact h.elim
      | arraylength =>
        obtain rfl : len = 1 := by simpa [g_oki, g_ln] using hoki
        dsimp only [g_step] at h
        split at h
        · exact g_s_len X h0 h1 h2 hE hd h (fun v hv => next rfl hv)
        · exact h.elim
      | new idx =>
        obtain rfl : len = 3 := by simpa [g_oki, g_ln] using hoki
        dsimp only [g_step, g_opt] at h
        split at h
        · rename_i y hT
          obtain ⟨ci, fs⟩ := y
          dsimp only at h
          exact g_s_new X hC hNw hT hd (by omega) (by omega) (fun q hq hqs => next rfl (h.2.2 q hq hqs))
        · exact h.elim
      | newarray ty =>
        obtain rfl : len = 2 := by simpa [g_oki, g_ln] using hoki
        dsimp only [g_step] at h
        split at h
        · obtain ⟨b1, b2, b3, b4, b5, b6⟩ := h
          rcases b5 with rfl | rfl | rfl
          · exact g_s_newi X (ty := .int) (fty := .int) (a0 := (_, .inl (fun _ => 0))) rfl h0 hw0 (fun _ => rfl) rfl (by decide) b1 b2 hd (by omega) (by omega) (fun q hq => next rfl (b6 q hq))
          · exact g_s_newi X (ty := .boolean) (fty := .boolean) (a0 := (_, .inl (fun _ => 0))) rfl h1 hw1 (fun _ => rfl) rfl (by decide) b1 b2 hd (by omega) (by omega) (fun q hq => next rfl (b6 q hq))
          · exact g_s_newi X (ty := .long) (fty := .long) (a0 := (_, .inr (.inl (fun _ => 0)))) rfl h2 hw2 (fun _ => rfl) rfl (by decide) b1 b2 hd (by omega) (by omega) (fun q hq => next rfl (b6 q hq))
        · exact h.elim
      | anewarray idx =>
        obtain rfl : len = 3 := by simpa [g_oki, g_ln] using hoki
        dsimp only [g_step] at h
        split at h
        · unfold g_opt at h
          split at h
          · rename_i t hT
            obtain ⟨b1, b2, b3, b4, b6⟩ := h
            exact g_s_newr X hAO hT b1 b2 hd (by omega) (by omega) (fun q hq => next rfl (b6 q hq))
          · exact h.elim
        · exact h.elim
      | invokevirtual idx =>
        obtain rfl : len = 3 := by simpa [g_oki, g_ln] using hoki
        exact g_s_calls (iv := 2) X hMO hCall hg hn hR hRf rfl hd h (fun st' σ' c' z' hf => next rfl hf)
      | invokespecial idx =>
        obtain rfl : len = 3 := by simpa [g_oki, g_ln] using hoki
        exact g_s_calls (iv := 1) X hMO hCall hg hn hR hRf rfl hd h (fun st' σ' c' z' hf => next rfl hf)
      | invokestatic idx =>
        obtain rfl : len = 3 := by simpa [g_oki, g_ln] using hoki
        exact g_s_calls (iv := 0) X hMO hCall hg hn hR hRf rfl hd h (fun st' σ' c' z' hf => next rfl hf)
      | goto off =>
        obtain ⟨rfl, ht⟩ : len = 3 ∧ (pc : Int) + off = (g_t tg : Int) := by simpa only [g_oki, Bool.and_eq_true, beq_iff_eq, decide_eq_true_eq] using hoki
        exact fun H locs ls a1 a2 a3 a4 => lv_goto hx hb hd ht (jump h H locs ls a1 a2 a3 a4)
      | if_icmp cd off =>
        obtain ⟨rfl, ht⟩ : len = 3 ∧ (pc : Int) + off = (g_t tg : Int) := by simpa only [g_oki, Bool.and_eq_true, beq_iff_eq, decide_eq_true_eq] using hoki
        dsimp only [g_step] at h
        split at h
        · intro H locs ls a1 a2 a3 a4
          cases cd with
          | eq => exact lv_icmp_eq hx hb hd ht (fun q => jump (h.1 q) H locs ls a1 a2 a3 a4) (fun q => next rfl (h.2 q) H locs ls a1 a2 a3 a4)
          | ne => exact lv_icmp_ne hx hb hd ht (fun q => jump (h.1 q) H locs ls a1 a2 a3 a4) (fun q => next rfl (h.2 (fun w => w q)) H locs ls a1 a2 a3 a4)
          | lt => exact lv_icmp_lt hx hb hd ht (fun q => jump (h.1 q) H locs ls a1 a2 a3 a4) (fun q => next rfl (h.2 q) H locs ls a1 a2 a3 a4)
          | ge => exact lv_icmp_ge hx hb hd ht (fun q => jump (h.1 q) H locs ls a1 a2 a3 a4) (fun q => next rfl (h.2 q) H locs ls a1 a2 a3 a4)
          | gt => exact lv_icmp_gt hx hb hd ht (fun q => jump (h.1 q) H locs ls a1 a2 a3 a4) (fun q => next rfl (h.2 q) H locs ls a1 a2 a3 a4)
          | le => exact lv_icmp_le hx hb hd ht (fun q => jump (h.1 q) H locs ls a1 a2 a3 a4) (fun q => next rfl (h.2 q) H locs ls a1 a2 a3 a4)
        · exact h.elim
      | ifCond cd off =>
        obtain ⟨rfl, ht⟩ : len = 3 ∧ (pc : Int) + off = (g_t tg : Int) := by simpa only [g_oki, Bool.and_eq_true, beq_iff_eq, decide_eq_true_eq] using hoki
        dsimp only [g_step] at h
        split at h
        · intro H locs ls a1 a2 a3 a4
          cases cd with
          | eq => exact lv_if_eq hx hb hd ht (fun q => jump (h.1 q) H locs ls a1 a2 a3 a4) (fun q => next rfl (h.2 q) H locs ls a1 a2 a3 a4)
          | ne => exact lv_if_ne hx hb hd ht (fun q => jump (h.1 q) H locs ls a1 a2 a3 a4) (fun q => next rfl (h.2 (fun w => w q)) H locs ls a1 a2 a3 a4)
          | lt => exact lv_if_lt hx hb hd ht (fun q => jump (h.1 q) H locs ls a1 a2 a3 a4) (fun q => next rfl (h.2 q) H locs ls a1 a2 a3 a4)
          | ge => exact lv_if_ge hx hb hd ht (fun q => jump (h.1 q) H locs ls a1 a2 a3 a4) (fun q => next rfl (h.2 q) H locs ls a1 a2 a3 a4)
          | gt => exact lv_if_gt hx hb hd ht (fun q => jump (h.1 q) H locs ls a1 a2 a3 a4) (fun q => next rfl (h.2 q) H locs ls a1 a2 a3 a4)
          | le => exact lv_if_le hx hb hd ht (fun q => jump (h.1 q) H locs ls a1 a2 a3 a4) (fun q => next rfl (h.2 q) H locs ls a1 a2 a3 a4)
        · exact h.elim
      | ifnull off =>
        obtain ⟨rfl, ht⟩ : len = 3 ∧ (pc : Int) + off = (g_t tg : Int) := by simpa only [g_oki, Bool.and_eq_true, beq_iff_eq, decide_eq_true_eq] using hoki
        dsimp only [g_step] at h
        split at h
        · exact fun H locs ls a1 a2 a3 a4 => lv_ifnull hx hb hd (next rfl h H locs ls a1 a2 a3 a4)
        · exact fun H locs ls a1 a2 a3 a4 => lv_ifnullN hx hb hd ht (jump h H locs ls a1 a2 a3 a4)
        · exact h.elim
      | ifnonnull off =>
        obtain ⟨rfl, ht⟩ : len = 3 ∧ (pc : Int) + off = (g_t tg : Int) := by simpa only [g_oki, Bool.and_eq_true, beq_iff_eq, decide_eq_true_eq] using hoki
        dsimp only [g_step] at h
        split at h
        · exact fun H locs ls a1 a2 a3 a4 => lv_ifnonnullN hx hb hd (next rfl h H locs ls a1 a2 a3 a4)
        · exact fun H locs ls a1 a2 a3 a4 => lv_ifnonnull hx hb hd ht (jump h H locs ls a1 a2 a3 a4)
        · exact h.elim
      | tableswitch d lo hi offs =>
        obtain ⟨ht, hall, hd0, hhi⟩ : tg = (offs.toList.zipIdx.map (fun q => (lo + (q.2 : Int), ((pc : Int) + q.1).toNat))) ++ [(0, ((pc : Int) + d).toNat)] ∧ offs.toList.all (fun o => decide (0 ≤ (pc : Int) + o)) = true ∧ 0 ≤ (pc : Int) + d ∧ hi = lo + (offs.size : Int) - 1 := by simpa only [g_oki, Bool.and_eq_true, decide_eq_true_eq] using hoki
        dsimp only [g_step] at h
        split at h
        · rename_i x s'
          rw [ht] at h
          obtain ⟨k1, k2⟩ := g_sw_tab _ 0 h
          intro H locs ls a1 a2 a3 a4
          by_cases hout : x.toInt < lo ∨ hi < x.toInt
          · refine lv_tableOut (tgt := ((pc : Int) + d).toNat) hx hb hd hout (by omega) (jump (k2 (fun n hn => ?_)) H locs ls a1 a2 a3 a4)
            simp at hn
            omega
          · have hlt : (x.toInt - lo).toNat < offs.size := by omega
            have ho : offs[(x.toInt - lo).toNat]? = some offs[(x.toInt - lo).toNat] := Array.getElem?_eq_getElem hlt
            have hmem : offs[(x.toInt - lo).toNat] ∈ offs.toList := by simp
            have hge : 0 ≤ (pc : Int) + offs[(x.toInt - lo).toNat] := by simpa using List.all_eq_true.mp hall _ hmem
            exact lv_tableIn (tgt := ((pc : Int) + offs[(x.toInt - lo).toNat]).toNat) hx hb hd (by omega) (by omega) ho (by omega) (jump (k1 (x.toInt - lo).toNat _ (by rw [Array.getElem?_toList]; exact ho) (by omega)) H locs ls a1 a2 a3 a4)
        · exact h.elim
      | lookupswitch d ps =>
        obtain ⟨ht, hall, hd0, hso⟩ : tg = (ps.toList.map (fun q => (q.1, ((pc : Int) + q.2).toNat))) ++ [(0, ((pc : Int) + d).toNat)] ∧ ps.toList.all (fun o => decide (0 ≤ (pc : Int) + o.2)) = true ∧ 0 ≤ (pc : Int) + d ∧ (ps.toList.zip (ps.toList.drop 1)).all (fun (a, next) => a.1 < next.1) = true := by simpa only [g_oki, Bool.and_eq_true, decide_eq_true_eq] using hoki
        dsimp only [g_step] at h
        split at h
        · rename_i x s'
          rw [ht] at h
          have k1 := g_sw_look _ h
          have hge : 0 ≤ (pc : Int) + Op.lookupswitch.offset ps.toList d x.toInt := by
            have key : ∀ l : List (Int × Int), l.all (fun o => decide (0 ≤ (pc : Int) + o.2)) = true → 0 ≤ (pc : Int) + Op.lookupswitch.offset l d x.toInt := by
              intro l
              induction l with
              | nil => intro _; exact hd0
              | cons q l ihl =>
                intro hl
                obtain ⟨a, o⟩ := q
                rw [Op.lookupswitch.offset_cons]
                simp only [List.all_cons, Bool.and_eq_true, decide_eq_true_eq] at hl
                split
                · exact hl.1
                · exact ihl hl.2
            exact key _ hall
          exact fun H locs ls a1 a2 a3 a4 => lv_lookup (tgt := ((pc : Int) + Op.lookupswitch.offset ps.toList d x.toInt).toNat) hx hb hd hso rfl (by omega) (jump k1 H locs ls a1 a2 a3 a4)
        · exact h.elim
      | ireturn =>
        obtain rfl : len = 1 := by simpa [g_oki, g_ln] using hoki
        dsimp only [g_step] at h
        split at h
        · exact hret (some (.int _)) σ c z pc .ireturn h.1 hd h.2.2.2 h.2.1 h.2.2.1 lv
        · exact h.elim
      | areturn =>
        obtain rfl : len = 1 := by simpa [g_oki, g_ln] using hoki
        dsimp only [g_step] at h
        split at h
        · exact hret (some (.ref _)) σ c z pc .areturn h.1 hd h.2.2.2 h.2.1 h.2.2.1 lv
        · exact hret (some .null) σ c z pc .areturn h.1 hd h.2.2.2 h.2.1 h.2.2.1 lv
        · exact h.elim
      | return_ =>
        obtain rfl : len = 1 := by simpa [g_oki, g_ln] using hoki
        dsimp only [g_step] at h
        split at h
        · exact hret none σ c z pc .return_ h.1 hd h.2.2.2 h.2.1 h.2.2.1 lv
        · exact h.elim
      | _ => exact False.elim h
end GS
def g_ent (av : List Value) : gL := (lg_sl av).map (fun x => match x with
  | .val v => some v
  | _ => none)
theorem g_ent_has {av : List Value} {n : Nat} (h : (lg_sl av).length ≤ n) : g_has ((lg_sl av ++ List.replicate (n - (lg_sl av).length) Slot.unset).toArray) n (g_ent av) := by
  have h1 := lv_entry av h
  refine ⟨h1.1, h1.2.1, fun i v hi => ?_⟩
  unfold g_ent at hi
  rw [List.getElem?_map] at hi
  cases hs : (lg_sl av)[i]? with
  | none => rw [hs] at hi; simp at hi
  | some x =>
    rw [hs] at hi
    have hl := (List.getElem?_eq_some_iff.mp hs).1
    rw [List.getElem?_toArray, List.getElem?_append_left hl, hs]
    cases x <;> simp at hi
    rw [hi]
def g_rk (rk : Nat) (ret : Option FieldType) : Prop := match rk with
  | 0 => ret = none
  | 1 => ret = some .int
  | 2 => ret = some .boolean
  | 3 => ∃ C, ret = some (.object C)
  | _ => False
/-- what is fixed for all methods of a class -/
def g_TOK (l : Launch) (sc : gX) (R : Room) (T : gT) (el : Nat → Option Nat) (own : String) (cl : List vw_C) (tbl nest : List Jvm.Cond) (aT : List FieldType) (ao : List String) : Prop :=
  g_FOK T own cl tbl nest ∧ g_NOK T own cl tbl ∧ g_AOK T own tbl aT ao ∧ g_LOK T own tbl ∧ g_MOK T own tbl ∧ g_CallOK l sc R T own cl tbl nest aT ao
def g_GOK (el : Nat → Option Nat) (cl : List vw_C) (tbl nest : List Jvm.Cond) (aT : List FieldType) : Prop :=
  g_COK cl tbl ∧ g_good tbl ∧ g_nst nest ∧ g_EOK el cl aT ∧ aT[0]? = some .int ∧ aT[1]? = some .boolean ∧ aT[2]? = some .long ∧ Jvm.Cond.arrayClass .int ∈ tbl ∧ Jvm.Cond.arrayClass .boolean ∈ tbl ∧ Jvm.Cond.arrayClass .long ∈ tbl
set_option maxHeartbeats 4000000 in
theorem g_meth {l : Launch} {sc : gX} {T : gT} {el : Nat → Option Nat} {cl : List vw_C} {tbl nest : List Jvm.Cond} {aT : List FieldType} {ao : List String} {y : MethodName} {b : ByteArray} {nL : Nat} {ret : Option FieldType} {rm : Room} {sp : gSpec} {mc ms : Nat} {ini : Bool} {rk : Nat} {code : gCd}
    (hG : g_GOK el cl tbl nest aT) (hT : g_TOK l sc rm T el y.cls cl tbl nest aT ao) (hy : plainName y.cls = true) (hini : ini = true → y.name = "<init>") (hrk : g_rk rk ret) (hrm : rm.cells = mc ∧ rm.slots = ms ∧ 1 ≤ rm.frames ∧ 21 ≤ rm.locals) (hcode : g_okb b nL code = true)
    (VC : ∀ (av : List Value) (σ : gS) (P : gP), sp av σ P → (lg_sl av).length ≤ nL ∧ ∃ Inv : Nat → gK,
      (∃ n, g_at code (g_wp sc T el ini rk code (fun pc lv st σ c z => ∃ k, Inv k pc lv st σ c z) P mc ms n) 0 (g_ent av) [] σ 0 0) ∧
      ∀ k pc lv st σ c z, Inv k pc lv st σ c z → ∃ n, g_at code (g_wp sc T el ini rk code (fun pc lv st σ c z => ∃ k', k' < k ∧ Inv k' pc lv st σ c z) P mc ms n) pc lv st σ c z) :
    g_Met l sc cl tbl nest aT ao y b nL ret rm sp mc ms := by
  intro D sz av σ P hsp
  obtain ⟨hC, hg, hn, hE, h0, h1, h2, hw0, hw1, hw2⟩ := hG
  obtain ⟨hF, hNw, hAO, hLO, hMO, hCall⟩ := hT
  obtain ⟨rfl, rfl, hf1, hf2⟩ := hrm
  obtain ⟨hlen, Inv, hent, hinv⟩ := VC av σ P hsp
  refine Met.ofW (cc := b) (maxL := nL) (ret := ret) hy rfl ?_
  intro p e s m args below meth c s₁ B hml hv
  obtain ⟨rfl, hsz, hH, ⟨hsX, hsl, hsA⟩, hK, hN, hO⟩ := hv
  have hx := B.exec
  have hb := B.bytes
  have hr := B.returns
  have hts0 := atoms_spec (ws := Jvm.Cond.code y b nL ret :: tbl) B.pre
  have hts : ∀ w ∈ tbl, w.before av.toArray s = true := fun w hw => hts0 w (List.mem_cons_of_mem _ hw)
  have hown : s.vm.findClass y.cls = some m.cls := findClass_of_methodNamed B.named
  have hlocks := B.notSynchronized
  have hin : ini = true → meth.name = "<init>" := fun h => (name_of_methodNamed B.named B.method).1.trans (hini h)
  have hA : ∀ q, g_dom σ q → g_A σ sz q := fun q h => Or.inl h
  have hfr : ∀ q, s.heap.size ≤ q → g_A σ sz q := fun q h => Or.inr (by rw [← hsz]; exact h)
  have hS : va_S (g_A σ sz) s.heap s.heap [] := va_S.rf
  have X : g_X sc p s m av.toArray meth c D cl (g_A σ sz) nL b y.cls tbl nest aT ao := ⟨hx, hb, hml, hown, hts, hK, hN, hO, hfr, hsX, by rw [hsz]; exact hsl, fun h => h.elim hsA (fun h => absurd h (by omega))⟩
  have hret : ∀ v σ' c' z' pc i, g_ret rk i v → decode b pc = .ok (i, 1) → P v σ' → c' ≤ rm.cells → z' ≤ rm.slots → ∀ lv, g_G p l e (headSpec (Jvm.Cond.code y b nL ret :: tbl) rm).room s m av.toArray below meth c (MQ below (g_Q D cl P (g_A σ sz)) av.toArray s rm.cells rm.slots (g_A σ sz)) D cl (g_A σ sz) nL pc lv v.toList σ' c' z' := by
    intro v σ' c' z' pc i hri hd hP hc hz lv H locs ls a1 a2 a3 a4
    refine W.widen (k := rm.cells) (n := rm.slots) hc hz ?_
    unfold g_ret at hri
    split at hri
    · rename_i x
      rcases hri with h1 | ⟨h1, hx01⟩
      · subst h1
        have hr' : meth.sig.returnType = some .int := hr.trans hrk
        exact W.iret (v := x) hx hb hr' (fun t ht _ => ⟨⟨_, σ', rfl, hP, by rw [ht]; exact a1, a2⟩, a3.F ht⟩) a3.2.2 hd
      · subst h1
        have hr' : meth.sig.returnType = some .boolean := hr.trans hrk
        have hn01 : narrow .boolean (.int x) = .int x := by rcases hx01 with rfl | rfl <;> decide
        exact W.zret (v := x) hx hb hr' hn01 (fun t ht _ => ⟨⟨_, σ', rfl, hP, by rw [ht]; exact a1, a2⟩, a3.F ht⟩) a3.2.2 hd
    · subst hri
      obtain ⟨C, hC'⟩ := hrk
      exact W.aret hx hb (hr.trans hC') (Or.inl ⟨C, rfl⟩) (Or.inr ⟨_, rfl⟩) (fun t ht _ => ⟨⟨_, σ', rfl, hP, by rw [ht]; exact a1, a2⟩, a3.F ht⟩) a3.2.2 hd
    · subst hri
      obtain ⟨C, hC'⟩ := hrk
      exact W.aret hx hb (hr.trans hC') (Or.inl ⟨C, rfl⟩) (Or.inl rfl) (fun t ht _ => ⟨⟨_, σ', rfl, hP, by rw [ht]; exact a1, a2⟩, a3.F ht⟩) a3.2.2 hd
    · subst hri
      exact W.vret hx hb (hr.trans hrk) (fun t ht _ => ⟨⟨_, σ', rfl, hP, by rw [ht]; exact a1, a2⟩, a3.F ht⟩) a3.2.2 hd
    · exact hri.elim
  have main : ∀ k pc lv st σ' c' z', Inv k pc lv st σ' c' z' → g_G p l e (headSpec (Jvm.Cond.code y b nL ret :: tbl) rm).room s m av.toArray below meth c (MQ below (g_Q D cl P (g_A σ sz)) av.toArray s rm.cells rm.slots (g_A σ sz)) D cl (g_A σ sz) nL pc lv st σ' c' z' := by
    intro k
    induction k using Nat.strongRecOn with
    | ind k ih =>
      intro pc lv st σ' c' z' hi
      obtain ⟨n, hwp⟩ := hinv k pc lv st σ' c' z' hi
      unfold g_at at hwp
      split at hwp
      · exact False.elim hwp
      · rename_i q hq
        exact g_sound X hC hF hNw hAO hLO hMO hCall hg hn hE h0 h1 h2 hw0 hw1 hw2 hin ⟨Nat.le_refl _, Nat.le_refl _⟩ ⟨hf1, hf2⟩ hcode (fun pc lv st σ c z ⟨k', hk', hi'⟩ => ih k' hk' pc lv st σ c z hi') hret n pc q.1 q.2 lv st σ' c' z' hq hwp
  obtain ⟨n, hwp⟩ := hent
  unfold g_at at hwp
  split at hwp
  · exact False.elim hwp
  · rename_i q hq
    have h5 := g_sound X hC hF hNw hAO hLO hMO hCall hg hn hE h0 h1 h2 hw0 hw1 hw2 hin ⟨Nat.le_refl _, Nat.le_refl _⟩ ⟨hf1, hf2⟩ hcode (fun pc lv st σ c z ⟨k', hi'⟩ => main k' pc lv st σ c z hi') hret n 0 q.1 q.2 (g_ent av) [] σ 0 0 hq hwp
    rw [lg_entry_eq]
    exact h5 s.heap [] _ hH hA hS (g_ent_has hlen)
section GW
variable {sc : gX} {T : gT} {el : Nat → Option Nat} {ini : Bool} {rk : Nat} {code : gCd} {K : gK} {P : gP} {mc ms n pc len : Nat} {c32 : Int32} {tg : List (Int × Nat)} {lv : gL} {st s : List Value} {σ : gS} {c z : Nat}
theorem w_null : g_wp sc T el ini rk code K P mc ms (n + 1) pc (.aconst_null, len, c32, tg) lv st σ c z = (g_go code K (g_wp sc T el ini rk code K P mc ms n) (pc + len) lv (.null :: st) σ c z) := rfl
theorem w_iconst {k : Int} : g_wp sc T el ini rk code K P mc ms (n + 1) pc (.iconst k, len, c32, tg) lv st σ c z = (g_go code K (g_wp sc T el ini rk code K P mc ms n) (pc + len) lv (.int c32 :: st) σ c z) := rfl
theorem w_bipush {k : Int} : g_wp sc T el ini rk code K P mc ms (n + 1) pc (.bipush k, len, c32, tg) lv st σ c z = (g_go code K (g_wp sc T el ini rk code K P mc ms n) (pc + len) lv (.int c32 :: st) σ c z) := rfl
theorem w_sipush {k : Int} : g_wp sc T el ini rk code K P mc ms (n + 1) pc (.sipush k, len, c32, tg) lv st σ c z = (g_go code K (g_wp sc T el ini rk code K P mc ms n) (pc + len) lv (.int c32 :: st) σ c z) := rfl
theorem w_ldc2 {j : Nat} : g_wp sc T el ini rk code K P mc ms (n + 1) pc (.ldc2_w j, len, c32, tg) lv st σ c z = (g_opt (T.2.2.2.2.1 j) (fun d => g_go code K (g_wp sc T el ini rk code K P mc ms n) (pc + len) lv (.long d :: st) σ c z)) := rfl
theorem w_iload_0 : g_wp sc T el ini rk code K P mc ms (n + 1) pc (.iload_n 0, len, c32, tg) lv st σ c z = (g_oI lv[0]? (fun x => g_go code K (g_wp sc T el ini rk code K P mc ms n) (pc + len) lv (.int x :: st) σ c z)) := rfl
theorem w_lload_0 : g_wp sc T el ini rk code K P mc ms (n + 1) pc (.lload_n 0, len, c32, tg) lv st σ c z = (g_oL lv[0]? (fun x => g_go code K (g_wp sc T el ini rk code K P mc ms n) (pc + len) lv (.long x :: st) σ c z)) := rfl
theorem w_aload_0 : g_wp sc T el ini rk code K P mc ms (n + 1) pc (.aload_n 0, len, c32, tg) lv st σ c z = (g_oA lv[0]? (fun x => g_go code K (g_wp sc T el ini rk code K P mc ms n) (pc + len) lv (x :: st) σ c z)) := rfl
theorem w_istore_0 {x : Int32} : g_wp sc T el ini rk code K P mc ms (n + 1) pc (.istore_n 0, len, c32, tg) lv (.int x :: s) σ c z = (g_ok1 lv 0 = true ∧ g_go code K (g_wp sc T el ini rk code K P mc ms n) (pc + len) (g_set lv 0 (.int x)) s σ c z) := rfl
theorem w_astore_0 {x : Nat} : g_wp sc T el ini rk code K P mc ms (n + 1) pc (.astore_n 0, len, c32, tg) lv (.ref x :: s) σ c z = (g_ok1 lv 0 = true ∧ g_go code K (g_wp sc T el ini rk code K P mc ms n) (pc + len) (g_set lv 0 (.ref x)) s σ c z) := rfl
theorem w_astoreN_0 : g_wp sc T el ini rk code K P mc ms (n + 1) pc (.astore_n 0, len, c32, tg) lv (.null :: s) σ c z = (g_ok1 lv 0 = true ∧ g_go code K (g_wp sc T el ini rk code K P mc ms n) (pc + len) (g_set lv 0 .null) s σ c z) := rfl
theorem w_iload_1 : g_wp sc T el ini rk code K P mc ms (n + 1) pc (.iload_n 1, len, c32, tg) lv st σ c z = (g_oI lv[1]? (fun x => g_go code K (g_wp sc T el ini rk code K P mc ms n) (pc + len) lv (.int x :: st) σ c z)) := rfl
theorem w_lload_1 : g_wp sc T el ini rk code K P mc ms (n + 1) pc (.lload_n 1, len, c32, tg) lv st σ c z = (g_oL lv[1]? (fun x => g_go code K (g_wp sc T el ini rk code K P mc ms n) (pc + len) lv (.long x :: st) σ c z)) := rfl
theorem w_aload_1 : g_wp sc T el ini rk code K P mc ms (n + 1) pc (.aload_n 1, len, c32, tg) lv st σ c z = (g_oA lv[1]? (fun x => g_go code K (g_wp sc T el ini rk code K P mc ms n) (pc + len) lv (x :: st) σ c z)) := rfl
theorem w_istore_1 {x : Int32} : g_wp sc T el ini rk code K P mc ms (n + 1) pc (.istore_n 1, len, c32, tg) lv (.int x :: s) σ c z = (g_ok1 lv 1 = true ∧ g_go code K (g_wp sc T el ini rk code K P mc ms n) (pc + len) (g_set lv 1 (.int x)) s σ c z) := rfl
theorem w_astore_1 {x : Nat} : g_wp sc T el ini rk code K P mc ms (n + 1) pc (.astore_n 1, len, c32, tg) lv (.ref x :: s) σ c z = (g_ok1 lv 1 = true ∧ g_go code K (g_wp sc T el ini rk code K P mc ms n) (pc + len) (g_set lv 1 (.ref x)) s σ c z) := rfl
theorem w_astoreN_1 : g_wp sc T el ini rk code K P mc ms (n + 1) pc (.astore_n 1, len, c32, tg) lv (.null :: s) σ c z = (g_ok1 lv 1 = true ∧ g_go code K (g_wp sc T el ini rk code K P mc ms n) (pc + len) (g_set lv 1 .null) s σ c z) := rfl
theorem w_iload_2 : g_wp sc T el ini rk code K P mc ms (n + 1) pc (.iload_n 2, len, c32, tg) lv st σ c z = (g_oI lv[2]? (fun x => g_go code K (g_wp sc T el ini rk code K P mc ms n) (pc + len) lv (.int x :: st) σ c z)) := rfl
theorem w_lload_2 : g_wp sc T el ini rk code K P mc ms (n + 1) pc (.lload_n 2, len, c32, tg) lv st σ c z = (g_oL lv[2]? (fun x => g_go code K (g_wp sc T el ini rk code K P mc ms n) (pc + len) lv (.long x :: st) σ c z)) := rfl
theorem w_aload_2 : g_wp sc T el ini rk code K P mc ms (n + 1) pc (.aload_n 2, len, c32, tg) lv st σ c z = (g_oA lv[2]? (fun x => g_go code K (g_wp sc T el ini rk code K P mc ms n) (pc + len) lv (x :: st) σ c z)) := rfl
theorem w_istore_2 {x : Int32} : g_wp sc T el ini rk code K P mc ms (n + 1) pc (.istore_n 2, len, c32, tg) lv (.int x :: s) σ c z = (g_ok1 lv 2 = true ∧ g_go code K (g_wp sc T el ini rk code K P mc ms n) (pc + len) (g_set lv 2 (.int x)) s σ c z) := rfl
theorem w_astore_2 {x : Nat} : g_wp sc T el ini rk code K P mc ms (n + 1) pc (.astore_n 2, len, c32, tg) lv (.ref x :: s) σ c z = (g_ok1 lv 2 = true ∧ g_go code K (g_wp sc T el ini rk code K P mc ms n) (pc + len) (g_set lv 2 (.ref x)) s σ c z) := rfl
theorem w_astoreN_2 : g_wp sc T el ini rk code K P mc ms (n + 1) pc (.astore_n 2, len, c32, tg) lv (.null :: s) σ c z = (g_ok1 lv 2 = true ∧ g_go code K (g_wp sc T el ini rk code K P mc ms n) (pc + len) (g_set lv 2 .null) s σ c z) := rfl
theorem w_iload_3 : g_wp sc T el ini rk code K P mc ms (n + 1) pc (.iload_n 3, len, c32, tg) lv st σ c z = (g_oI lv[3]? (fun x => g_go code K (g_wp sc T el ini rk code K P mc ms n) (pc + len) lv (.int x :: st) σ c z)) := rfl
theorem w_lload_3 : g_wp sc T el ini rk code K P mc ms (n + 1) pc (.lload_n 3, len, c32, tg) lv st σ c z = (g_oL lv[3]? (fun x => g_go code K (g_wp sc T el ini rk code K P mc ms n) (pc + len) lv (.long x :: st) σ c z)) := rfl
theorem w_aload_3 : g_wp sc T el ini rk code K P mc ms (n + 1) pc (.aload_n 3, len, c32, tg) lv st σ c z = (g_oA lv[3]? (fun x => g_go code K (g_wp sc T el ini rk code K P mc ms n) (pc + len) lv (x :: st) σ c z)) := rfl
theorem w_istore_3 {x : Int32} : g_wp sc T el ini rk code K P mc ms (n + 1) pc (.istore_n 3, len, c32, tg) lv (.int x :: s) σ c z = (g_ok1 lv 3 = true ∧ g_go code K (g_wp sc T el ini rk code K P mc ms n) (pc + len) (g_set lv 3 (.int x)) s σ c z) := rfl
theorem w_astore_3 {x : Nat} : g_wp sc T el ini rk code K P mc ms (n + 1) pc (.astore_n 3, len, c32, tg) lv (.ref x :: s) σ c z = (g_ok1 lv 3 = true ∧ g_go code K (g_wp sc T el ini rk code K P mc ms n) (pc + len) (g_set lv 3 (.ref x)) s σ c z) := rfl
theorem w_astoreN_3 : g_wp sc T el ini rk code K P mc ms (n + 1) pc (.astore_n 3, len, c32, tg) lv (.null :: s) σ c z = (g_ok1 lv 3 = true ∧ g_go code K (g_wp sc T el ini rk code K P mc ms n) (pc + len) (g_set lv 3 .null) s σ c z) := rfl
theorem w_iload {j : Nat} : g_wp sc T el ini rk code K P mc ms (n + 1) pc (.iload j, len, c32, tg) lv st σ c z = (g_oI lv[j]? (fun x => g_go code K (g_wp sc T el ini rk code K P mc ms n) (pc + len) lv (.int x :: st) σ c z)) := rfl
theorem w_lload {j : Nat} : g_wp sc T el ini rk code K P mc ms (n + 1) pc (.lload j, len, c32, tg) lv st σ c z = (g_oL lv[j]? (fun x => g_go code K (g_wp sc T el ini rk code K P mc ms n) (pc + len) lv (.long x :: st) σ c z)) := rfl
theorem w_aload {j : Nat} : g_wp sc T el ini rk code K P mc ms (n + 1) pc (.aload j, len, c32, tg) lv st σ c z = (g_oA lv[j]? (fun x => g_go code K (g_wp sc T el ini rk code K P mc ms n) (pc + len) lv (x :: st) σ c z)) := rfl
theorem w_istore {j : Nat} {x : Int32} : g_wp sc T el ini rk code K P mc ms (n + 1) pc (.istore j, len, c32, tg) lv (.int x :: s) σ c z = (g_ok1 lv j = true ∧ g_go code K (g_wp sc T el ini rk code K P mc ms n) (pc + len) (g_set lv j (.int x)) s σ c z) := rfl
theorem w_astore {j x : Nat} : g_wp sc T el ini rk code K P mc ms (n + 1) pc (.astore j, len, c32, tg) lv (.ref x :: s) σ c z = (g_ok1 lv j = true ∧ g_go code K (g_wp sc T el ini rk code K P mc ms n) (pc + len) (g_set lv j (.ref x)) s σ c z) := rfl
theorem w_astoreN {j : Nat} : g_wp sc T el ini rk code K P mc ms (n + 1) pc (.astore j, len, c32, tg) lv (.null :: s) σ c z = (g_ok1 lv j = true ∧ g_go code K (g_wp sc T el ini rk code K P mc ms n) (pc + len) (g_set lv j .null) s σ c z) := rfl
theorem w_iinc {j : Nat} {k : Int} : g_wp sc T el ini rk code K P mc ms (n + 1) pc (.iinc j k, len, c32, tg) lv st σ c z = (g_oI lv[j]? (fun x => g_ok1 lv j = true ∧ g_go code K (g_wp sc T el ini rk code K P mc ms n) (pc + len) (g_set lv j (.int (x + c32))) st σ c z)) := rfl
theorem w_dup {v : Value} : g_wp sc T el ini rk code K P mc ms (n + 1) pc (.dup, len, c32, tg) lv (v :: s) σ c z = (g_c1 v = true ∧ g_go code K (g_wp sc T el ini rk code K P mc ms n) (pc + len) lv (v :: v :: s) σ c z) := rfl
theorem w_pop {v : Value} : g_wp sc T el ini rk code K P mc ms (n + 1) pc (.pop, len, c32, tg) lv (v :: s) σ c z = (g_c1 v = true ∧ g_go code K (g_wp sc T el ini rk code K P mc ms n) (pc + len) lv s σ c z) := rfl
theorem w_dup_x1 {v w : Value} : g_wp sc T el ini rk code K P mc ms (n + 1) pc (.dup_x1, len, c32, tg) lv (v :: w :: s) σ c z = (g_c1 v = true ∧ g_c1 w = true ∧ g_go code K (g_wp sc T el ini rk code K P mc ms n) (pc + len) lv (v :: w :: v :: s) σ c z) := rfl
theorem w_dup2 {v w : Value} : g_wp sc T el ini rk code K P mc ms (n + 1) pc (.dup2, len, c32, tg) lv (v :: w :: s) σ c z = (g_c1 v = true ∧ g_c1 w = true ∧ g_go code K (g_wp sc T el ini rk code K P mc ms n) (pc + len) lv (v :: w :: v :: w :: s) σ c z) := rfl
theorem w_iadd {x y : Int32} : g_wp sc T el ini rk code K P mc ms (n + 1) pc (.iadd, len, c32, tg) lv (.int y :: .int x :: s) σ c z = (g_go code K (g_wp sc T el ini rk code K P mc ms n) (pc + len) lv (.int (x + y) :: s) σ c z) := rfl
theorem w_isub {x y : Int32} : g_wp sc T el ini rk code K P mc ms (n + 1) pc (.isub, len, c32, tg) lv (.int y :: .int x :: s) σ c z = (g_go code K (g_wp sc T el ini rk code K P mc ms n) (pc + len) lv (.int (x - y) :: s) σ c z) := rfl
theorem w_imul {x y : Int32} : g_wp sc T el ini rk code K P mc ms (n + 1) pc (.imul, len, c32, tg) lv (.int y :: .int x :: s) σ c z = (g_go code K (g_wp sc T el ini rk code K P mc ms n) (pc + len) lv (.int (x * y) :: s) σ c z) := rfl
theorem w_iand {x y : Int32} : g_wp sc T el ini rk code K P mc ms (n + 1) pc (.iand, len, c32, tg) lv (.int y :: .int x :: s) σ c z = (g_go code K (g_wp sc T el ini rk code K P mc ms n) (pc + len) lv (.int (x &&& y) :: s) σ c z) := rfl
theorem w_land {x y : Int64} : g_wp sc T el ini rk code K P mc ms (n + 1) pc (.land, len, c32, tg) lv (.long y :: .long x :: s) σ c z = (g_go code K (g_wp sc T el ini rk code K P mc ms n) (pc + len) lv (.long (x &&& y) :: s) σ c z) := rfl
theorem w_lor {x y : Int64} : g_wp sc T el ini rk code K P mc ms (n + 1) pc (.lor, len, c32, tg) lv (.long y :: .long x :: s) σ c z = (g_go code K (g_wp sc T el ini rk code K P mc ms n) (pc + len) lv (.long (x ||| y) :: s) σ c z) := rfl
theorem w_lshl {x : Int64} {y : Int32} : g_wp sc T el ini rk code K P mc ms (n + 1) pc (.lshl, len, c32, tg) lv (.int y :: .long x :: s) σ c z = (g_go code K (g_wp sc T el ini rk code K P mc ms n) (pc + len) lv (.long (x <<< (y.toInt64 &&& 63)) :: s) σ c z) := rfl
theorem w_i2l {x : Int32} : g_wp sc T el ini rk code K P mc ms (n + 1) pc (.i2l, len, c32, tg) lv (.int x :: s) σ c z = (g_go code K (g_wp sc T el ini rk code K P mc ms n) (pc + len) lv (.long x.toInt64 :: s) σ c z) := rfl
theorem w_lcmp {x y : Int64} : g_wp sc T el ini rk code K P mc ms (n + 1) pc (.lcmp, len, c32, tg) lv (.long y :: .long x :: s) σ c z = (g_go code K (g_wp sc T el ini rk code K P mc ms n) (pc + len) lv (.int (lg_cmp x y) :: s) σ c z) := rfl
theorem w_get {j a : Nat} : g_wp sc T el ini rk code K P mc ms (n + 1) pc (.getfield j, len, c32, tg) lv (.ref a :: s) σ c z = (g_opt (T.1 j) (fun q => g_rd (σ a) q.1 q.2.1 (fun v => g_go code K (g_wp sc T el ini rk code K P mc ms n) (pc + len) lv (v :: s) σ c z))) := rfl
theorem w_put {j a : Nat} {v : Value} : g_wp sc T el ini rk code K P mc ms (n + 1) pc (.putfield j, len, c32, tg) lv (v :: .ref a :: s) σ c z = (g_opt (T.1 j) (fun q => (q.2.2.2 = 1 ∨ (q.2.2.2 = 2 ∧ ini = true)) ∧ g_fit q.2.2.1 v ∧ g_pt (σ a) q.1 q.2.1 (fun fs => g_go code K (g_wp sc T el ini rk code K P mc ms n) (pc + len) lv s (g_up σ a (g_ob q.1 (fs.set q.2.1 v))) c z))) := rfl
theorem w_iald {a : Nat} {i : Int32} : g_wp sc T el ini rk code K P mc ms (n + 1) pc (.iaload, len, c32, tg) lv (.int i :: .ref a :: s) σ c z = (g_lds sc a (σ a) i (fun g => g_go code K (g_wp sc T el ini rk code K P mc ms n) (pc + len) lv (.int (g i.toNatClampNeg) :: s) σ c z)) := rfl
theorem w_bald {a : Nat} {i : Int32} : g_wp sc T el ini rk code K P mc ms (n + 1) pc (.baload, len, c32, tg) lv (.int i :: .ref a :: s) σ c z = (g_ai (σ a) 1 i (fun _ g => g_go code K (g_wp sc T el ini rk code K P mc ms n) (pc + len) lv (.int (g i.toNatClampNeg) :: s) σ c z)) := rfl
theorem w_lald {a : Nat} {i : Int32} : g_wp sc T el ini rk code K P mc ms (n + 1) pc (.laload, len, c32, tg) lv (.int i :: .ref a :: s) σ c z = (g_al (σ a) 2 i (fun _ g => g_go code K (g_wp sc T el ini rk code K P mc ms n) (pc + len) lv (.long (g i.toNatClampNeg) :: s) σ c z)) := rfl
theorem w_aald {a : Nat} {i : Int32} : g_wp sc T el ini rk code K P mc ms (n + 1) pc (.aaload, len, c32, tg) lv (.int i :: .ref a :: s) σ c z = (g_ar el (σ a) i (fun _ _ g => (g i.toNatClampNeg = none → g_go code K (g_wp sc T el ini rk code K P mc ms n) (pc + len) lv (.null :: s) σ c z) ∧ ∀ q, g i.toNatClampNeg = some q → g_go code K (g_wp sc T el ini rk code K P mc ms n) (pc + len) lv (.ref q :: s) σ c z)) := rfl
theorem w_iast {a : Nat} {i x : Int32} : g_wp sc T el ini rk code K P mc ms (n + 1) pc (.iastore, len, c32, tg) lv (.int x :: .int i :: .ref a :: s) σ c z = (g_ai (σ a) 0 i (fun m g => g_go code K (g_wp sc T el ini rk code K P mc ms n) (pc + len) lv s (g_up σ a (g_ia 0 m (upd g i.toNatClampNeg x))) c z)) := rfl
theorem w_bast {a : Nat} {i x : Int32} : g_wp sc T el ini rk code K P mc ms (n + 1) pc (.bastore, len, c32, tg) lv (.int x :: .int i :: .ref a :: s) σ c z = ((x = 0 ∨ x = 1) ∧ g_ai (σ a) 1 i (fun m g => g_go code K (g_wp sc T el ini rk code K P mc ms n) (pc + len) lv s (g_up σ a (g_ia 1 m (upd g i.toNatClampNeg x))) c z)) := rfl
theorem w_last {a : Nat} {i : Int32} {x : Int64} : g_wp sc T el ini rk code K P mc ms (n + 1) pc (.lastore, len, c32, tg) lv (.long x :: .int i :: .ref a :: s) σ c z = (g_al (σ a) 2 i (fun m g => g_go code K (g_wp sc T el ini rk code K P mc ms n) (pc + len) lv s (g_up σ a (g_la 2 m (vp_updL g i.toNatClampNeg x))) c z)) := rfl
theorem w_aastN {a : Nat} {i : Int32} : g_wp sc T el ini rk code K P mc ms (n + 1) pc (.aastore, len, c32, tg) lv (.null :: .int i :: .ref a :: s) σ c z = (g_ar el (σ a) i (fun t m g => g_go code K (g_wp sc T el ini rk code K P mc ms n) (pc + len) lv s (g_up σ a (g_ra t m (va_up g i.toNatClampNeg none))) c z)) := rfl
theorem w_aast {a q : Nat} {i : Int32} : g_wp sc T el ini rk code K P mc ms (n + 1) pc (.aastore, len, c32, tg) lv (.ref q :: .int i :: .ref a :: s) σ c z = (g_ar el (σ a) i (fun t m g => g_cls (σ q) (fun cq => el t = some cq) ∧ g_go code K (g_wp sc T el ini rk code K P mc ms n) (pc + len) lv s (g_up σ a (g_ra t m (va_up g i.toNatClampNeg (some q)))) c z)) := rfl
theorem w_len {a : Nat} : g_wp sc T el ini rk code K P mc ms (n + 1) pc (.arraylength, len, c32, tg) lv (.ref a :: s) σ c z = (g_len sc el a (σ a) (fun x => g_go code K (g_wp sc T el ini rk code K P mc ms n) (pc + len) lv (.int x :: s) σ c z)) := rfl
theorem w_new {j : Nat} : g_wp sc T el ini rk code K P mc ms (n + 1) pc (.new j, len, c32, tg) lv st σ c z = (g_opt (T.2.2.1 j) (fun y => c + 1 ≤ mc ∧ z + y.2.length ≤ ms ∧ ∀ q, σ q = none → q ≠ sc.1 → g_go code K (g_wp sc T el ini rk code K P mc ms n) (pc + len) lv (.ref q :: st) (g_up σ q (g_ob y.1 y.2)) (c + 1) (z + y.2.length))) := rfl
theorem w_newa_int {k : Int32} : g_wp sc T el ini rk code K P mc ms (n + 1) pc (.newarray .int, len, c32, tg) lv (.int k :: s) σ c z = (¬ k < 0 ∧ k.toNatClampNeg ≤ 60000000 ∧ c + 1 ≤ mc ∧ z + k.toNatClampNeg ≤ ms ∧ ∀ q, σ q = none → g_go code K (g_wp sc T el ini rk code K P mc ms n) (pc + len) lv (.ref q :: s) (g_up σ q (g_ia 0 k.toNatClampNeg (fun _ => 0))) (c + 1) (z + k.toNatClampNeg)) := propext ⟨fun h => ⟨h.1, h.2.1, h.2.2.1, h.2.2.2.1, h.2.2.2.2.2⟩, fun h => ⟨h.1, h.2.1, h.2.2.1, h.2.2.2.1, by simp, h.2.2.2.2⟩⟩
theorem w_newa_boolean {k : Int32} : g_wp sc T el ini rk code K P mc ms (n + 1) pc (.newarray .boolean, len, c32, tg) lv (.int k :: s) σ c z = (¬ k < 0 ∧ k.toNatClampNeg ≤ 60000000 ∧ c + 1 ≤ mc ∧ z + k.toNatClampNeg ≤ ms ∧ ∀ q, σ q = none → g_go code K (g_wp sc T el ini rk code K P mc ms n) (pc + len) lv (.ref q :: s) (g_up σ q (g_ia 1 k.toNatClampNeg (fun _ => 0))) (c + 1) (z + k.toNatClampNeg)) := propext ⟨fun h => ⟨h.1, h.2.1, h.2.2.1, h.2.2.2.1, h.2.2.2.2.2⟩, fun h => ⟨h.1, h.2.1, h.2.2.1, h.2.2.2.1, by simp, h.2.2.2.2⟩⟩
theorem w_newa_long {k : Int32} : g_wp sc T el ini rk code K P mc ms (n + 1) pc (.newarray .long, len, c32, tg) lv (.int k :: s) σ c z = (¬ k < 0 ∧ k.toNatClampNeg ≤ 60000000 ∧ c + 1 ≤ mc ∧ z + k.toNatClampNeg ≤ ms ∧ ∀ q, σ q = none → g_go code K (g_wp sc T el ini rk code K P mc ms n) (pc + len) lv (.ref q :: s) (g_up σ q (g_la 2 k.toNatClampNeg (fun _ => 0))) (c + 1) (z + k.toNatClampNeg)) := propext ⟨fun h => ⟨h.1, h.2.1, h.2.2.1, h.2.2.2.1, h.2.2.2.2.2⟩, fun h => ⟨h.1, h.2.1, h.2.2.1, h.2.2.2.1, by simp, h.2.2.2.2⟩⟩
theorem w_newr {j : Nat} {k : Int32} : g_wp sc T el ini rk code K P mc ms (n + 1) pc (.anewarray j, len, c32, tg) lv (.int k :: s) σ c z = (g_opt (T.2.2.2.1 j) (fun t => ¬ k < 0 ∧ k.toNatClampNeg ≤ 60000000 ∧ c + 1 ≤ mc ∧ z + k.toNatClampNeg ≤ ms ∧ ∀ q, σ q = none → g_go code K (g_wp sc T el ini rk code K P mc ms n) (pc + len) lv (.ref q :: s) (g_up σ q (g_ra t k.toNatClampNeg (fun _ => none))) (c + 1) (z + k.toNatClampNeg))) := rfl
theorem w_invokevirtual {j : Nat} : g_wp sc T el ini rk code K P mc ms (n + 1) pc (.invokevirtual j, len, c32, tg) lv st σ c z = (g_cl 2 (T.2.2.2.2.2 j) (T.2.1 j) σ st c z mc ms (fun st' σ' c' z' => g_go code K (g_wp sc T el ini rk code K P mc ms n) (pc + len) lv st' σ' c' z')) := rfl
theorem w_invokespecial {j : Nat} : g_wp sc T el ini rk code K P mc ms (n + 1) pc (.invokespecial j, len, c32, tg) lv st σ c z = (g_cl 1 (T.2.2.2.2.2 j) (T.2.1 j) σ st c z mc ms (fun st' σ' c' z' => g_go code K (g_wp sc T el ini rk code K P mc ms n) (pc + len) lv st' σ' c' z')) := rfl
theorem w_invokestatic {j : Nat} : g_wp sc T el ini rk code K P mc ms (n + 1) pc (.invokestatic j, len, c32, tg) lv st σ c z = (g_cl 0 (T.2.2.2.2.2 j) (T.2.1 j) σ st c z mc ms (fun st' σ' c' z' => g_go code K (g_wp sc T el ini rk code K P mc ms n) (pc + len) lv st' σ' c' z')) := rfl
theorem w_goto {o a : Int} {t : Nat} : g_wp sc T el ini rk code K P mc ms (n + 1) pc (.goto o, len, c32, [(a, t)]) lv st σ c z = (g_go code K (g_wp sc T el ini rk code K P mc ms n) t lv st σ c z) := rfl
theorem w_icmp_eq {o a : Int} {t : Nat} {x y : Int32} : g_wp sc T el ini rk code K P mc ms (n + 1) pc (.if_icmp .eq o, len, c32, [(a, t)]) lv (.int y :: .int x :: s) σ c z = ((x = y → g_go code K (g_wp sc T el ini rk code K P mc ms n) t lv s σ c z) ∧ (¬ x = y → g_go code K (g_wp sc T el ini rk code K P mc ms n) (pc + len) lv s σ c z)) := rfl
theorem w_if_eq {o a : Int} {t : Nat} {x : Int32} : g_wp sc T el ini rk code K P mc ms (n + 1) pc (.ifCond .eq o, len, c32, [(a, t)]) lv (.int x :: s) σ c z = ((x = 0 → g_go code K (g_wp sc T el ini rk code K P mc ms n) t lv s σ c z) ∧ (¬ x = 0 → g_go code K (g_wp sc T el ini rk code K P mc ms n) (pc + len) lv s σ c z)) := rfl
theorem w_icmp_ne {o a : Int} {t : Nat} {x y : Int32} : g_wp sc T el ini rk code K P mc ms (n + 1) pc (.if_icmp .ne o, len, c32, [(a, t)]) lv (.int y :: .int x :: s) σ c z = ((¬ x = y → g_go code K (g_wp sc T el ini rk code K P mc ms n) t lv s σ c z) ∧ (¬ ¬ x = y → g_go code K (g_wp sc T el ini rk code K P mc ms n) (pc + len) lv s σ c z)) := rfl
theorem w_if_ne {o a : Int} {t : Nat} {x : Int32} : g_wp sc T el ini rk code K P mc ms (n + 1) pc (.ifCond .ne o, len, c32, [(a, t)]) lv (.int x :: s) σ c z = ((¬ x = 0 → g_go code K (g_wp sc T el ini rk code K P mc ms n) t lv s σ c z) ∧ (¬ ¬ x = 0 → g_go code K (g_wp sc T el ini rk code K P mc ms n) (pc + len) lv s σ c z)) := rfl
theorem w_icmp_lt {o a : Int} {t : Nat} {x y : Int32} : g_wp sc T el ini rk code K P mc ms (n + 1) pc (.if_icmp .lt o, len, c32, [(a, t)]) lv (.int y :: .int x :: s) σ c z = ((x < y → g_go code K (g_wp sc T el ini rk code K P mc ms n) t lv s σ c z) ∧ (¬ x < y → g_go code K (g_wp sc T el ini rk code K P mc ms n) (pc + len) lv s σ c z)) := rfl
theorem w_if_lt {o a : Int} {t : Nat} {x : Int32} : g_wp sc T el ini rk code K P mc ms (n + 1) pc (.ifCond .lt o, len, c32, [(a, t)]) lv (.int x :: s) σ c z = ((x < 0 → g_go code K (g_wp sc T el ini rk code K P mc ms n) t lv s σ c z) ∧ (¬ x < 0 → g_go code K (g_wp sc T el ini rk code K P mc ms n) (pc + len) lv s σ c z)) := rfl
theorem w_icmp_ge {o a : Int} {t : Nat} {x y : Int32} : g_wp sc T el ini rk code K P mc ms (n + 1) pc (.if_icmp .ge o, len, c32, [(a, t)]) lv (.int y :: .int x :: s) σ c z = ((y ≤ x → g_go code K (g_wp sc T el ini rk code K P mc ms n) t lv s σ c z) ∧ (¬ y ≤ x → g_go code K (g_wp sc T el ini rk code K P mc ms n) (pc + len) lv s σ c z)) := rfl
theorem w_if_ge {o a : Int} {t : Nat} {x : Int32} : g_wp sc T el ini rk code K P mc ms (n + 1) pc (.ifCond .ge o, len, c32, [(a, t)]) lv (.int x :: s) σ c z = ((0 ≤ x → g_go code K (g_wp sc T el ini rk code K P mc ms n) t lv s σ c z) ∧ (¬ 0 ≤ x → g_go code K (g_wp sc T el ini rk code K P mc ms n) (pc + len) lv s σ c z)) := rfl
theorem w_icmp_gt {o a : Int} {t : Nat} {x y : Int32} : g_wp sc T el ini rk code K P mc ms (n + 1) pc (.if_icmp .gt o, len, c32, [(a, t)]) lv (.int y :: .int x :: s) σ c z = ((y < x → g_go code K (g_wp sc T el ini rk code K P mc ms n) t lv s σ c z) ∧ (¬ y < x → g_go code K (g_wp sc T el ini rk code K P mc ms n) (pc + len) lv s σ c z)) := rfl
theorem w_if_gt {o a : Int} {t : Nat} {x : Int32} : g_wp sc T el ini rk code K P mc ms (n + 1) pc (.ifCond .gt o, len, c32, [(a, t)]) lv (.int x :: s) σ c z = ((0 < x → g_go code K (g_wp sc T el ini rk code K P mc ms n) t lv s σ c z) ∧ (¬ 0 < x → g_go code K (g_wp sc T el ini rk code K P mc ms n) (pc + len) lv s σ c z)) := rfl
theorem w_icmp_le {o a : Int} {t : Nat} {x y : Int32} : g_wp sc T el ini rk code K P mc ms (n + 1) pc (.if_icmp .le o, len, c32, [(a, t)]) lv (.int y :: .int x :: s) σ c z = ((x ≤ y → g_go code K (g_wp sc T el ini rk code K P mc ms n) t lv s σ c z) ∧ (¬ x ≤ y → g_go code K (g_wp sc T el ini rk code K P mc ms n) (pc + len) lv s σ c z)) := rfl
theorem w_if_le {o a : Int} {t : Nat} {x : Int32} : g_wp sc T el ini rk code K P mc ms (n + 1) pc (.ifCond .le o, len, c32, [(a, t)]) lv (.int x :: s) σ c z = ((x ≤ 0 → g_go code K (g_wp sc T el ini rk code K P mc ms n) t lv s σ c z) ∧ (¬ x ≤ 0 → g_go code K (g_wp sc T el ini rk code K P mc ms n) (pc + len) lv s σ c z)) := rfl
theorem w_ifnull {o : Int} {tg : List (Int × Nat)} {x : Nat} : g_wp sc T el ini rk code K P mc ms (n + 1) pc (.ifnull o, len, c32, tg) lv (.ref x :: s) σ c z = (g_go code K (g_wp sc T el ini rk code K P mc ms n) (pc + len) lv s σ c z) := rfl
theorem w_ifnullN {o a : Int} {t : Nat} : g_wp sc T el ini rk code K P mc ms (n + 1) pc (.ifnull o, len, c32, [(a, t)]) lv (.null :: s) σ c z = (g_go code K (g_wp sc T el ini rk code K P mc ms n) t lv s σ c z) := rfl
theorem w_ifnonnullN {o : Int} {tg : List (Int × Nat)} : g_wp sc T el ini rk code K P mc ms (n + 1) pc (.ifnonnull o, len, c32, tg) lv (.null :: s) σ c z = (g_go code K (g_wp sc T el ini rk code K P mc ms n) (pc + len) lv s σ c z) := rfl
theorem w_ifnonnull {o a : Int} {t x : Nat} : g_wp sc T el ini rk code K P mc ms (n + 1) pc (.ifnonnull o, len, c32, [(a, t)]) lv (.ref x :: s) σ c z = (g_go code K (g_wp sc T el ini rk code K P mc ms n) t lv s σ c z) := rfl
theorem w_tsw {d lo hi : Int} {os : Array Int} {x : Int32} : g_wp sc T el ini rk code K P mc ms (n + 1) pc (.tableswitch d lo hi os, len, c32, tg) lv (.int x :: s) σ c z = (g_sw x (fun t => g_go code K (g_wp sc T el ini rk code K P mc ms n) t lv s σ c z) tg) := rfl
theorem w_lsw {d : Int} {os : Array (Int × Int)} {x : Int32} : g_wp sc T el ini rk code K P mc ms (n + 1) pc (.lookupswitch d os, len, c32, tg) lv (.int x :: s) σ c z = (g_sw x (fun t => g_go code K (g_wp sc T el ini rk code K P mc ms n) t lv s σ c z) tg) := rfl
theorem w_iret {x : Int32} : g_wp sc T el ini rk code K P mc ms (n + 1) pc (.ireturn, len, c32, tg) lv [.int x] σ c z = ((rk = 1 ∨ (rk = 2 ∧ (x = 0 ∨ x = 1))) ∧ c ≤ mc ∧ z ≤ ms ∧ P (some (.int x)) σ) := rfl
theorem w_aret {a : Nat} : g_wp sc T el ini rk code K P mc ms (n + 1) pc (.areturn, len, c32, tg) lv [.ref a] σ c z = (rk = 3 ∧ c ≤ mc ∧ z ≤ ms ∧ P (some (.ref a)) σ) := rfl
theorem w_aretN : g_wp sc T el ini rk code K P mc ms (n + 1) pc (.areturn, len, c32, tg) lv [.null] σ c z = (rk = 3 ∧ c ≤ mc ∧ z ≤ ms ∧ P (some .null) σ) := rfl
theorem w_ret : g_wp sc T el ini rk code K P mc ms (n + 1) pc (.return_, len, c32, tg) lv [] σ c z = (rk = 0 ∧ c ≤ mc ∧ z ≤ ms ∧ P none σ) := rfl
end GW
theorem s_opt {α : Type} {a : α} {f : α → Prop} : g_opt (some a) f = f a := rfl
theorem s_oI {x : Int32} {f : Int32 → Prop} : g_oI (some (some (.int x))) f = f x := rfl
theorem s_oL {x : Int64} {f : Int64 → Prop} : g_oL (some (some (.long x))) f = f x := rfl
theorem s_oA {x : Nat} {f : Value → Prop} : g_oA (some (some (.ref x))) f = f (.ref x) := rfl
theorem s_oAN {f : Value → Prop} : g_oA (some (some .null)) f = f .null := rfl
theorem s_set0 {x : Option Value} {lv : gL} {v : Value} : g_set (x :: lv) 0 v = some v :: lv := by simp [g_set]
theorem s_set1 {x : Option Value} {lv : gL} {i : Nat} {v : Value} : g_set (x :: lv) (i + 1) v = x :: g_set lv i v := by simp [g_set]
theorem s_setn0 {v : Value} : g_set [] 0 v = [some v] := by simp [g_set]
theorem s_setn1 {i : Nat} {v : Value} : g_set [] (i + 1) v = none :: g_set [] i v := by simp [g_set, List.replicate_succ]
theorem s_ok0 {lv : gL} : (g_ok1 lv 0 = true) = True := by simp [g_ok1]
theorem s_okn {i : Nat} : (g_ok1 [] (i + 1) = true) = True := by simp [g_ok1]
theorem s_oki {x : Int32} {lv : gL} : (g_ok1 (some (.int x) :: lv) 1 = true) = True := by simp [g_ok1]
theorem s_okr {x : Nat} {lv : gL} : (g_ok1 (some (.ref x) :: lv) 1 = true) = True := by simp [g_ok1]
theorem s_okN {lv : gL} : (g_ok1 (some .null :: lv) 1 = true) = True := by simp [g_ok1]
theorem s_oko {lv : gL} : (g_ok1 (none :: lv) 1 = true) = True := by simp [g_ok1]
theorem s_oks {x : Option Value} {lv : gL} {i : Nat} : (g_ok1 (x :: lv) (i + 2) = true) = (g_ok1 lv (i + 1) = true) := by simp [g_ok1]
theorem s_c1i {x : Int32} : (g_c1 (.int x) = true) = True := by simp [g_c1]
theorem s_c1r {x : Nat} : (g_c1 (.ref x) = true) = True := by simp [g_c1]
theorem s_c1n : (g_c1 .null = true) = True := by simp [g_c1]
theorem s_fi {x : Int32} : g_fit 0 (.int x) = True := rfl
theorem s_fr {x : Nat} : g_fit 1 (.ref x) = True := rfl
theorem s_fn : g_fit 1 .null = True := rfl
theorem s_fl {x : Int64} : g_fit 2 (.long x) = True := rfl
theorem s_fz {x : Int32} : g_fit 3 (.int x) = (x = 0 ∨ x = 1) := rfl
theorem s_rd {c : Nat} {fs : List Value} {k : Nat} {f : Value → Prop} : g_rd (some (g_ob c fs)) c k f = g_opt fs[k]? f := by simp [g_rd, g_ob]
theorem s_pt {c : Nat} {fs : List Value} {k : Nat} {f : List Value → Prop} : g_pt (some (g_ob c fs)) c k f = (k < fs.length ∧ f fs) := by simp [g_pt, g_ob]
theorem s_ai {t n : Nat} {g : Nat → Int32} {i : Int32} {f : Nat → (Nat → Int32) → Prop} : g_ai (some (g_ia t n g)) t i f = (vp_in i n ∧ f n g) := by simp [g_ai, g_ia]
theorem s_lds {sc : gX} {a n : Nat} {g : Nat → Int32} {i : Int32} {f : (Nat → Int32) → Prop} : g_lds sc a (some (g_ia 0 n g)) i f = (vp_in i n ∧ f g) := by simp [g_lds, g_ia]
theorem s_ldsN {sc : gX} {i : Int32} {f : (Nat → Int32) → Prop} : g_lds sc sc.1 none i f = (vp_in i sc.2.1 ∧ f sc.2.2) := by simp [g_lds]
theorem s_al {t n : Nat} {g : Nat → Int64} {i : Int32} {f : Nat → (Nat → Int64) → Prop} : g_al (some (g_la t n g)) t i f = (vp_in i n ∧ f n g) := by simp [g_al, g_la]
theorem s_ar {el : Nat → Option Nat} {t n : Nat} {g : Nat → Option Nat} {i : Int32} {f : Nat → Nat → (Nat → Option Nat) → Prop} : g_ar el (some (g_ra t n g)) i f = ((el t).isSome = true ∧ vp_in i n ∧ f t n g) := rfl
theorem s_cls {c : Nat} {fs : List Value} {f : Nat → Prop} : g_cls (some (g_ob c fs)) f = f c := rfl
theorem s_leni {sc : gX} {a : Nat} {el : Nat → Option Nat} {n : Nat} {g : Nat → Int32} {f : Int32 → Prop} : g_len sc el a (some (g_ia 0 n g)) f = f (nI n) := by simp [g_len, g_ia]
theorem s_lenz {sc : gX} {a : Nat} {el : Nat → Option Nat} {n : Nat} {g : Nat → Int32} {f : Int32 → Prop} : g_len sc el a (some (g_ia 1 n g)) f = f (nI n) := by simp [g_len, g_ia]
theorem s_lenr {sc : gX} {a : Nat} {el : Nat → Option Nat} {t n : Nat} {g : Nat → Option Nat} {f : Int32 → Prop} : g_len sc el a (some (g_ra t n g)) f = ((el t).isSome = true ∧ f (nI n)) := rfl
theorem s_lenN {sc : gX} {el : Nat → Option Nat} {f : Int32 → Prop} : g_len sc el sc.1 none f = f (nI sc.2.1) := by simp [g_len]
theorem s_lenl {sc : gX} {a : Nat} {el : Nat → Option Nat} {n : Nat} {g : Nat → Int64} {f : Int32 → Prop} : g_len sc el a (some (g_la 2 n g)) f = f (nI n) := by simp [g_len, g_la]
theorem s_rc0 {σ : gS} {av : List Value} : g_rcv σ 0 av = True := rfl
theorem s_rc1 {σ : gS} {b : Nat} {as : List Value} : g_rcv σ 1 (.ref b :: as) = True := by simp [g_rcv]
theorem s_rcv {σ : gS} {k b : Nat} {as : List Value} : g_rcv σ (k + 2) (.ref b :: as) = g_cls (σ b) (fun c => c = k) := rfl
theorem s_clo {o : Option (Nat × Nat × gSpec × Nat × Nat)} {σ : gS} {a : Nat} {s : List Value} {c z mc ms : Nat} {f : List Value → gS → Nat → Nat → Prop} : g_cl 1 (some 0) o σ (.ref a :: s) c z mc ms f = (s.length ≤ 4 ∧ f s σ c z) := by simp [g_cl]
theorem s_clx {o : Option (Nat × Nat × gSpec × Nat × Nat)} {σ : gS} {x y : Int32} {s : List Value} {c z mc ms : Nat} {f : List Value → gS → Nat → Nat → Prop} : g_cl 0 (some 1) o σ (.int y :: .int x :: s) c z mc ms f = (s.length ≤ 4 ∧ c ≤ mc ∧ z ≤ ms ∧ f (.int (if x < y then y else x) :: s) σ c z) := by simp [g_cl]
theorem s_cln {o : Option (Nat × Nat × gSpec × Nat × Nat)} {σ : gS} {x y : Int32} {s : List Value} {c z mc ms : Nat} {f : List Value → gS → Nat → Nat → Prop} : g_cl 0 (some 2) o σ (.int y :: .int x :: s) c z mc ms f = (s.length ≤ 4 ∧ c ≤ mc ∧ z ≤ ms ∧ f (.int (if y < x then y else x) :: s) σ c z) := by simp [g_cl]
theorem s_cl1 {iv kind c' z' : Nat} {sp : gSpec} {σ : gS} {v1 : Value} {s : List Value} {c z mc ms : Nat} {f : List Value → gS → Nat → Nat → Prop} : g_cl iv none (some (1, kind, sp, c', z')) σ (v1 :: s) c z mc ms f = (min kind 2 = iv ∧ s.length ≤ 4 ∧ c + c' ≤ mc ∧ z + z' ≤ ms ∧ g_rcv σ kind [v1] ∧ sp [v1] σ (fun r σ' => f (r.toList ++ s) σ' (c + c') (z + z'))) := by simp [g_cl]
theorem s_cl2 {iv kind c' z' : Nat} {sp : gSpec} {σ : gS} {v1 v2 : Value} {s : List Value} {c z mc ms : Nat} {f : List Value → gS → Nat → Nat → Prop} : g_cl iv none (some (2, kind, sp, c', z')) σ (v2 :: v1 :: s) c z mc ms f = (min kind 2 = iv ∧ s.length ≤ 4 ∧ c + c' ≤ mc ∧ z + z' ≤ ms ∧ g_rcv σ kind [v1, v2] ∧ sp [v1, v2] σ (fun r σ' => f (r.toList ++ s) σ' (c + c') (z + z'))) := by simp [g_cl]
theorem s_cl3 {iv kind c' z' : Nat} {sp : gSpec} {σ : gS} {v1 v2 v3 : Value} {s : List Value} {c z mc ms : Nat} {f : List Value → gS → Nat → Nat → Prop} : g_cl iv none (some (3, kind, sp, c', z')) σ (v3 :: v2 :: v1 :: s) c z mc ms f = (min kind 2 = iv ∧ s.length ≤ 4 ∧ c + c' ≤ mc ∧ z + z' ≤ ms ∧ g_rcv σ kind [v1, v2, v3] ∧ sp [v1, v2, v3] σ (fun r σ' => f (r.toList ++ s) σ' (c + c') (z + z'))) := by simp [g_cl]
theorem s_cl4 {iv kind c' z' : Nat} {sp : gSpec} {σ : gS} {v1 v2 v3 v4 : Value} {s : List Value} {c z mc ms : Nat} {f : List Value → gS → Nat → Nat → Prop} : g_cl iv none (some (4, kind, sp, c', z')) σ (v4 :: v3 :: v2 :: v1 :: s) c z mc ms f = (min kind 2 = iv ∧ s.length ≤ 4 ∧ c + c' ≤ mc ∧ z + z' ≤ ms ∧ g_rcv σ kind [v1, v2, v3, v4] ∧ sp [v1, v2, v3, v4] σ (fun r σ' => f (r.toList ++ s) σ' (c + c') (z + z'))) := by simp [g_cl]
theorem s_cl5 {iv kind c' z' : Nat} {sp : gSpec} {σ : gS} {v1 v2 v3 v4 v5 : Value} {s : List Value} {c z mc ms : Nat} {f : List Value → gS → Nat → Nat → Prop} : g_cl iv none (some (5, kind, sp, c', z')) σ (v5 :: v4 :: v3 :: v2 :: v1 :: s) c z mc ms f = (min kind 2 = iv ∧ s.length ≤ 4 ∧ c + c' ≤ mc ∧ z + z' ≤ ms ∧ g_rcv σ kind [v1, v2, v3, v4, v5] ∧ sp [v1, v2, v3, v4, v5] σ (fun r σ' => f (r.toList ++ s) σ' (c + c') (z + z'))) := by simp [g_cl]
theorem s_sw1 {x : Int32} {j : Nat → Prop} {d : Int × Nat} : g_sw x j [d] = j d.2 := rfl
theorem s_sw2 {x : Int32} {j : Nat → Prop} {q q2 : Int × Nat} {r : List (Int × Nat)} : g_sw x j (q :: q2 :: r) = ((x.toInt = q.1 → j q.2) ∧ (¬ x.toInt = q.1 → g_sw x j (q2 :: r))) := rfl
theorem s_min0 : (min 0 2 = 0) = True := by decide
theorem s_min1 : (min 1 2 = 1) = True := by decide
theorem s_min2 {k : Nat} : (min (k + 2) 2 = 2) = True := by simp
