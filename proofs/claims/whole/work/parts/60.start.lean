/-! THE CLAIM OUT OF ONE WALK OF THE LAW'S BODY. Your part is whole_start (and what it stands on); all else here is the same for every law, but numbers. -/
def R_law : String := "DataSetsLaw"
def lw_P (b : Addr) (xs : List Int32) (args : Array Value) (s : State) : Prop := args = #[.ref b] ∧ s.IntsAt b xs ∧ xs.length ≤ 2561 ∧ (Jvm.Cond.and given_1 narrow_1).before args s = true
def lw_Q (_ : Array Value) (s : State) (o : Outcome) (t : State) : Prop := o = .returned (some (.int 1)) ∧ Framed s o t [] 600000 7302250
def lw_Z (below : List Frame) (a : Array Value) (s : State) : State → Prop := fun t => ∃ o, t.status = .running ∧ Ended t below o ∧ lw_Q a s o t
/-- the law's own end, with 1 on the stack, nothing written that was there before, its room as the claim has it -/
theorem lw_ret {p : Program} {l : Launch} {e : Env} {s : State} {m : MethodId} {below : List Frame} {meth : Method} {c : Code} {b : Nat} (hx : p.tables.exec = Jvm.exec) (hb : c.code = code) (hr : meth.sig.returnType = ret) (hlocks : meth.locks = false) {pc : Nat} {H : Heap} {ls : Array Slot} (hdg : decode code pc = .ok (.ireturn, 1)) : W p l e room_1 s m #[Value.ref b] below meth c H [] 600000 7302250 (lw_Z below #[Value.ref b] s) (F0 m pc ls [.int 1]) := by
  intro T hT X
  obtain ⟨fs, hret, hrun, hended, hW, hframe⟩ := X.leave (v := some (.int 1)) (hlocks := hlocks) (fun h => by rw [hr] at h; cases h)
  have hmeth' : T.vm.method? m = some meth := X.method'
  refine ⟨T.setFrames fs, ?_, .returned (some (.int 1)), hrun, hended, rfl, ⟨_, rfl⟩, hW, hframe⟩
  jvm_step X.here [X.here.top, hx, hb, hdg, hmeth', hr, ret, narrow_b1]
  (try refine ⟨rfl, ?_⟩); (try refine ⟨rfl, ?_⟩)
  first | (intro acts; rw [hret _ acts rfl rfl rfl]) | rw [hret _ _ rfl rfl rfl]
  exact Steps.refl _
/-- what holds at the law's entry: the machine, the code, the tables' words (any of lw_tbl by 'hts w (by decide +kernel)'), the script of L ints xs at the cell b, what the Statement gives of the start (any of its parts by flat_of_before) -/
def lw_At (p : Program) (s : State) (m : MethodId) (meth : Method) (c : Code) (b L : Nat) (xs : Nat → Int32) : Prop :=
  p.tables.exec = Jvm.exec ∧ c.code = code ∧ meth.sig.returnType = ret ∧ c.maxLocals = 4 ∧ s.vm.findClass R_law = some m.cls ∧ (∀ w ∈ lw_tbl, w.before #[Value.ref b] s = true) ∧ va_X b L xs s s.heap ∧ b < s.heap.size ∧ meth.locks = false ∧ (Jvm.Cond.and given_1 narrow_1).before #[Value.ref b] s = true
-- ===== YOUR PART BEGINS =====
/-- the classes and the array classes, as the tables have them -/
theorem lw_D {s : State} {args : Array Value} (hts : ∀ w ∈ lw_tbl, w.before args s = true) : ∃ D : gD, va_K D.1 gCl (g_tys D gAT) s := by
  have ht : ∀ w ∈ gTb, w.before args s = true := fun w hw => hts w (gTb_sub w hw)
  have hi : ∀ q ∈ gCl, Jvm.Cond.instantiable q.1 q.2.2 ∈ gTb := List.forall_mem_cons.mpr ⟨wd140, List.forall_mem_cons.mpr ⟨wd90, List.forall_mem_cons.mpr ⟨wd117, List.forall_mem_cons.mpr ⟨wd97, List.forall_mem_cons.mpr ⟨wd294, List.forall_mem_cons.mpr ⟨wd42, List.forall_mem_cons.mpr ⟨wd34, List.forall_mem_cons.mpr ⟨wd387, fun _ h => absurd h List.not_mem_nil⟩⟩⟩⟩⟩⟩⟩⟩
  have h1 : ∀ ci : Nat, ∃ x : ClassId × (Nat → Nat), ∀ q : vw_C, gCl[ci]? = some q → u_Kn s q.1 q.2.1 q.2.2 x.1 x.2 := fun ci => by
    cases hq : gCl[ci]? with
    | none => exact ⟨(0, fun _ => 0), (fun q h => by cases h)⟩
    | some q =>
      obtain ⟨C, F, N⟩ := q
      obtain ⟨cC, iS, hk⟩ := u_known ht (gCl_ok ci C F N hq).1 (ht _ (hi _ (List.mem_of_getElem? hq)))
      exact ⟨(cC, iS), (fun q h => by cases h; exact hk)⟩
  have pr : ∀ ty : FieldType, (∀ C, ty ≠ .object C) → Jvm.Cond.arrayClass ty ∈ gTb → ∃ cA : ClassId, ArrOfT s cA ty ∧ va_RA s cA ty := fun ty hne hw => by
    obtain ⟨c, k, comp, e1, e2, e3⟩ := Cond.arrayClass_spec (ht _ hw)
    refine ⟨c, fun n z => ⟨fun k h => (by cases h), k, e2, comp, e3⟩, ?_⟩
    unfold va_RA
    split
    · rename_i C; exact absurd rfl (hne C)
    · exact e1
  have ob : ∀ C : String, Jvm.Cond.arrayOver (.object C) ∈ lw_tbl → ∃ cA : ClassId, ArrOfT s cA (.object C) ∧ va_RA s cA (.object C) := fun C hw => by
    obtain ⟨comp, c, k, e1, e2, e3, e4, e5⟩ := Cond.arrayOver_spec (hts _ hw)
    exact ⟨c, fun n z => ⟨fun k h => (by cases h), k, e3, comp, e4⟩, k, comp, e3, e4, e1, e5⟩
  have hall : ∀ ty ∈ gAT, ∃ cA : ClassId, ArrOfT s cA ty ∧ va_RA s cA ty := List.forall_mem_cons.mpr ⟨pr _ (fun C h => by cases h) gG_ok.2.2.2.2.2.2.2.1, List.forall_mem_cons.mpr ⟨pr _ (fun C h => by cases h) gG_ok.2.2.2.2.2.2.2.2.1, List.forall_mem_cons.mpr ⟨pr _ (fun C h => by cases h) gG_ok.2.2.2.2.2.2.2.2.2, List.forall_mem_cons.mpr ⟨ob _ (List.mem_of_getElem? (i := 59) (by decide +kernel)), List.forall_mem_cons.mpr ⟨ob _ (List.mem_of_getElem? (i := 61) (by decide +kernel)), fun _ h => absurd h List.not_mem_nil⟩⟩⟩⟩⟩
  have h2 : ∀ t : Nat, ∃ cA : ClassId, ∀ ty : FieldType, gAT[t]? = some ty → ArrOfT s cA ty ∧ va_RA s cA ty := fun t => by
    cases hq : gAT[t]? with
    | none => exact ⟨0, (fun q h => by cases h)⟩
    | some ty =>
      obtain ⟨cA, hk⟩ := hall ty (List.mem_of_getElem? hq)
      exact ⟨cA, (fun q h => by cases h; exact hk)⟩
  obtain ⟨f, hf⟩ := Classical.axiomOfChoice h1
  obtain ⟨g, hg⟩ := Classical.axiomOfChoice h2
  refine ⟨((fun ci => (f ci).1, fun ci => (f ci).2), g), fun ci q hq => hf ci q hq, fun t q hq => ?_⟩
  cases ht : gAT[t]? with
  | none =>
    have : (g_tys (((fun ci => (f ci).1, fun ci => (f ci).2), g) : gD) gAT)[t]? = none := by
      simp [g_tys, List.getElem?_map, List.getElem?_zipIdx, ht]
    rw [this] at hq; cases hq
  | some ty =>
    rw [g_tys_at ht] at hq
    cases hq
    exact hg t ty ht
theorem whole_start {p : Program} {e : Env} {s : State} {m : MethodId} {below : List Frame} {meth : Method} {c : Code} (l : Launch) {b L : Nat} {xs : Nat → Int32} (hL : L ≤ 2561) (C0 : lw_At p s m meth c b L xs) : W p l e room_1 s m #[Value.ref b] below meth c s.heap [] 0 0 (lw_Z below #[Value.ref b] s) (entryFrame m ([Value.ref b] : List Value).toArray 4) := by
  obtain ⟨hx, hb, hr, hml, hown, hts, hX, hbl, hlocks, -⟩ := C0
  obtain ⟨D, hK⟩ := lw_D hts
  have ht : ∀ w ∈ gTb, w.before #[Value.ref b] s = true := fun w hw => hts w (gTb_sub w hw)
  have hN : ∀ w ∈ gNs, va_Nw w s := fun w hw => by
    have h0 := hts w (gNs_sub w hw)
    rcases gNs_ok w hw with ⟨a1, a2, a3, a4, a5, a6, rfl⟩ | ⟨a1, a2, a3, a4, rfl⟩
    · exact va_Nw.of rfl h0
    · exact va_Nw.of rfl h0
  have hO : ∀ C ∈ gAO, va_AO C s := List.forall_mem_cons.mpr ⟨va_AO.of (hts _ (List.mem_of_getElem? (i := 59) (by decide +kernel))), List.forall_mem_cons.mpr ⟨va_AO.of (hts _ (List.mem_of_getElem? (i := 61) (by decide +kernel))), fun _ h => absurd h List.not_mem_nil⟩⟩
  have X : g_X (b, L, xs) p s m #[Value.ref b] meth c D gCl (fun q => s.heap.size ≤ q) 4 b_W_law "DataSetsLaw" gTb gNs gAT gAO := ⟨hx, hb, hml, hown, ht, hK, hN, hO, fun q h => h, hX, hbl, fun h => absurd h (by show ¬ s.heap.size ≤ b; omega)⟩
  obtain ⟨hC, hg, hn, hE, h0, h1, h2, hw0, hw1, hw2⟩ := gG_ok
  obtain ⟨hF, hNw, hAO, hLO, hMO, hCall⟩ := t_W_law l (b, L, xs)
  have hret : ∀ v σ' c' z' pc i, g_ret 2 i v → decode b_W_law pc = .ok (i, 1) → lwP v σ' → c' ≤ 600000 → z' ≤ 7302250 → ∀ lv, g_G p l e room_1 s m #[Value.ref b] below meth c (lw_Z below #[Value.ref b] s) D gCl (fun q => s.heap.size ≤ q) 4 pc lv v.toList σ' c' z' := by
    intro v σ' c' z' pc i hri hd hP hc hz lv H locs ls a1 a2 a3 a4
    have hP : v = some (.int 1) := hP
    subst hP
    refine va_forget (fun q hq => a3.2.2 q hq) (W.widen (k := 600000) (n := 7302250) hc hz ?_)
    unfold g_ret at hri
    split at hri
    · exact lw_ret hx hb hr hlocks hd
    · rename_i h9; cases h9
    · rename_i h9; cases h9
    · rename_i h9; cases h9
    · exact hri.elim
  have main : ∀ k pc lv st σ' c' z', iv_W_law (b, L, xs) k pc lv st σ' c' z' → g_G p l e room_1 s m #[Value.ref b] below meth c (lw_Z below #[Value.ref b] s) D gCl (fun q => s.heap.size ≤ q) 4 pc lv st σ' c' z' := by
    intro k
    induction k using Nat.strongRecOn with
    | ind k ih =>
      intro pc lv st σ' c' z' hi
      obtain ⟨n, hwp⟩ := law_lp (b, L, xs) hL k pc lv st σ' c' z' hi
      unfold g_at at hwp
      split at hwp
      · exact False.elim hwp
      · rename_i q hq
        exact g_sound X hC hF hNw hAO hLO hMO hCall hg hn hE h0 h1 h2 hw0 hw1 hw2 (fun h => by cases h) ⟨by decide, by decide⟩ ⟨by decide, by decide⟩ ok_W_law (fun pc lv st σ c z ⟨k', hk', hi'⟩ => ih k' hk' pc lv st σ c z hi') hret n pc q.1 q.2 lv st σ' c' z' hq hwp
  obtain ⟨n, hwp⟩ := law_en (b, L, xs) hL
  unfold g_at at hwp
  split at hwp
  · exact False.elim hwp
  · rename_i q hq
    have h5 := g_sound X hC hF hNw hAO hLO hMO hCall hg hn hE h0 h1 h2 hw0 hw1 hw2 (fun h => by cases h) ⟨by decide, by decide⟩ ⟨by decide, by decide⟩ ok_W_law (fun pc lv st σ c z ⟨k', hi'⟩ => main k' pc lv st σ c z hi') hret n 0 q.1 q.2 (g_ent [.ref b]) [] g_em 0 0 hq hwp
    rw [lg_entry_eq]
    exact h5 s.heap [] _ ⟨[], fun k q h => by simp at h, ⟨fun i j p q h => by simp at h, fun k q h => by simp at h⟩, fun a e h => by cases h⟩ (fun q ⟨e, h⟩ => by cases h) va_S.rf (g_ent_has (by simp [lg_sl, Value.category]))
-- ===== YOUR PART ENDS =====
set_option maxHeartbeats 4000000 in
theorem lw_walk (l : Launch) (b : Addr) (xs : List Int32) : MetFree l x (headSpec (Jvm.Cond.code x code maxLocals ret :: tables_1) room_1) (lw_P b xs) (fun _ _ _ _ _ => True) lw_Q := by
  refine MetFree.of_bodyS (code := code) (maxLocals := maxLocals) (ret := ret) (by decide) ?_ ?_
  · intro args s m h hn
    obtain ⟨meth, c, h1, h2, h3, h4, h5, h6, -, -⟩ := Cond.code_spec hn (atoms_spec (ws := Jvm.Cond.code x code maxLocals ret :: tables_1) h _ List.mem_cons_self)
    exact ⟨meth, c, h1, h2, h3, h4, h5, h6⟩
  · intro p e s m args below meth c s₁ B hml0 hP _
    obtain ⟨rfl, hx, hbd, hgv⟩ := hP
    obtain ⟨scr, harrAt, hlist, hof, hsmall⟩ := hx
    obtain ⟨hcb, hkn, -, -⟩ := State.arrayAt?_spec harrAt
    have hown : s.vm.findClass R_law = some m.cls := findClass_of_methodNamed B.named
    have hts0 : ∀ c ∈ (Jvm.Cond.code x code maxLocals ret :: tables_1), c.before #[Value.ref b] s = true := atoms_spec (ws := Jvm.Cond.code x code maxLocals ret :: tables_1) B.pre
    have hts : ∀ w ∈ lw_tbl, w.before #[Value.ref b] s = true := k2_hts_sels lw_privs (fun w hw => hts0 w (List.mem_cons_of_mem _ hw)) lw_privs_ok
    have hml : c.maxLocals = 4 := B.maxLocals_eq (hts0 _ List.mem_cons_self)
    have X₀ : Stand p l e room_1 s m #[Value.ref b] below meth c s₁ [] 0 0 := Stand.of_body B
    have hh0 : s₁.heap = s.heap := by rw [B.state]; rfl
    have hsz : scr.slots.size = xs.length := by rw [← Array.length_toList, hlist, List.length_map]
    have hval : ∀ j : Nat, j < xs.length → scr.slots[j]? = some (.int (xs.getD j 0)) := fun j hj => by
      rw [← Array.getElem?_toList, hlist]
      simp [hj]
    have hbl : b < s.heap.size := (Array.getElem?_eq_some_iff.mp hcb).1
    have hX : va_X b xs.length (fun j => xs.getD j 0) s s.heap := ⟨scr, hcb, hof, hkn, hsz, hval⟩
    have K : W p l e room_1 s m #[Value.ref b] below meth c s₁.heap [] 0 0 (lw_Z below #[Value.ref b] s) (entryFrame m ([Value.ref b] : List Value).toArray 4) := by
      rw [hh0]
      exact whole_start l hbd ⟨B.exec, B.bytes, B.returns, hml, hown, hts, hX, hbl, B.notSynchronized, hgv⟩
    obtain ⟨t, a1, o, b1, b2, b3⟩ := K s₁ rfl X₀
    exact ⟨t, o, a1, b1, b2, b3⟩
theorem lw_pre_spec {args : Array Value} {s : State} (h : (Jvm.Cond.and given_1 narrow_1).before args s = true) (hr : rest_1_c.before args s = true) : ∃ (b : Addr) (xs : List Int32), lw_P b xs args s := by
  have hs := flat_of_before _ h
  have hq := flat_of_before _ hr
  have hc : (Cond.count 1).before args s = true := hs _ (by decide +kernel)
  have harr : (Cond.arrayOf (.arg 0) .int).before args s = true := hs _ (by decide +kernel)
  have hle : (Cond.le (.length (.arg 0)) (.int 2561)).before args s = true := hs _ (by decide +kernel)
  have hlen : (Cond.isInt (.length (.arg 0))).before args s = true := hq _ (by decide +kernel)
  have hall : (Cond.all (.arg 0) (.isInt (.elem (.arg 0) (.index 0)))).before args s = true := hq _ (by decide +kernel)
  obtain ⟨b, xs, hb, hx⟩ := State.ints_of_pre rfl harr hlen hall
  have hsm : xs.length < 2 ^ 31 := hx.choose_spec.2.2.2
  have hev : (Term.length (.arg 0)).eval args s none [] s = some (.int xs.length.toInt32) := hx.length_eval hb
  have hv := Cond.le_ints hev (show (Term.int 2561).eval args s none [] s = some (.int 2561) from rfl)
  have hd : xs.length.toInt32 ≤ 2561 := by
    simpa [Cond.before, Cond.holds, hv] using hle
  have hN : xs.length ≤ 2561 := (Int32.ofNat_le_ofNat hsm (by decide)).mp (show Int32.ofNat xs.length ≤ Int32.ofNat 2561 from hd)
  exact ⟨b, xs, Cond.one_arg hc (show args[0]? = some (.ref b) from hb), hx, hN, h⟩
theorem lw_comes (l : Launch) : Comes l x (Jvm.Cond.code x code maxLocals ret :: tables_1) room_1 (fun tb e args s => Calls_1 tb e args s ∧ rest_1 tb e args s ∧ Pre_1 tb e args s)
    (fun _ _ args s o t => lw_Q args s o t) := by
  intro p e ha hc hk s m args below hf hfit hheap happ hpre
  obtain ⟨b, xs, hP⟩ := lw_pre_spec hpre.2.2 hpre.2.1
  obtain ⟨k, o, h1, h2, h3, hQ⟩ := lw_walk l b xs p e ha hc hk s m args below hf ((Spec.applies_iff_loose hf).mp happ).1 hP trivial
  exact ⟨k, o, h1, h2, h3, hQ⟩
theorem lw_frame {s t : State} {o : Outcome} {args : Array Value} (h : Framed s o t [] 600000 7302250) :
    Framed s o t (fieldLocs frame_1_writes args s ++ arrayLocs frame_1_arrays args s ++ staticLocs frame_1_statics s) 600000 7302250 := h
theorem lw_limb (L : Cond) (hL : ∀ (args : Array Value) (s t : State), L.after args s (.returned (some (.int 1))) t = true) :
    ArmFor flags0 classFile x code maxLocals ret World_1 tables_1 room_1 Calls_1 rest_1 Pre_1
      (fun tb e a s o t => postC L tb e a s o t ∧ Framed s o t (fieldLocs frame_1_writes a s ++ arrayLocs frame_1_arrays a s ++ staticLocs frame_1_statics s) 600000 7302250) := by
  intro l _ _ _ p e ha hc hk s m args below hf hfit hheap happ hpre
  obtain ⟨k, o, h1, h2, h3, rfl, hF⟩ := lw_comes l p e ha hc hk s m args below hf hfit hheap happ hpre
  exact ⟨k, _, h1, h2, h3, hL args s _, lw_frame hF⟩
theorem i_vc : Claimed_1_1 ∧ Claimed_1_2 := ⟨lw_limb limb_1_1 (fun args s t => by simp [limb_1_1, Cond.after, Cond.holds, Cond.value]), lw_limb limb_1_2 (fun args s t => Cond.after_iff.mpr (by
  first | (rw [show limb_1_2 = Cond.eq .result (.int 1) from rfl, Cond.eq_ints (x := 1) (y := 1) rfl rfl]; simp; done) | (simp [limb_1_2, Cond.value, Term.eval]; done)))⟩
