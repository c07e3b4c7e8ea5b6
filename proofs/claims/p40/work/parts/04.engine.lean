/-! ===== the engine: a world whose shape stays, as a table of ints (my own rows, over the kit's) ===== -/
abbrev ID : Type := Nat × Nat × Nat
abbrev VV : Type := Option (Int32 ⊕ Option ID)
abbrev iv (x : Int32) : VV := some (.inl x)
abbrev rv (i : ID) : VV := some (.inr (some i))
abbrev nv : VV := some (.inr none)
abbrev uv : VV := none
abbrev MEM : Type := ID → Nat → Int32
abbrev EV : Type := va_G × (ID → Nat) × (Nat → ClassId)
/-- a cell's kind by its tag: an object of class ci, or an array: its type's number, its length -/
def me_kd (t : Nat) : Nat ⊕ (Nat × Nat) := match t with
  | 0 => .inl 6
  | 1 => .inl 4
  | 2 => .inl 1
  | 3 => .inr (0, 200)
  | 4 => .inr (0, 200)
  | 5 => .inr (0, 200)
  | 6 => .inr (2, 5)
  | 7 => .inr (3, 8)
  | 8 => .inl 2
  | 9 => .inl 3
  | 10 => .inr (0, 12)
  | 11 => .inr (0, 12)
  | 12 => .inl 0
  | 13 => .inr (4, 6)
  | 14 => .inl 5
  | 15 => .inr (0, 80)
  | 16 => .inr (0, 3)
  | 17 => .inr (0, 64)
  | 18 => .inr (0, 20)
  | 19 => .inr (0, 36)
  | 20 => .inr (0, 48)
  | _ => .inr (0, 5)
def me_kmax (t : Nat) : Nat := match t with
  | 0 => 1
  | 1 => 8
  | 2 => 8
  | 3 => 8
  | 4 => 8
  | 5 => 8
  | 6 => 8
  | 7 => 8
  | 8 => 8
  | 9 => 8
  | 10 => 8
  | 11 => 8
  | 12 => 1
  | 13 => 1
  | 14 => 1
  | 15 => 1
  | 16 => 1
  | 17 => 1
  | 18 => 1
  | 19 => 1
  | 20 => 1
  | 21 => 1
  | _ => 0
def me_imax (t : Nat) : Nat := match t with
  | 8 => 5
  | 9 => 8
  | 10 => 8
  | 11 => 8
  | _ => 1
def vd (id : ID) : Prop := id.2.1 < me_kmax id.1 ∧ id.2.2 < me_imax id.1
/-- the slots that hold a cell, which stays -/
def me_sl (id : ID) (j : Nat) : Option ID := match id with
  | (t, k, i) => match t with
    | 0 => (match j with | 0 => some (1, 0, 0) | 1 => some (1, 1, 0) | 3 => some (12, 0, 0) | 4 => some (14, 0, 0) | _ => none)
    | 1 => (match j with | 0 => some (2, k, 0) | 1 => some (6, k, 0) | 2 => some (7, k, 0) | _ => none)
    | 2 => (match j with | 1 => some (3, k, 0) | 2 => some (4, k, 0) | 3 => some (5, k, 0) | _ => none)
    | 6 => some (8, k, j)
    | 7 => some (9, k, j)
    | 9 => (match j with | 9 => some (10, k, i) | 10 => some (11, k, i) | _ => none)
    | 12 => (match j with | 0 => some (13, 0, 0) | _ => none)
    | 13 => some (1, j + 2, 0)
    | 14 => (match j with | 0 => some (15, 0, 0) | 4 => some (16, 0, 0) | _ => none)
    | _ => none
/-- the slots of type boolean -/
def me_bo (t j : Nat) : Bool := match t with
  | 0 => j == 2
  | 8 => j == 0 || j == 3
  | 9 => j == 0
  | _ => false
def me_nf (ci : Nat) : Nat := match ci with
  | 0 => 3
  | 1 => 4
  | 2 => 5
  | 3 => 11
  | 4 => 7
  | 5 => 6
  | _ => 5
/-- how many slots a cell has -/
def me_wd (t : Nat) : Nat := match me_kd t with
  | .inl ci => me_nf ci
  | .inr q => q.2
def me_sv (E : EV) (mem : MEM) (id : ID) (j : Nat) : Value := match me_sl id j with
  | some r => .ref (E.2.1 r)
  | none => .int (mem id j)
def WR1 (E : EV) (mem : MEM) (id : ID) (H : Heap) : Prop := match me_kd id.1 with
  | .inl ci => t_OB (E.2.1 id) (E.1.1 ci) (me_nf ci) (E.1.2 ci) H (me_sv E mem id)
  | .inr q => if q.1 < 2 then H[E.2.1 id]? = some (vp_cell (E.2.2 q.1) (q.2, .inl (mem id))) else H[E.2.1 id]? = some (vp_cell (E.2.2 q.1) (q.2, .inr (.inr (.inr (.inr fun j => (me_sl id j).map E.2.1)))))
def WR (E : EV) (mem : MEM) (H : Heap) : Prop := (∀ id, vd id → WR1 E mem id H) ∧ ∀ id j, vd id → me_bo id.1 j = true → mem id j = 0 ∨ mem id j = 1
/-- the same on all that is there -/
def EqV (m m' : MEM) : Prop := ∀ id, vd id → ∀ j, j < me_wd id.1 → me_sl id j = none → m id j = m' id j
theorem EqV.rfl' {m : MEM} : EqV m m := fun _ _ _ _ _ => rfl
theorem me_sl_arr {t k i j n ty : Nat} (h : me_kd t = .inr (ty, n)) (hty : ty < 2) (hk : k < me_kmax t) : me_sl (t, k, i) j = none := by
  unfold me_kd at h
  split at h <;> first | (cases h; done) | (cases h; omega) | (cases h; rfl) | skip
  rename_i h1 h2 h3 h4 h5 h6 h7 h8 h9 h10 h11 h12 h13 h14 h15 h16 h17 h18 h19 h20 h21
  have ht : t = 21 := by
    unfold me_kmax at hk
    split at hk <;> first | rfl | omega | (exfalso; simp_all; done) | skip
  subst ht
  rfl
theorem me_vp_congr {cA : ClassId} {n : Nat} {f g : Nat → Int32} (h : ∀ j, j < n → f j = g j) : vp_cell cA (n, .inl f) = vp_cell cA (n, .inl g) := by
  rw [vp_cell_i, vp_cell_i]
  unfold arrV
  congr 1
  apply congrArg
  funext j
  exact congrArg Value.int (h j.val j.isLt)
theorem WR1.congr {E : EV} {m m' : MEM} {id : ID} {H H' : Heap} (h : WR1 E m id H) (hv : vd id) (hm : ∀ j, j < me_wd id.1 → me_sl id j = none → m id j = m' id j) (hH : H'[E.2.1 id]? = H[E.2.1 id]?) : WR1 E m' id H' := by
  unfold me_wd at hm
  unfold WR1 at h ⊢
  cases hk : me_kd id.1 with
  | inl ci =>
    rw [hk] at h hm
    obtain ⟨cell, q, r1, r2, r3⟩ := h
    refine ⟨cell, hH.trans q, r1, r2, fun k hk => ?_⟩
    rw [r3 k hk]
    unfold me_sv
    cases hs : me_sl id k with
    | some r => rfl
    | none => exact congrArg (fun z => some (Value.int z)) (hm k hk hs)
  | inr q =>
    rw [hk] at h hm
    by_cases hq : q.1 < 2
    · simp only [if_pos hq] at h ⊢
      obtain ⟨t, k, i⟩ := id
      rw [hH, h, me_vp_congr (fun j hj => hm j hj (me_sl_arr (n := q.2) (ty := q.1) hk hq hv.1))]
    · simp only [if_neg hq] at h ⊢
      rw [hH, h]
theorem me_bo_sl (id : ID) (j : Nat) (h : me_bo id.1 j = true) : me_sl id j = none := by
  obtain ⟨t, k, i⟩ := id
  unfold me_bo at h
  split at h <;> simp at h
  · rename_i e; simp only at e; subst e; subst h; rfl
  · rename_i e; simp only at e; subst e; rfl
  · rename_i e; simp only at e; subst e; subst h; rfl
theorem WR.eqv {E : EV} {m m' : MEM} {H : Heap} (h : WR E m H) (hm : EqV m m') (hb : ∀ id j, vd id → me_bo id.1 j = true → j < me_wd id.1) : WR E m' H :=
  ⟨fun id hv => (h.1 id hv).congr hv (hm id hv) rfl, fun id j hv hj => by rw [← hm id hv j (hb id j hv hj) (me_bo_sl id j hj)]; exact h.2 id j hv hj⟩
theorem me_bo_wd (t j : Nat) (h : me_bo t j = true) : j < me_wd t := by
  unfold me_bo at h
  split at h <;> simp at h
  · subst h; decide
  · rcases h with rfl | rfl <;> decide
  · subst h; decide
/-- one cell moved -/
theorem WR.put {E : EV} {m m' : MEM} {H H' : Heap} {i0 : ID} (hE : ∀ a b, vd a → vd b → E.2.1 a = E.2.1 b → a = b) (h : WR E m H) (hv : vd i0) (h1 : WR1 E m' i0 H') (hm : ∀ id, id ≠ i0 → m' id = m id) (ho : ∀ q, q ≠ E.2.1 i0 → H'[q]? = H[q]?) (hb : ∀ j, me_bo i0.1 j = true → m' i0 j = 0 ∨ m' i0 j = 1) : WR E m' H' := by
  refine ⟨fun id hid => ?_, fun id j hid hj => ?_⟩
  · by_cases e : id = i0
    · subst e; exact h1
    · exact (h.1 id hid).congr hid (fun j _ _ => by rw [hm id e]) (ho _ (fun z => e (hE _ _ hid hv z)))
  · by_cases e : id = i0
    · subst e; exact hb j hj
    · rw [hm id e]; exact h.2 id j hid hj
def vvv (E : EV) (x : Int32 ⊕ Option ID) : Value := match x with
  | .inl x => .int x
  | .inr none => .null
  | .inr (some i) => .ref (E.2.1 i)
def vv (E : EV) (x : VV) : Value := match x with
  | some y => vvv E y
  | none => .null
theorem vvv_cat (E : EV) (x : Int32 ⊕ Option ID) : (vvv E x).category = 1 := by
  rcases x with x | _ | x <;> rfl
theorem vv_cat (E : EV) (x : VV) : (vv E x).category = 1 := by
  rcases x with _ | x
  · rfl
  · exact vvv_cat E x
theorem vv_cats (E : EV) (l : List VV) : ((l.map (vv E)).map fun v => v.category).sum = l.length := by
  induction l with
  | nil => rfl
  | cons a l ih => simp only [List.map_cons, List.sum_cons, List.length_cons, vv_cat, ih]; omega
def LR (E : EV) (lsA : Array Slot) (nL : Nat) (ls : List VV) : Prop := lsA.size = nL ∧ lv_wf lsA ∧ ∀ (i : Nat) (x : Int32 ⊕ Option ID), ls[i]? = some (some x) → lsA[i]? = some (.val (vvv E x))
def me_enc (E : EV) (ls : List VV) : List (Nat × Value) := (List.range ls.length).filterMap fun j => match ls[j]? with
  | some (some y) => some (j, vvv E y)
  | _ => none
theorem me_enc_in {E : EV} {ls : List VV} {j : Nat} {y : Int32 ⊕ Option ID} (h : ls[j]? = some (some y)) : (j, vvv E y) ∈ me_enc E ls :=
  List.mem_filterMap.mpr ⟨j, List.mem_range.mpr (List.getElem?_eq_some_iff.mp h).1, by rw [h]⟩
theorem LR.toHas {E : EV} {lsA : Array Slot} {nL : Nat} {ls : List VV} (h : LR E lsA nL ls) : lv_has lsA nL (me_enc E ls) := by
  refine ⟨h.1, h.2.1, fun q hq => ?_⟩
  obtain ⟨j, -, hj⟩ := List.mem_filterMap.mp hq
  cases e : ls[j]? with
  | none => rw [e] at hj; cases hj
  | some z =>
    cases z with
    | none => rw [e] at hj; cases hj
    | some y =>
      rw [e] at hj
      cases hj
      exact h.2.2 j y e
theorem LR.ofStore {E : EV} {lsA : Array Slot} {nL i : Nat} {ls : List VV} {x : Int32 ⊕ Option ID} (hh : lv_has lsA nL ((i, vvv E x) :: (me_enc E ls).filter (fun q => !(q.1 == i) && !(q.1 + 1 == i && q.2.category == 2)))) : LR E lsA nL (ls.set i (some x)) := by
  refine ⟨hh.1, hh.2.1, fun j y hj => ?_⟩
  by_cases e : i = j
  · subst e
    have hlt : i < ls.length := by
      have := (List.getElem?_eq_some_iff.mp hj).1
      simpa using this
    rw [List.getElem?_set_self hlt] at hj
    cases hj
    exact hh.2.2 (i, vvv E x) List.mem_cons_self
  · rw [List.getElem?_set_ne e] at hj
    refine hh.2.2 (j, vvv E y) (List.mem_cons_of_mem _ (List.mem_filter.mpr ⟨me_enc_in hj, ?_⟩))
    simp [vvv_cat, Ne.symm e]
abbrev CX : Type := Program × Launch × Env × Room × State × MethodId × Array Value × List Frame × Method × Code × Nat × Nat × (State → Prop) × (Nat → Prop) × Heap
def tyE (E : EV) : List (ClassId × FieldType) := [(E.2.2 0, .int), (E.2.2 1, .int), (E.2.2 2, .object "ReplicaSessions$Replica"), (E.2.2 3, .object "ReplicaSessions$Session"), (E.2.2 4, .object "ReplicaSessions$State")]
def G (E : EV) (X : CX) (nL pc : Nat) (ls st : List VV) (mem : MEM) : Prop := match X with
  | (p, l, e, R, s, m, args, below, meth, c, cells, slots, QF, A, H0) => ∀ (lsA : Array Slot) (H : Heap) (locs : List Loc), LR E lsA nL ls → WR E mem H → va_S A H0 H locs → W p l e R s m args below meth c H locs cells slots QF (F0 m pc lsA (st.map (vv E)))
def EOK (E : EV) : Prop := ∀ a b, vd a → vd b → E.2.1 a = E.2.1 b → a = b
def NW (U : State) : Prop := ∀ w ∈ nestWs, va_Nw w U
def CK (E : EV) (X : CX) (own : String) (cc : ByteArray) (nL : Nat) (ret : Option FieldType) (dep : Nat) : Prop := match X with
  | (p, l, e, R, s, m, args, below, meth, c, cells, slots, QF, A, H0) => p.tables.exec = Jvm.exec ∧ c.code = cc ∧ c.maxLocals = nL ∧ s.vm.findClass own = some m.cls ∧ (∀ w ∈ BW, w.before args s = true) ∧ meth.sig.returnType = ret ∧ meth.locks = false ∧ va_K E.1 vwCl (tyE E) s ∧ (∀ id, vd id → A (E.2.1 id)) ∧ EOK E ∧ dep ≤ R.frames ∧ 36 * dep ≤ R.locals ∧ cells ≤ R.cells ∧ slots ≤ R.slots ∧ NW s
def AW (E : EV) : Nat → Prop := fun q => ∃ id, vd id ∧ q = E.2.1 id
def rvo (E : EV) (r : VV) : Option Value := match r with
  | none => none
  | some x => some (vvv E x)
def rvl (r : VV) : List VV := match r with
  | none => []
  | some x => [some x]
def QcW (E : EV) (Q : VV → MEM → Prop) : Array Value → State → Outcome → State → Prop := fun _ st oc t => (∃ (r : VV) (m' : MEM), Q r m' ∧ oc = .returned (rvo E r) ∧ WR E m' t.heap) ∧ va_F (AW E) st t
def me_rm (dep : Nat) : Room := { frames := dep, cells := 0, slots := 0, locals := 36 * dep }
def Ct (E : EV) (l : Launch) (y : MethodName) (ws : List Cond) (dep : Nat) (args : List VV) (mem : MEM) (Q : VV → MEM → Prop) : Prop := EOK E → Met l y ws (me_rm dep) (va_Pc (args.map (vv E)) (fun U => WR E mem U.heap ∧ va_K E.1 vwCl (tyE E) U ∧ NW U)) (QcW E Q) 0 0 (AW E)
def EX (E : EV) (X : CX) (l : Launch) (Q : VV → MEM → Prop) : Prop := match X with
  | (p, l', e, R, s, m, args, below, meth, c, cells, slots, QF, A, H0) => l' = l ∧ QF = MQ below (QcW E Q) args s cells slots (AW E) ∧ A = AW E ∧ H0 = s.heap
def up (m : MEM) (id : ID) (j : Nat) (v : Int32) : MEM := fun a b => if a = id ∧ b = j then v else m a b
/-- a whole cell as another -/
def cpc (m : MEM) (id src : ID) : MEM := fun a => if a = id then m src else m a
/-- an answer, and the world behind it -/
def Ret (v : VV) (m : MEM) : VV → MEM → Prop := fun r m' => r = v ∧ m' = m
theorem nest_warm {s U : State} (hW : s.WarmedH U.vm) (h : NW s) : NW U := by
  intro w hw
  have h0 := h w hw
  simp only [nestWs, List.mem_cons, List.not_mem_nil, or_false] at hw
  rcases hw with rfl | rfl | rfl | rfl | rfl | rfl | rfl | rfl <;> exact va_Nw.warmM hW h0
theorem nest_same {u U : State} (h : u.vm = U.vm) (hN : NW u) : NW U := by
  intro w hw
  have h0 := hN w hw
  simp only [nestWs, List.mem_cons, List.not_mem_nil, or_false] at hw
  rcases hw with rfl | rfl | rfl | rfl | rfl | rfl | rfl | rfl <;> exact va_Nw.same rfl h h0
def me_ws (y : MethodName) (cc : ByteArray) (nL : Nat) (ret : Option FieldType) : List Cond := Cond.code y cc nL ret :: BW
/-- what a program knows of a method: its code's word, its class, its arguments' number -/
def MI (y : MethodName) (cc : ByteArray) (nL : Nat) (ret : Option FieldType) (RC : String) (n : Nat) : Prop :=
  Cond.code y cc nL ret ∈ BW ∧ Cond.initialized RC ∈ BW ∧ y.cls = RC ∧ (y.cls ≠ "java/lang/invoke/MethodHandle" ∧ y.cls ≠ "java/lang/invoke/VarHandle" ∧ (parseMethodDescriptor y.desc).map (fun d => d.parameters.length) = some n) ∧ nL ≤ 17 ∧ plainFor y = true
def MV (y : MethodName) (RC : String) : Prop := Cond.instanceMethod y ∈ BW ∧ Cond.selects RC y y ∈ BW
theorem me_good {y : MethodName} {cc : ByteArray} {nL n : Nat} {ret : Option FieldType} {RC : String} (mi : MI y cc nL ret RC n) : GoodIn BW (me_ws y cc nL ret) := by
  intro w hw
  have h : w ∈ BW := by
    rcases List.mem_cons.mp hw with rfl | h
    · exact mi.1
    · exact h
  exact ⟨h, good_of_word (bw_good w h)⟩
theorem Met.ofWF {l : Launch} {y : MethodName} {ws ws' : List Cond} {rm : Room} {Pc : Array Value → State → Prop} {Qc : Array Value → State → Outcome → State → Prop} {mc ms : Nat} {free : Addr → Prop} {cc : ByteArray} {maxL : Nat} {ret : Option FieldType}
    (hy : plainFor y = true) (hw : ws = Cond.code y cc maxL ret :: ws')
    (body : ∀ p e s m args below meth c s₁, BodyLoose p l y (headSpec ws rm) cc maxL ret e s m args below meth c s₁ → c.maxLocals = maxL → Pc args s →
      W p l e (headSpec ws rm).room s m args below meth c s.heap [] 0 0 (MQ below Qc args s mc ms free) (entryFrame m args maxL)) : Met l y ws rm Pc Qc mc ms free := by
  refine MetFree.of_bodySF (code := cc) (maxLocals := maxL) (ret := ret) hy ?_ ?_
  · intro args s m h hn
    obtain ⟨meth, c, h1, h2, h3, h4, h5, h6, -, -⟩ := Cond.code_spec hn (atoms_spec (ws := ws) h _ (by rw [hw]; exact List.mem_cons_self))
    exact ⟨meth, c, h1, h2, h3, h4, h5, h6⟩
  · intro p e s m args below meth c s₁ B hml hP _
    have hh0 : s₁.heap = s.heap := by rw [B.state]; rfl
    obtain ⟨t, a1, o, b1, b2, b3⟩ := body p e s m args below meth c s₁ B hml hP s₁ hh0 (Stand.of_body B)
    exact ⟨t, o, a1, b1, b2, ⟨b3.1, b3.2⟩⟩
theorem me_P1 {D : va_G} {cl : List vw_C} {H : Heap} {q : Nat × va_E} (h : va_at D cl q H) : va_P D cl [q] H := fun k q' hq => by
  cases k with
  | zero => cases hq; exact h
  | succ k => simp at hq
section MEA
variable {p : Program} {l : Launch} {e : Env} {R : Room} {s : State} {m : MethodId} {args : Array Value} {below : List Frame} {meth : Method} {c : Code} {H : Heap} {locs : List Loc} {cells slots : Nat} {QF : State → Prop}
variable {pc : Nat} {lsA : Array Slot} {st0 : List Value} {a : Array Value} {A : Nat → Prop} {H0 : Heap}
theorem me_after {E : EV} {rest : List VV} {Q1 : VV → MEM → Prop} (hr : va_Run p l e R s m args below meth c H locs cells slots 0 0 (F0 m pc lsA st0) (rest.map (vv E)) (QcW E Q1 a) (AW E)) (hS : va_S A H0 H locs) (hA : ∀ id, vd id → A (E.2.1 id))
    (kk : ∀ (r : VV) (m' : MEM), Q1 r m' → ∀ (H1 : Heap) (locs1 : List Loc), WR E m' H1 → va_S A H0 H1 locs1 → W p l e R s m args below meth c H1 locs1 cells slots QF (F0 m (pc + 3) lsA ((rvl r ++ rest).map (vv E)))) : W p l e R s m args below meth c H locs cells slots QF (F0 m pc lsA st0) := by
  intro T hT X
  obtain ⟨v, st₀, t, T', L, h0, X', hL, e1, e2, ⟨⟨r, m', hq, hv, hw⟩, hz, hk⟩, st⟩ := hr T hT X
  have hAW : ∀ q, AW E q → A q := fun q ⟨id, h1, h2⟩ => h2 ▸ hA id h1
  have hv' : v = rvo E r := Outcome.returned.inj hv
  subst hv'
  rw [h0] at hz hk
  obtain ⟨t2, a1, b1⟩ := kk r m' hq T'.heap (locs ++ L) (by rw [e1]; exact hw)
    ⟨Nat.le_trans hS.1 (by rw [e1]; exact hz), fun q h1 h2 => by rw [e1, hk q (Nat.lt_of_lt_of_le h1 hS.1) (fun z => h2 (hAW q z))]; exact hS.2.1 q h1 h2, fun q hq => by
      rcases List.mem_append.mp hq with h | h
      · exact hS.2.2 q h
      · exact hAW _ (hL q h)⟩ T' rfl X'
  refine ⟨t2, st t2 ?_, b1⟩
  have e3 : (rvo E r).toList ++ rest.map (vv E) = (rvl r ++ rest).map (vv E) := by cases r <;> rfl
  rw [e3]
  exact a1
end MEA
section ME
variable {E : EV} {X : CX} {own : String} {cc : ByteArray} {nL : Nat} {ret : Option FieldType} {dep pc : Nat} {ls st : List VV} {mem : MEM}
theorem e_iconst (C : CK E X own cc nL ret dep) {n : Int} {v : Int32} (hdg : decode cc pc = .ok (.iconst n, 1)) (hv : Int32.ofInt n = v) (h : G E X nL (pc + 1) ls (iv v :: st) mem) : G E X nL pc ls (st) mem := by
  obtain ⟨p, l, e, R, s, m, args, below, meth, c, cells, slots, QF, A, H0⟩ := X
  obtain ⟨hx, hb, -⟩ := C
  exact fun lsA H locs hL hW hS => lv_iconst hx hb hdg hv (h lsA H locs hL hW hS)
theorem e_bipush (C : CK E X own cc nL ret dep) {n : Int} {v : Int32} (hdg : decode cc pc = .ok (.bipush n, 2)) (hv : (Int8.ofInt n).toInt32 = v) (h : G E X nL (pc + 2) ls (iv v :: st) mem) : G E X nL pc ls (st) mem := by
  obtain ⟨p, l, e, R, s, m, args, below, meth, c, cells, slots, QF, A, H0⟩ := X
  obtain ⟨hx, hb, -⟩ := C
  exact fun lsA H locs hL hW hS => lv_bipush hx hb hdg hv (h lsA H locs hL hW hS)
theorem e_sipush (C : CK E X own cc nL ret dep) {n : Int} {v : Int32} (hdg : decode cc pc = .ok (.sipush n, 3)) (hv : (Int16.ofInt n).toInt32 = v) (h : G E X nL (pc + 3) ls (iv v :: st) mem) : G E X nL pc ls (st) mem := by
  obtain ⟨p, l, e, R, s, m, args, below, meth, c, cells, slots, QF, A, H0⟩ := X
  obtain ⟨hx, hb, -⟩ := C
  exact fun lsA H locs hL hW hS => lv_sipush hx hb hdg hv (h lsA H locs hL hW hS)
theorem e_null (C : CK E X own cc nL ret dep) (hdg : decode cc pc = .ok (.aconst_null, 1)) (h : G E X nL (pc + 1) ls (nv :: st) mem) : G E X nL pc ls (st) mem := by
  obtain ⟨p, l, e, R, s, m, args, below, meth, c, cells, slots, QF, A, H0⟩ := X
  obtain ⟨hx, hb, -⟩ := C
  exact fun lsA H locs hL hW hS => lv_null hx hb hdg (h lsA H locs hL hW hS)
theorem e_iload_n (C : CK E X own cc nL ret dep) {k : Fin 4} {x : Int32} (hdg : decode cc pc = .ok (.iload_n k, 1)) (hl : ls[(k : Nat)]? = some (iv x)) (h : G E X nL (pc + 1) ls (iv x :: st) mem) : G E X nL pc ls (st) mem := by
  obtain ⟨p, l, e, R, s, m, args, below, meth, c, cells, slots, QF, A, H0⟩ := X
  obtain ⟨hx, hb, -⟩ := C
  exact fun lsA H locs hL hW hS => lv_iload_n hx hb hdg rfl (hL.2.2 _ _ hl) (h lsA H locs hL hW hS)
theorem e_iload (C : CK E X own cc nL ret dep) {k : Nat} {x : Int32} (hdg : decode cc pc = .ok (.iload k, 2)) (hl : ls[k]? = some (iv x)) (h : G E X nL (pc + 2) ls (iv x :: st) mem) : G E X nL pc ls (st) mem := by
  obtain ⟨p, l, e, R, s, m, args, below, meth, c, cells, slots, QF, A, H0⟩ := X
  obtain ⟨hx, hb, -⟩ := C
  exact fun lsA H locs hL hW hS => lv_iload hx hb hdg (hL.2.2 _ _ hl) (h lsA H locs hL hW hS)
theorem e_aload_n (C : CK E X own cc nL ret dep) {k : Fin 4} {x : ID} (hdg : decode cc pc = .ok (.aload_n k, 1)) (hl : ls[(k : Nat)]? = some (rv x)) (h : G E X nL (pc + 1) ls (rv x :: st) mem) : G E X nL pc ls (st) mem := by
  obtain ⟨p, l, e, R, s, m, args, below, meth, c, cells, slots, QF, A, H0⟩ := X
  obtain ⟨hx, hb, -⟩ := C
  exact fun lsA H locs hL hW hS => lv_aload_n hx hb hdg rfl (hL.2.2 _ _ hl) (h lsA H locs hL hW hS)
theorem e_aload (C : CK E X own cc nL ret dep) {k : Nat} {x : ID} (hdg : decode cc pc = .ok (.aload k, 2)) (hl : ls[k]? = some (rv x)) (h : G E X nL (pc + 2) ls (rv x :: st) mem) : G E X nL pc ls (st) mem := by
  obtain ⟨p, l, e, R, s, m, args, below, meth, c, cells, slots, QF, A, H0⟩ := X
  obtain ⟨hx, hb, -⟩ := C
  exact fun lsA H locs hL hW hS => lv_aload hx hb hdg (hL.2.2 _ _ hl) (h lsA H locs hL hW hS)
theorem e_aload_nN (C : CK E X own cc nL ret dep) {k : Fin 4} (hdg : decode cc pc = .ok (.aload_n k, 1)) (hl : ls[(k : Nat)]? = some nv) (h : G E X nL (pc + 1) ls (nv :: st) mem) : G E X nL pc ls (st) mem := by
  obtain ⟨p, l, e, R, s, m, args, below, meth, c, cells, slots, QF, A, H0⟩ := X
  obtain ⟨hx, hb, -⟩ := C
  exact fun lsA H locs hL hW hS => lv_aload_nN hx hb hdg rfl (hL.2.2 _ _ hl) (h lsA H locs hL hW hS)
theorem e_aloadN (C : CK E X own cc nL ret dep) {k : Nat} (hdg : decode cc pc = .ok (.aload k, 2)) (hl : ls[k]? = some nv) (h : G E X nL (pc + 2) ls (nv :: st) mem) : G E X nL pc ls (st) mem := by
  obtain ⟨p, l, e, R, s, m, args, below, meth, c, cells, slots, QF, A, H0⟩ := X
  obtain ⟨hx, hb, -⟩ := C
  exact fun lsA H locs hL hW hS => lv_aloadN hx hb hdg (hL.2.2 _ _ hl) (h lsA H locs hL hW hS)
theorem e_istore_n (C : CK E X own cc nL ret dep) {k : Fin 4} {x : Int32} (hdg : decode cc pc = .ok (.istore_n k, 1)) (hn : (k : Nat) < nL) (h : G E X nL (pc + 1) (ls.set (k : Nat) (iv x)) st mem) : G E X nL pc ls (iv x :: st) mem := by
  obtain ⟨p, l, e, R, s, m, args, below, meth, c, cells, slots, QF, A, H0⟩ := X
  obtain ⟨hx, hb, -⟩ := C
  exact fun lsA H locs hL hW hS => lv_istore_n hx hb hdg rfl hL.toHas hn rfl (fun ls1 h1 => h ls1 H locs (LR.ofStore (x := .inl x) h1) hW hS)
theorem e_istore (C : CK E X own cc nL ret dep) {k : Nat} {x : Int32} (hdg : decode cc pc = .ok (.istore k, 2)) (hn : k < nL) (h : G E X nL (pc + 2) (ls.set k (iv x)) st mem) : G E X nL pc ls (iv x :: st) mem := by
  obtain ⟨p, l, e, R, s, m, args, below, meth, c, cells, slots, QF, A, H0⟩ := X
  obtain ⟨hx, hb, -⟩ := C
  exact fun lsA H locs hL hW hS => lv_istore hx hb hdg hL.toHas hn rfl (fun ls1 h1 => h ls1 H locs (LR.ofStore (x := .inl x) h1) hW hS)
theorem e_astore_n (C : CK E X own cc nL ret dep) {k : Fin 4} {x : ID} (hdg : decode cc pc = .ok (.astore_n k, 1)) (hn : (k : Nat) < nL) (h : G E X nL (pc + 1) (ls.set (k : Nat) (rv x)) st mem) : G E X nL pc ls (rv x :: st) mem := by
  obtain ⟨p, l, e, R, s, m, args, below, meth, c, cells, slots, QF, A, H0⟩ := X
  obtain ⟨hx, hb, -⟩ := C
  exact fun lsA H locs hL hW hS => lv_astore_n hx hb hdg rfl hL.toHas hn rfl (fun ls1 h1 => h ls1 H locs (LR.ofStore (x := .inr (some x)) h1) hW hS)
theorem e_astore (C : CK E X own cc nL ret dep) {k : Nat} {x : ID} (hdg : decode cc pc = .ok (.astore k, 2)) (hn : k < nL) (h : G E X nL (pc + 2) (ls.set k (rv x)) st mem) : G E X nL pc ls (rv x :: st) mem := by
  obtain ⟨p, l, e, R, s, m, args, below, meth, c, cells, slots, QF, A, H0⟩ := X
  obtain ⟨hx, hb, -⟩ := C
  exact fun lsA H locs hL hW hS => lv_astore hx hb hdg hL.toHas hn rfl (fun ls1 h1 => h ls1 H locs (LR.ofStore (x := .inr (some x)) h1) hW hS)
theorem e_astore_nN (C : CK E X own cc nL ret dep) {k : Fin 4} (hdg : decode cc pc = .ok (.astore_n k, 1)) (hn : (k : Nat) < nL) (h : G E X nL (pc + 1) (ls.set (k : Nat) (nv)) st mem) : G E X nL pc ls (nv :: st) mem := by
  obtain ⟨p, l, e, R, s, m, args, below, meth, c, cells, slots, QF, A, H0⟩ := X
  obtain ⟨hx, hb, -⟩ := C
  exact fun lsA H locs hL hW hS => lv_astore_nN hx hb hdg rfl hL.toHas hn rfl (fun ls1 h1 => h ls1 H locs (LR.ofStore (x := .inr none) h1) hW hS)
theorem e_astoreN (C : CK E X own cc nL ret dep) {k : Nat} (hdg : decode cc pc = .ok (.astore k, 2)) (hn : k < nL) (h : G E X nL (pc + 2) (ls.set k (nv)) st mem) : G E X nL pc ls (nv :: st) mem := by
  obtain ⟨p, l, e, R, s, m, args, below, meth, c, cells, slots, QF, A, H0⟩ := X
  obtain ⟨hx, hb, -⟩ := C
  exact fun lsA H locs hL hW hS => lv_astoreN hx hb hdg hL.toHas hn rfl (fun ls1 h1 => h ls1 H locs (LR.ofStore (x := .inr none) h1) hW hS)
theorem e_iinc (C : CK E X own cc nL ret dep) {k : Nat} {n : Int} {x v : Int32} (hdg : decode cc pc = .ok (.iinc k n, 3)) (hl : ls[k]? = some (iv x)) (hv : x + Int32.ofInt n = v) (hn : k < nL) (h : G E X nL (pc + 3) (ls.set k (iv v)) st mem) : G E X nL pc ls st mem := by
  obtain ⟨p, l, e, R, s, m, args, below, meth, c, cells, slots, QF, A, H0⟩ := X
  obtain ⟨hx, hb, -⟩ := C
  intro lsA H locs hL hW hS
  obtain ⟨j, hj⟩ := List.getElem?_of_mem (me_enc_in (E := E) hl)
  exact lv_iinc hx hb hdg hL.toHas (k := j) hj hv hn rfl (fun ls1 h1 => h ls1 H locs (LR.ofStore (x := .inl v) h1) hW hS)
theorem e_iadd (C : CK E X own cc nL ret dep) {x y : Int32} (hdg : decode cc pc = .ok (.iadd, 1)) (h : G E X nL (pc + 1) ls (iv (x + y) :: st) mem) : G E X nL pc ls (iv y :: iv x :: st) mem := by
  obtain ⟨p, l, e, R, s, m, args, below, meth, c, cells, slots, QF, A, H0⟩ := X
  obtain ⟨hx, hb, -⟩ := C
  exact fun lsA H locs hL hW hS => lv_iadd hx hb hdg (h lsA H locs hL hW hS)
theorem e_isub (C : CK E X own cc nL ret dep) {x y : Int32} (hdg : decode cc pc = .ok (.isub, 1)) (h : G E X nL (pc + 1) ls (iv (x - y) :: st) mem) : G E X nL pc ls (iv y :: iv x :: st) mem := by
  obtain ⟨p, l, e, R, s, m, args, below, meth, c, cells, slots, QF, A, H0⟩ := X
  obtain ⟨hx, hb, -⟩ := C
  exact fun lsA H locs hL hW hS => lv_isub hx hb hdg (h lsA H locs hL hW hS)
theorem e_imul (C : CK E X own cc nL ret dep) {x y : Int32} (hdg : decode cc pc = .ok (.imul, 1)) (h : G E X nL (pc + 1) ls (iv (x * y) :: st) mem) : G E X nL pc ls (iv y :: iv x :: st) mem := by
  obtain ⟨p, l, e, R, s, m, args, below, meth, c, cells, slots, QF, A, H0⟩ := X
  obtain ⟨hx, hb, -⟩ := C
  exact fun lsA H locs hL hW hS => lv_imul hx hb hdg (h lsA H locs hL hW hS)
theorem e_iand (C : CK E X own cc nL ret dep) {x y : Int32} (hdg : decode cc pc = .ok (.iand, 1)) (h : G E X nL (pc + 1) ls (iv (x &&& y) :: st) mem) : G E X nL pc ls (iv y :: iv x :: st) mem := by
  obtain ⟨p, l, e, R, s, m, args, below, meth, c, cells, slots, QF, A, H0⟩ := X
  obtain ⟨hx, hb, -⟩ := C
  exact fun lsA H locs hL hW hS => lv_iand hx hb hdg (h lsA H locs hL hW hS)
theorem e_ior (C : CK E X own cc nL ret dep) {x y : Int32} (hdg : decode cc pc = .ok (.ior, 1)) (h : G E X nL (pc + 1) ls (iv (x ||| y) :: st) mem) : G E X nL pc ls (iv y :: iv x :: st) mem := by
  obtain ⟨p, l, e, R, s, m, args, below, meth, c, cells, slots, QF, A, H0⟩ := X
  obtain ⟨hx, hb, -⟩ := C
  exact fun lsA H locs hL hW hS => lv_ior hx hb hdg (h lsA H locs hL hW hS)
theorem e_ixor (C : CK E X own cc nL ret dep) {x y : Int32} (hdg : decode cc pc = .ok (.ixor, 1)) (h : G E X nL (pc + 1) ls (iv (x ^^^ y) :: st) mem) : G E X nL pc ls (iv y :: iv x :: st) mem := by
  obtain ⟨p, l, e, R, s, m, args, below, meth, c, cells, slots, QF, A, H0⟩ := X
  obtain ⟨hx, hb, -⟩ := C
  exact fun lsA H locs hL hW hS => lv_ixor hx hb hdg (h lsA H locs hL hW hS)
theorem e_ishl (C : CK E X own cc nL ret dep) {x y : Int32} (hdg : decode cc pc = .ok (.ishl, 1)) (h : G E X nL (pc + 1) ls (iv (x <<< (y &&& 31)) :: st) mem) : G E X nL pc ls (iv y :: iv x :: st) mem := by
  obtain ⟨p, l, e, R, s, m, args, below, meth, c, cells, slots, QF, A, H0⟩ := X
  obtain ⟨hx, hb, -⟩ := C
  exact fun lsA H locs hL hW hS => lv_ishl hx hb hdg (h lsA H locs hL hW hS)
theorem e_ishr (C : CK E X own cc nL ret dep) {x y : Int32} (hdg : decode cc pc = .ok (.ishr, 1)) (h : G E X nL (pc + 1) ls (iv (x >>> (y &&& 31)) :: st) mem) : G E X nL pc ls (iv y :: iv x :: st) mem := by
  obtain ⟨p, l, e, R, s, m, args, below, meth, c, cells, slots, QF, A, H0⟩ := X
  obtain ⟨hx, hb, -⟩ := C
  exact fun lsA H locs hL hW hS => lv_ishr hx hb hdg (h lsA H locs hL hW hS)
theorem e_idiv (C : CK E X own cc nL ret dep) {x y : Int32} (hdg : decode cc pc = .ok (.idiv, 1)) (hne : ¬ y = 0) (h : G E X nL (pc + 1) ls (iv (x / y) :: st) mem) : G E X nL pc ls (iv y :: iv x :: st) mem := by
  obtain ⟨p, l, e, R, s, m, args, below, meth, c, cells, slots, QF, A, H0⟩ := X
  obtain ⟨hx, hb, -⟩ := C
  exact fun lsA H locs hL hW hS => lv_idiv hx hb hdg hne (h lsA H locs hL hW hS)
theorem e_irem (C : CK E X own cc nL ret dep) {x y : Int32} (hdg : decode cc pc = .ok (.irem, 1)) (hne : ¬ y = 0) (h : G E X nL (pc + 1) ls (iv (x - x / y * y) :: st) mem) : G E X nL pc ls (iv y :: iv x :: st) mem := by
  obtain ⟨p, l, e, R, s, m, args, below, meth, c, cells, slots, QF, A, H0⟩ := X
  obtain ⟨hx, hb, -⟩ := C
  exact fun lsA H locs hL hW hS => lv_irem hx hb hdg hne (h lsA H locs hL hW hS)
theorem e_i2c (C : CK E X own cc nL ret dep) {x : Int32} (hdg : decode cc pc = .ok (.i2c, 1)) (h : G E X nL (pc + 1) ls (iv ((x.toUInt32 % 65536).toInt32) :: st) mem) : G E X nL pc ls (iv x :: st) mem := by
  obtain ⟨p, l, e, R, s, m, args, below, meth, c, cells, slots, QF, A, H0⟩ := X
  obtain ⟨hx, hb, -⟩ := C
  exact fun lsA H locs hL hW hS => lv_i2c hx hb hdg rfl (h lsA H locs hL hW hS)
theorem e_dup (C : CK E X own cc nL ret dep) {x : VV} (hdg : decode cc pc = .ok (.dup, 1)) (h : G E X nL (pc + 1) ls (x :: x :: st) mem) : G E X nL pc ls (x :: st) mem := by
  obtain ⟨p, l, e, R, s, m, args, below, meth, c, cells, slots, QF, A, H0⟩ := X
  obtain ⟨hx, hb, -⟩ := C
  exact fun lsA H locs hL hW hS => lv_dup hx hb hdg (vv_cat E x) (h lsA H locs hL hW hS)
theorem e_pop (C : CK E X own cc nL ret dep) {x : VV} (hdg : decode cc pc = .ok (.pop, 1)) (h : G E X nL (pc + 1) ls (st) mem) : G E X nL pc ls (x :: st) mem := by
  obtain ⟨p, l, e, R, s, m, args, below, meth, c, cells, slots, QF, A, H0⟩ := X
  obtain ⟨hx, hb, -⟩ := C
  exact fun lsA H locs hL hW hS => lv_pop hx hb hdg (vv_cat E x) (h lsA H locs hL hW hS)
theorem e_dup2 (C : CK E X own cc nL ret dep) {x y : VV} (hdg : decode cc pc = .ok (.dup2, 1)) (h : G E X nL (pc + 1) ls (x :: y :: x :: y :: st) mem) : G E X nL pc ls (x :: y :: st) mem := by
  obtain ⟨p, l, e, R, s, m, args, below, meth, c, cells, slots, QF, A, H0⟩ := X
  obtain ⟨hx, hb, -⟩ := C
  exact fun lsA H locs hL hW hS => lv_dup2_11 hx hb hdg (vv_cat E x) (vv_cat E y) (h lsA H locs hL hW hS)
theorem e_goto (C : CK E X own cc nL ret dep) {off : Int} {tgt : Nat} (hdg : decode cc pc = .ok (.goto off, 3)) (ht : (pc : Int) + off = (tgt : Int)) (h : G E X nL tgt ls (st) mem) : G E X nL pc ls (st) mem := by
  obtain ⟨p, l, e, R, s, m, args, below, meth, c, cells, slots, QF, A, H0⟩ := X
  obtain ⟨hx, hb, -⟩ := C
  exact fun lsA H locs hL hW hS => lv_goto hx hb hdg ht (h lsA H locs hL hW hS)
theorem e_ifnonnull (C : CK E X own cc nL ret dep) {x : ID} {off : Int} {tgt : Nat} (hdg : decode cc pc = .ok (.ifnonnull off, 3)) (ht : (pc : Int) + off = (tgt : Int)) (h : G E X nL tgt ls (st) mem) : G E X nL pc ls (rv x :: st) mem := by
  obtain ⟨p, l, e, R, s, m, args, below, meth, c, cells, slots, QF, A, H0⟩ := X
  obtain ⟨hx, hb, -⟩ := C
  exact fun lsA H locs hL hW hS => lv_ifnonnull hx hb hdg ht (h lsA H locs hL hW hS)
theorem e_ifnull (C : CK E X own cc nL ret dep) {x : ID} {off : Int} (hdg : decode cc pc = .ok (.ifnull off, 3)) (h : G E X nL (pc + 3) ls (st) mem) : G E X nL pc ls (rv x :: st) mem := by
  obtain ⟨p, l, e, R, s, m, args, below, meth, c, cells, slots, QF, A, H0⟩ := X
  obtain ⟨hx, hb, -⟩ := C
  exact fun lsA H locs hL hW hS => lv_ifnull hx hb hdg (h lsA H locs hL hW hS)
theorem e_ifnullN (C : CK E X own cc nL ret dep) {off : Int} {tgt : Nat} (hdg : decode cc pc = .ok (.ifnull off, 3)) (ht : (pc : Int) + off = (tgt : Int)) (h : G E X nL tgt ls (st) mem) : G E X nL pc ls (nv :: st) mem := by
  obtain ⟨p, l, e, R, s, m, args, below, meth, c, cells, slots, QF, A, H0⟩ := X
  obtain ⟨hx, hb, -⟩ := C
  exact fun lsA H locs hL hW hS => lv_ifnullN hx hb hdg ht (h lsA H locs hL hW hS)
theorem e_ifnonnullN (C : CK E X own cc nL ret dep) {off : Int} (hdg : decode cc pc = .ok (.ifnonnull off, 3)) (h : G E X nL (pc + 3) ls (st) mem) : G E X nL pc ls (nv :: st) mem := by
  obtain ⟨p, l, e, R, s, m, args, below, meth, c, cells, slots, QF, A, H0⟩ := X
  obtain ⟨hx, hb, -⟩ := C
  exact fun lsA H locs hL hW hS => lv_ifnonnullN hx hb hdg (h lsA H locs hL hW hS)
theorem e_icmp_eq (C : CK E X own cc nL ret dep) {x y : Int32} {off : Int} {tgt : Nat} (hdg : decode cc pc = .ok (.if_icmp .eq off, 3)) (ht : (pc : Int) + off = (tgt : Int)) (kt : x = y → G E X nL tgt ls st mem) (kf : ¬ x = y → G E X nL (pc + 3) ls st mem) : G E X nL pc ls (iv y :: iv x :: st) mem := by
  obtain ⟨p, l, e, R, s, m, args, below, meth, c, cells, slots, QF, A, H0⟩ := X
  obtain ⟨hx, hb, -⟩ := C
  exact fun lsA H locs hL hW hS => lv_icmp_eq hx hb hdg ht (fun q => kt q lsA H locs hL hW hS) (fun q => kf q lsA H locs hL hW hS)
theorem e_icmp_ne (C : CK E X own cc nL ret dep) {x y : Int32} {off : Int} {tgt : Nat} (hdg : decode cc pc = .ok (.if_icmp .ne off, 3)) (ht : (pc : Int) + off = (tgt : Int)) (kt : ¬ x = y → G E X nL tgt ls st mem) (kf : x = y → G E X nL (pc + 3) ls st mem) : G E X nL pc ls (iv y :: iv x :: st) mem := by
  obtain ⟨p, l, e, R, s, m, args, below, meth, c, cells, slots, QF, A, H0⟩ := X
  obtain ⟨hx, hb, -⟩ := C
  exact fun lsA H locs hL hW hS => lv_icmp_ne hx hb hdg ht (fun q => kt q lsA H locs hL hW hS) (fun q => kf q lsA H locs hL hW hS)
theorem e_icmp_lt (C : CK E X own cc nL ret dep) {x y : Int32} {off : Int} {tgt : Nat} (hdg : decode cc pc = .ok (.if_icmp .lt off, 3)) (ht : (pc : Int) + off = (tgt : Int)) (kt : x < y → G E X nL tgt ls st mem) (kf : ¬ x < y → G E X nL (pc + 3) ls st mem) : G E X nL pc ls (iv y :: iv x :: st) mem := by
  obtain ⟨p, l, e, R, s, m, args, below, meth, c, cells, slots, QF, A, H0⟩ := X
  obtain ⟨hx, hb, -⟩ := C
  exact fun lsA H locs hL hW hS => lv_icmp_lt hx hb hdg ht (fun q => kt q lsA H locs hL hW hS) (fun q => kf q lsA H locs hL hW hS)
theorem e_icmp_ge (C : CK E X own cc nL ret dep) {x y : Int32} {off : Int} {tgt : Nat} (hdg : decode cc pc = .ok (.if_icmp .ge off, 3)) (ht : (pc : Int) + off = (tgt : Int)) (kt : y ≤ x → G E X nL tgt ls st mem) (kf : ¬ y ≤ x → G E X nL (pc + 3) ls st mem) : G E X nL pc ls (iv y :: iv x :: st) mem := by
  obtain ⟨p, l, e, R, s, m, args, below, meth, c, cells, slots, QF, A, H0⟩ := X
  obtain ⟨hx, hb, -⟩ := C
  exact fun lsA H locs hL hW hS => lv_icmp_ge hx hb hdg ht (fun q => kt q lsA H locs hL hW hS) (fun q => kf q lsA H locs hL hW hS)
theorem e_icmp_gt (C : CK E X own cc nL ret dep) {x y : Int32} {off : Int} {tgt : Nat} (hdg : decode cc pc = .ok (.if_icmp .gt off, 3)) (ht : (pc : Int) + off = (tgt : Int)) (kt : y < x → G E X nL tgt ls st mem) (kf : ¬ y < x → G E X nL (pc + 3) ls st mem) : G E X nL pc ls (iv y :: iv x :: st) mem := by
  obtain ⟨p, l, e, R, s, m, args, below, meth, c, cells, slots, QF, A, H0⟩ := X
  obtain ⟨hx, hb, -⟩ := C
  exact fun lsA H locs hL hW hS => lv_icmp_gt hx hb hdg ht (fun q => kt q lsA H locs hL hW hS) (fun q => kf q lsA H locs hL hW hS)
theorem e_icmp_le (C : CK E X own cc nL ret dep) {x y : Int32} {off : Int} {tgt : Nat} (hdg : decode cc pc = .ok (.if_icmp .le off, 3)) (ht : (pc : Int) + off = (tgt : Int)) (kt : x ≤ y → G E X nL tgt ls st mem) (kf : ¬ x ≤ y → G E X nL (pc + 3) ls st mem) : G E X nL pc ls (iv y :: iv x :: st) mem := by
  obtain ⟨p, l, e, R, s, m, args, below, meth, c, cells, slots, QF, A, H0⟩ := X
  obtain ⟨hx, hb, -⟩ := C
  exact fun lsA H locs hL hW hS => lv_icmp_le hx hb hdg ht (fun q => kt q lsA H locs hL hW hS) (fun q => kf q lsA H locs hL hW hS)
theorem e_if_eq (C : CK E X own cc nL ret dep) {x : Int32} {off : Int} {tgt : Nat} (hdg : decode cc pc = .ok (.ifCond .eq off, 3)) (ht : (pc : Int) + off = (tgt : Int)) (kt : x = 0 → G E X nL tgt ls st mem) (kf : ¬ x = 0 → G E X nL (pc + 3) ls st mem) : G E X nL pc ls (iv x :: st) mem := by
  obtain ⟨p, l, e, R, s, m, args, below, meth, c, cells, slots, QF, A, H0⟩ := X
  obtain ⟨hx, hb, -⟩ := C
  exact fun lsA H locs hL hW hS => lv_if_eq hx hb hdg ht (fun q => kt q lsA H locs hL hW hS) (fun q => kf q lsA H locs hL hW hS)
theorem e_if_ne (C : CK E X own cc nL ret dep) {x : Int32} {off : Int} {tgt : Nat} (hdg : decode cc pc = .ok (.ifCond .ne off, 3)) (ht : (pc : Int) + off = (tgt : Int)) (kt : ¬ x = 0 → G E X nL tgt ls st mem) (kf : x = 0 → G E X nL (pc + 3) ls st mem) : G E X nL pc ls (iv x :: st) mem := by
  obtain ⟨p, l, e, R, s, m, args, below, meth, c, cells, slots, QF, A, H0⟩ := X
  obtain ⟨hx, hb, -⟩ := C
  exact fun lsA H locs hL hW hS => lv_if_ne hx hb hdg ht (fun q => kt q lsA H locs hL hW hS) (fun q => kf q lsA H locs hL hW hS)
theorem e_if_lt (C : CK E X own cc nL ret dep) {x : Int32} {off : Int} {tgt : Nat} (hdg : decode cc pc = .ok (.ifCond .lt off, 3)) (ht : (pc : Int) + off = (tgt : Int)) (kt : x < 0 → G E X nL tgt ls st mem) (kf : ¬ x < 0 → G E X nL (pc + 3) ls st mem) : G E X nL pc ls (iv x :: st) mem := by
  obtain ⟨p, l, e, R, s, m, args, below, meth, c, cells, slots, QF, A, H0⟩ := X
  obtain ⟨hx, hb, -⟩ := C
  exact fun lsA H locs hL hW hS => lv_if_lt hx hb hdg ht (fun q => kt q lsA H locs hL hW hS) (fun q => kf q lsA H locs hL hW hS)
theorem e_if_ge (C : CK E X own cc nL ret dep) {x : Int32} {off : Int} {tgt : Nat} (hdg : decode cc pc = .ok (.ifCond .ge off, 3)) (ht : (pc : Int) + off = (tgt : Int)) (kt : 0 ≤ x → G E X nL tgt ls st mem) (kf : ¬ 0 ≤ x → G E X nL (pc + 3) ls st mem) : G E X nL pc ls (iv x :: st) mem := by
  obtain ⟨p, l, e, R, s, m, args, below, meth, c, cells, slots, QF, A, H0⟩ := X
  obtain ⟨hx, hb, -⟩ := C
  exact fun lsA H locs hL hW hS => lv_if_ge hx hb hdg ht (fun q => kt q lsA H locs hL hW hS) (fun q => kf q lsA H locs hL hW hS)
theorem e_if_gt (C : CK E X own cc nL ret dep) {x : Int32} {off : Int} {tgt : Nat} (hdg : decode cc pc = .ok (.ifCond .gt off, 3)) (ht : (pc : Int) + off = (tgt : Int)) (kt : 0 < x → G E X nL tgt ls st mem) (kf : ¬ 0 < x → G E X nL (pc + 3) ls st mem) : G E X nL pc ls (iv x :: st) mem := by
  obtain ⟨p, l, e, R, s, m, args, below, meth, c, cells, slots, QF, A, H0⟩ := X
  obtain ⟨hx, hb, -⟩ := C
  exact fun lsA H locs hL hW hS => lv_if_gt hx hb hdg ht (fun q => kt q lsA H locs hL hW hS) (fun q => kf q lsA H locs hL hW hS)
theorem e_if_le (C : CK E X own cc nL ret dep) {x : Int32} {off : Int} {tgt : Nat} (hdg : decode cc pc = .ok (.ifCond .le off, 3)) (ht : (pc : Int) + off = (tgt : Int)) (kt : x ≤ 0 → G E X nL tgt ls st mem) (kf : ¬ x ≤ 0 → G E X nL (pc + 3) ls st mem) : G E X nL pc ls (iv x :: st) mem := by
  obtain ⟨p, l, e, R, s, m, args, below, meth, c, cells, slots, QF, A, H0⟩ := X
  obtain ⟨hx, hb, -⟩ := C
  exact fun lsA H locs hL hW hS => lv_if_le hx hb hdg ht (fun q => kt q lsA H locs hL hW hS) (fun q => kf q lsA H locs hL hW hS)
theorem e_lookup (C : CK E X own cc nL ret dep) {dflt : Int} {ps : Array (Int × Int)} {len : Nat} {x : Int32} {off : Int} {tgt : Nat} (hdg : decode cc pc = .ok (.lookupswitch dflt ps, len)) (hp : (ps.toList.zip (ps.toList.drop 1)).all (fun (a, next) => a.1 < next.1) = true) (ho : Op.lookupswitch.offset ps.toList dflt x.toInt = off) (ht : (pc : Int) + off = (tgt : Int)) (h : G E X nL tgt ls st mem) : G E X nL pc ls (iv x :: st) mem := by
  obtain ⟨p, l, e, R, s, m, args, below, meth, c, cells, slots, QF, A, H0⟩ := X
  obtain ⟨hx, hb, -⟩ := C
  exact fun lsA H locs hL hW hS => lv_lookup hx hb hdg hp ho ht (h lsA H locs hL hW hS)
theorem e_tableOut (C : CK E X own cc nL ret dep) {dflt lo hi : Int} {offs : Array Int} {len : Nat} {x : Int32} {tgt : Nat} (hdg : decode cc pc = .ok (.tableswitch dflt lo hi offs, len)) (hq : x.toInt < lo ∨ hi < x.toInt) (ht : (pc : Int) + dflt = (tgt : Int)) (h : G E X nL tgt ls st mem) : G E X nL pc ls (iv x :: st) mem := by
  obtain ⟨p, l, e, R, s, m, args, below, meth, c, cells, slots, QF, A, H0⟩ := X
  obtain ⟨hx, hb, -⟩ := C
  exact fun lsA H locs hL hW hS => lv_tableOut hx hb hdg hq ht (h lsA H locs hL hW hS)
theorem e_tableIn (C : CK E X own cc nL ret dep) {dflt lo hi : Int} {offs : Array Int} {len : Nat} {x : Int32} {off : Int} {tgt : Nat} (hdg : decode cc pc = .ok (.tableswitch dflt lo hi offs, len)) (h1 : ¬ x.toInt < lo) (h2 : ¬ hi < x.toInt) (ho : offs[(x.toInt - lo).toNat]? = some off) (ht : (pc : Int) + off = (tgt : Int)) (h : G E X nL tgt ls st mem) : G E X nL pc ls (iv x :: st) mem := by
  obtain ⟨p, l, e, R, s, m, args, below, meth, c, cells, slots, QF, A, H0⟩ := X
  obtain ⟨hx, hb, -⟩ := C
  exact fun lsA H locs hL hW hS => lv_tableIn hx hb hdg h1 h2 ho ht (h lsA H locs hL hW hS)
/-- a field is read -/
theorem e_getx (C : CK E X own cc nL ret dep) {id : ID} {ci N index : Nat} {RC : String} {T : u_T} (j : Nat) (hk : me_kd id.1 = .inl ci) (hc : vwCl[ci]? = some (RC, T, N)) (hNf : me_nf ci = N) (hj : j < N) (hin : ∀ w ∈ u_ws RC T N, w ∈ BW) (ho : (T j).1 = RC) (hl : Cond.fieldLink own index RC (T j).2.1 (T j).2.2.1 ∈ BW) (hv : vd id) (hdg : decode cc pc = .ok (.getfield index, 3)) {x : VV} (hx0 : vv E x = me_sv E mem id j) (h : G E X nL (pc + 3) ls (x :: st) mem) : G E X nL pc ls (rv id :: st) mem := by
  obtain ⟨p, l, e, R, s, m, args, below, meth, c, cells, slots, QF, A, H0⟩ := X
  obtain ⟨hx, hb, hml, hfo, hts, hrt, hlk, hK, hA, hE, hfr, hlo, hce, hsl, hN⟩ := C
  intro lsA H locs hL hW hS
  have h1 := hW.1 id hv
  unfold WR1 at h1
  rw [hk] at h1
  obtain ⟨cell, q1, q2, q3, q4⟩ := h1
  obtain ⟨hS', hfc, kC, hkC, hkind⟩ := hK.1 ci _ hc
  obtain ⟨cf, kf, fi, f, hi, hsl'⟩ := hS' j hj
  refine W.getf hx hb hfo (hts _ hl) (by rw [ho] at hi; exact hi) (u_facts hfc hkC (u_lays hts hin hj) hi).1 q1 (by rw [q3]; exact fun h => by cases h) (v := me_sv E mem id j) ?_ rfl rfl hdg ?_
  · rw [hsl', q4 j (by rw [hNf]; exact hj)]
  · have h2 := h lsA H locs hL hW hS
    rw [List.map_cons, hx0] at h2
    exact h2
theorem e_geti (C : CK E X own cc nL ret dep) {id : ID} {ci N index : Nat} {RC : String} {T : u_T} (j : Nat) (hk : me_kd id.1 = .inl ci) (hc : vwCl[ci]? = some (RC, T, N)) (hNf : me_nf ci = N) (hj : j < N) (hin : ∀ w ∈ u_ws RC T N, w ∈ BW) (ho : (T j).1 = RC) (hl : Cond.fieldLink own index RC (T j).2.1 (T j).2.2.1 ∈ BW) (hv : vd id) (hs : me_sl id j = none) (hdg : decode cc pc = .ok (.getfield index, 3)) (h : G E X nL (pc + 3) ls (iv (mem id j) :: st) mem) : G E X nL pc ls (rv id :: st) mem :=
  e_getx C j hk hc hNf hj hin ho hl hv hdg (x := iv (mem id j)) (by unfold me_sv; rw [hs]; rfl) h
theorem e_getr (C : CK E X own cc nL ret dep) {id : ID} {ci N index : Nat} {RC : String} {T : u_T} (j : Nat) (hk : me_kd id.1 = .inl ci) (hc : vwCl[ci]? = some (RC, T, N)) (hNf : me_nf ci = N) (hj : j < N) (hin : ∀ w ∈ u_ws RC T N, w ∈ BW) (ho : (T j).1 = RC) (hl : Cond.fieldLink own index RC (T j).2.1 (T j).2.2.1 ∈ BW) (hv : vd id) {r : ID} (hs : me_sl id j = some r) (hdg : decode cc pc = .ok (.getfield index, 3)) (h : G E X nL (pc + 3) ls (rv r :: st) mem) : G E X nL pc ls (rv id :: st) mem :=
  e_getx C j hk hc hNf hj hin ho hl hv hdg (x := rv r) (by unfold me_sv; rw [hs]; rfl) h
theorem e_bool {id : ID} (j : Nat) (hv : vd id) (hb : me_bo id.1 j = true) (h : (mem id j = 0 ∨ mem id j = 1) → G E X nL pc ls st mem) : G E X nL pc ls st mem := by
  obtain ⟨p, l, e, R, s, m, args, below, meth, c, cells, slots, QF, A, H0⟩ := X
  exact fun lsA H locs hL hW hS => h (hW.2 id j hv hb) lsA H locs hL hW hS
theorem me_apart {s : State} {args : Array Value} {C : String} {T : u_T} {N : Nat} {cC : ClassId} {iS : Nat → Nat} (hts : ∀ w ∈ BW, w.before args s = true) (hin : ∀ w ∈ u_ws C T N, w ∈ BW) (ty : Nat → FieldType) (hty : ∀ k, k < N → parseFieldDescriptor (T k).2.2.1 = some (ty k)) (hnm : ∀ a, a < N → ∀ b, b < N → a ≠ b → (T a).2.1 ≠ (T b).2.1) (hK : u_Kn s C T N cC iS) : ∀ x y, x < N → y < N → x ≠ y → iS x ≠ iS y := by
  intro x y hx hy hne
  obtain ⟨hS, -⟩ := hK
  obtain ⟨_, _, _, fa, hia, ea⟩ := hS x hx
  obtain ⟨_, _, _, fb, hib, eb⟩ := hS y hy
  rw [← ea, ← eb]
  refine u_apart (u_lays hts hin hx) (u_lays hts hin hy) hia hib ?_
  rw [(State.fieldFound?_type hia (hty x hx)).1, (State.fieldFound?_type hib (hty y hy)).1]
  exact hnm x hx y hy hne
/-- an int or a boolean is written -/
theorem e_puti (C : CK E X own cc nL ret dep) {id : ID} {ci N index : Nat} {RC : String} {T : u_T} (j : Nat) (hk : me_kd id.1 = .inl ci) (hc : vwCl[ci]? = some (RC, T, N)) (hNf : me_nf ci = N) (hj : j < N) (hin : ∀ w ∈ u_ws RC T N, w ∈ BW) (ho : (T j).1 = RC) (hl : Cond.fieldLink own index RC (T j).2.1 (T j).2.2.1 ∈ BW) (hv : vd id) (ty0 : Nat → FieldType) (hty : ∀ k, k < N → parseFieldDescriptor (T k).2.2.1 = some (ty0 k)) (hnm : ∀ a, a < N → ∀ b, b < N → a ≠ b → (T a).2.1 ≠ (T b).2.1) (hfin : (T j).2.2.2 = false) {v : Int32} (hty2 : (ty0 j = .int ∧ me_bo id.1 j = false) ∨ (ty0 j = .boolean ∧ (v = 0 ∨ v = 1))) (hs : me_sl id j = none) (hdg : decode cc pc = .ok (.putfield index, 3)) (h : G E X nL (pc + 3) ls st (up mem id j v)) : G E X nL pc ls (iv v :: rv id :: st) mem := by
  obtain ⟨p, l, e, R, s, m, args, below, meth, c, cells, slots, QF, A, H0⟩ := X
  obtain ⟨hx, hb, hml, hfo, hts, hrt, hlk, hK, hA, hE, hfr, hlo, hce, hsl, hN⟩ := C
  intro lsA H locs hL hW hS
  have h1 := hW.1 id hv
  unfold WR1 at h1
  rw [hk] at h1
  obtain ⟨cell, q1, q2, q3, q4⟩ := h1
  have hKc := hK.1 ci _ hc
  have hap := me_apart hts hin ty0 hty hnm hKc
  obtain ⟨hS', hfc, kC, hkC, hkind⟩ := hKc
  obtain ⟨cf, kf, fi, f, hi, hsl'⟩ := hS' j hj
  have hlay := hts _ (hin _ (u_in_lay hj))
  unfold u_lay at hlay
  rw [if_neg (by rw [hfin]; decide)] at hlay
  have hst := (u_facts hfc hkC (u_lays hts hin hj) hi).1
  have hnar : narrow (ty0 j) (.int v) = .int v := by
    rcases hty2 with ⟨e, -⟩ | ⟨e, rfl | rfl⟩ <;> rw [e] <;> rfl
  have hfit : fits (ty0 j) (.int v) = true := by
    rcases hty2 with ⟨e, -⟩ | ⟨e, rfl | rfl⟩ <;> rw [e] <;> rfl
  have h6 := u_store hfc hkC hkind hlay hi (hty j hj) hnar hfit
  refine W.putK hx hb (f := f) ⟨hfo, hts _ hl, ⟨_, _, _, (by rw [ho] at hi; exact hi)⟩, hst⟩ (by rw [q2]; exact h6) q1 q3 (by rw [hsl']; exact k2_hasslot (q4 j (by rw [hNf]; exact hj))) rfl rfl hdg fun H' e1 e2 e3 => ?_
  rw [hsl'] at e1 ⊢
  have hup : ∀ id', id' ≠ id → up mem id j v id' = mem id' := fun id' hne => by funext b; simp [up, hne]
  refine h lsA H' _ hL (hW.put hE hv ?_ hup e3 ?_) (hS.put e2 e3 (hA id hv))
  · unfold WR1
    rw [hk]
    refine t_OB.to (V := updV (me_sv E mem id) j (.int v)) ⟨_, e1, q2, q3, t_set (by rw [hNf] at q4 ⊢; exact q4) (by rw [hNf]; exact hap) (by rw [hNf]; exact hj) _⟩ (fun b _ => ?_)
    unfold updV me_sv
    by_cases hb' : b = j
    · subst hb'
      simp [hs, up]
    · simp [hb', up]
  · intro b hbo
    by_cases hb' : b = j
    · subst hb'
      rcases hty2 with ⟨-, e⟩ | ⟨-, e⟩
      · rw [hbo] at e; cases e
      · simpa [up] using e
    · have := hW.2 id b hv hbo
      simpa [up, hb'] using this
theorem e_iald (C : CK E X own cc nL ret dep) {id : ID} {n : Nat} (hk : me_kd id.1 = .inr (0, n)) (hv : vd id) {i : Int32} (hin : vp_in i n) (hdg : decode cc pc = .ok (.iaload, 1)) (h : G E X nL (pc + 1) ls (iv (mem id i.toNatClampNeg) :: st) mem) : G E X nL pc ls (iv i :: rv id :: st) mem := by
  obtain ⟨p, l, e, R, s, m, args, below, meth, c, cells, slots, QF, A, H0⟩ := X
  obtain ⟨hx, hb, hml, hfo, hts, hrt, hlk, hK, hA, hE, hfr, hlo, hce, hsl, hN⟩ := C
  intro lsA H locs hL hW hS
  have h1 := hW.1 id hv
  unfold WR1 at h1
  rw [hk] at h1
  exact va_iald (D := E.1) (cl := vwCl) (ws := [(E.2.1 id, .inl (E.2.2 0, n, .inl (mem id)))]) hx hb hK (me_P1 h1) 0 0 rfl rfl hin hdg (h lsA H locs hL hW hS)
theorem e_aald (C : CK E X own cc nL ret dep) {id r : ID} {n ty : Nat} {RC : String} (hk : me_kd id.1 = .inr (ty, n)) (hty : 2 ≤ ty) (ht : (tyE E)[ty]? = some (E.2.2 ty, .object RC)) (hv : vd id) {i : Int32} (hin : vp_in i n) (hr : me_sl id i.toNatClampNeg = some r) (hdg : decode cc pc = .ok (.aaload, 1)) (h : G E X nL (pc + 1) ls (rv r :: st) mem) : G E X nL pc ls (iv i :: rv id :: st) mem := by
  obtain ⟨p, l, e, R, s, m, args, below, meth, c, cells, slots, QF, A, H0⟩ := X
  obtain ⟨hx, hb, hml, hfo, hts, hrt, hlk, hK, hA, hE, hfr, hlo, hce, hsl, hN⟩ := C
  intro lsA H locs hL hW hS
  have h1 := hW.1 id hv
  unfold WR1 at h1
  rw [hk] at h1
  simp only [if_neg (Nat.not_lt.mpr hty)] at h1
  refine va_aldq (D := E.1) (cl := vwCl) (ws := [(E.2.1 id, .inl (E.2.2 ty, n, .inr (.inr (.inr (.inr fun j => (me_sl id j).map E.2.1)))))]) (C := RC) hx hb hK (me_P1 h1) 0 ty rfl ht hin hdg ?_
  have h2 := h lsA H locs hL hW hS
  rw [hr]
  exact h2
theorem e_alen (C : CK E X own cc nL ret dep) {id : ID} {n ty : Nat} {v : Int32} (hk : me_kd id.1 = .inr (ty, n)) (hty : ty < 5) (hv : vd id) (hn : Int32.ofNat n = v) (hdg : decode cc pc = .ok (.arraylength, 1)) (h : G E X nL (pc + 1) ls (iv v :: st) mem) : G E X nL pc ls (rv id :: st) mem := by
  obtain ⟨p, l, e, R, s, m, args, below, meth, c, cells, slots, QF, A, H0⟩ := X
  obtain ⟨hx, hb, hml, hfo, hts, hrt, hlk, hK, hA, hE, hfr, hlo, hce, hsl, hN⟩ := C
  intro lsA H locs hL hW hS
  have h1 := hW.1 id hv
  unfold WR1 at h1
  rw [hk] at h1
  have hq : ∃ z : FieldType, (tyE E)[ty]? = some (E.2.2 ty, z) := by
    have : ty = 0 ∨ ty = 1 ∨ ty = 2 ∨ ty = 3 ∨ ty = 4 := by omega
    rcases this with rfl | rfl | rfl | rfl | rfl <;> exact ⟨_, rfl⟩
  obtain ⟨z, hz⟩ := hq
  by_cases h2 : ty < 2
  · simp only [if_pos h2] at h1
    exact va_alen (D := E.1) (cl := vwCl) (ws := [(E.2.1 id, .inl (E.2.2 ty, n, .inl (mem id)))]) hx hb hK (me_P1 h1) 0 ty rfl hz hn hdg (h lsA H locs hL hW hS)
  · simp only [if_neg h2] at h1
    exact va_alen (D := E.1) (cl := vwCl) (ws := [(E.2.1 id, .inl (E.2.2 ty, n, .inr (.inr (.inr (.inr fun j => (me_sl id j).map E.2.1)))))]) hx hb hK (me_P1 h1) 0 ty rfl hz hn hdg (h lsA H locs hL hW hS)
theorem me_upd {id : ID} {j : Nat} {v : Int32} : up mem id j v id = upd (mem id) j v := by
  funext b
  simp [up, upd]
theorem e_iast (C : CK E X own cc nL ret dep) {id : ID} {n : Nat} (hk : me_kd id.1 = .inr (0, n)) (hv : vd id) {i x : Int32} (hin : vp_in i n) (hdg : decode cc pc = .ok (.iastore, 1)) (h : G E X nL (pc + 1) ls st (up mem id i.toNatClampNeg x)) : G E X nL pc ls (iv x :: iv i :: rv id :: st) mem := by
  obtain ⟨p, l, e, R, s, m, args, below, meth, c, cells, slots, QF, A, H0⟩ := X
  obtain ⟨hx, hb, hml, hfo, hts, hrt, hlk, hK, hA, hE, hfr, hlo, hce, hsl, hN⟩ := C
  intro lsA H locs hL hW hS
  have h1 := hW.1 id hv
  unfold WR1 at h1
  rw [hk] at h1
  have h1 : H[E.2.1 id]? = some (vp_cell (E.2.2 0) (n, .inl (mem id))) := h1
  refine W.iast hx hb h1 ((hK.2 0 _ rfl).1 n (fun j => .int (mem id j))) (fun q => by cases q) (by show ¬ (i < 0 ∨ (arrV _ _ _).slots.size ≤ _); rw [arrV_size]; exact hin) rfl rfl hdg fun H1 e z oq => ?_
  have hup : ∀ id', id' ≠ id → up mem id i.toNatClampNeg x id' = mem id' := fun id' hne => by funext b; simp [up, hne]
  refine h lsA H1 _ hL (hW.put hE hv ?_ hup oq ?_) (hS.put z oq (hA id hv))
  · unfold WR1
    rw [hk]
    show H1[_]? = some (vp_cell _ _)
    rw [e, vp_cell_i, vp_cell_i, arrV_store, me_upd]
    congr 2
    funext q
    by_cases hq : q = i.toNatClampNeg
    · subst hq
      simp [updV, upd]
    · simp [updV, upd, hq]
  · intro b hbo
    have h3 := me_bo_wd _ _ hbo
    have h4 : ∀ t b, me_bo t b = true → ∀ q, me_kd t ≠ .inr q := by
      intro t b hb' q
      unfold me_bo at hb'
      split at hb' <;> simp at hb' <;> simp [me_kd]
    exact absurd hk (h4 _ _ hbo _)
theorem e_ldc (C : CK E X own cc nL ret dep) {index : Nat} {v : Int32} (hk0 : Cond.constant own index v ∈ BW) (hdg : decode cc pc = .ok (.ldc index, 2)) (h : G E X nL (pc + 2) ls (iv v :: st) mem) : G E X nL pc ls st mem := by
  obtain ⟨p, l, e, R, s, m, args, below, meth, c, cells, slots, QF, A, H0⟩ := X
  obtain ⟨hx, hb, hml, hfo, hts, -⟩ := C
  exact fun lsA H locs hL hW hS => lv_ldc hx hb hfo (hts _ hk0) hdg (h lsA H locs hL hW hS)
theorem e_mem {m' : MEM} (hm : EqV mem m') (h : G E X nL pc ls st m') : G E X nL pc ls st mem := by
  obtain ⟨p, l, e, R, s, m, args, below, meth, c, cells, slots, QF, A, H0⟩ := X
  exact fun lsA H locs hL hW hS => h lsA H locs hL (hW.eqv hm (fun id j _ hb => me_bo_wd _ _ hb)) hS
theorem e_callV (C : CK E X own cc nL ret dep) {y2 : MethodName} {cc2 : ByteArray} {nL2 index ci N dep2 : Nat} {ret2 : Option FieldType} {RC : String} {T : u_T} {id : ID} {As rest : List VV} {Q1 : VV → MEM → Prop} (mi : MI y2 cc2 nL2 ret2 RC As.length) (mv : MV y2 RC) (ml : Cond.methodLink own index y2 ∈ BW) (hdg : decode cc pc = .ok (.invokevirtual index, 3)) (hst : st = As.reverse ++ rv id :: rest) (hM : Ct E X.2.1 y2 (me_ws y2 cc2 nL2 ret2) dep2 (rv id :: As) mem Q1) (hdep : dep2 + 1 ≤ dep) (hv : vd id) (hk : me_kd id.1 = .inl ci) (hc : vwCl[ci]? = some (RC, T, N)) (hrest : rest.length ≤ 8) (kk : ∀ r m', Q1 r m' → G E X nL (pc + 3) ls (rvl r ++ rest) m') : G E X nL pc ls st mem := by
  obtain ⟨p, l, e, R, s, m, args, below, meth, c, cells, slots, QF, A, H0⟩ := X
  obtain ⟨hx, hb, hml, hfo, hts, hrt, hlk, hK, hA, hE, hfr, hlo, hce, hsl, hN⟩ := C
  intro lsA H locs hL hW hS
  subst hst
  obtain ⟨mi1, mi2, mi3, mi4, mi5, mi6⟩ := mi
  have cb : CallB R s args own index y2 cc2 nL2 ret2 (me_ws y2 cc2 nL2 ret2) (me_rm dep2) 0 0 As.length := callB_of As.length hts (me_good ⟨mi1, mi2, mi3, mi4, mi5, mi6⟩) rfl rfl rfl (by rw [mi3]; exact hts _ mi2) (hts _ ml) mi4 ⟨by show dep2 + 1 ≤ _; omega, by show 8 + (nL2 + 11) + 36 * dep2 ≤ _; omega⟩
  have cw : CallW R s args own RC index y2 cc2 nL2 ret2 (me_ws y2 cc2 nL2 ret2) (me_rm dep2) 0 0 As.length := ⟨cb, hts _ mv.1, hts _ mv.2⟩
  have h1 := hW.1 id hv
  unfold WR1 at h1
  rw [hk] at h1
  obtain ⟨cell, q1, q2, q3, q4⟩ := h1
  have hr := va_runV (p := p) (l := l) (e := e) (below := below) (meth := meth) (cells := cells) (slots := slots) (locs := locs) (H := H) (g := F0 m pc lsA ((As.reverse ++ rv id :: rest).map (vv E))) (As := As.map (vv E)) (rest := rest.map (vv E)) (b := E.2.1 id) (Qc := QcW E Q1) ⟨hx, hb, hml, hfo, hts⟩ (hM hE) cw ⟨fun a U g mk q => ⟨q.1, q.2.1, va_K.moved (u := U) (U := U.calling g mk a) (Vm.Alike.refl U.vm) q.2.2.1, nest_same (u := U) rfl q.2.2.2⟩, ⟨cell, q1, by rw [q3]; rfl, by rw [q2]; exact (hK.1 ci _ hc).2.1⟩, fun U hU hWm => ⟨rfl, by rw [hU]; exact hW, va_K.moved hWm.alike hK, nest_warm hWm hN⟩⟩ rfl (by simp) hL.1 (by simp [vv, vvv]) (lv_room (by rw [vv_cats]; exact hrest)) hdg ⟨hce, hsl⟩
  exact me_after hr hS hA fun r m' hq H1 locs1 hW1 hS1 => kk r m' hq lsA H1 locs1 hL hW1 hS1
theorem e_callS (C : CK E X own cc nL ret dep) {y2 : MethodName} {cc2 : ByteArray} {nL2 index dep2 : Nat} {ret2 : Option FieldType} {RC : String} {As rest : List VV} {Q1 : VV → MEM → Prop} (mi : MI y2 cc2 nL2 ret2 RC As.length) (ms : Cond.static y2 ∈ BW) (ml : Cond.methodLink own index y2 ∈ BW) (hdg : decode cc pc = .ok (.invokestatic index, 3)) (hst : st = As.reverse ++ rest) (hM : Ct E X.2.1 y2 (me_ws y2 cc2 nL2 ret2) dep2 As mem Q1) (hdep : dep2 + 1 ≤ dep) (hrest : rest.length ≤ 8) (kk : ∀ r m', Q1 r m' → G E X nL (pc + 3) ls (rvl r ++ rest) m') : G E X nL pc ls st mem := by
  obtain ⟨p, l, e, R, s, m, args, below, meth, c, cells, slots, QF, A, H0⟩ := X
  obtain ⟨hx, hb, hml, hfo, hts, hrt, hlk, hK, hA, hE, hfr, hlo, hce, hsl, hN⟩ := C
  intro lsA H locs hL hW hS
  subst hst
  obtain ⟨mi1, mi2, mi3, mi4, mi5, mi6⟩ := mi
  have cb : CallB R s args own index y2 cc2 nL2 ret2 (me_ws y2 cc2 nL2 ret2) (me_rm dep2) 0 0 As.length := callB_of As.length hts (me_good ⟨mi1, mi2, mi3, mi4, mi5, mi6⟩) rfl rfl rfl (by rw [mi3]; exact hts _ mi2) (hts _ ml) mi4 ⟨by show dep2 + 1 ≤ _; omega, by show 8 + (nL2 + 11) + 36 * dep2 ≤ _; omega⟩
  have hr := va_runS (p := p) (l := l) (e := e) (below := below) (meth := meth) (cells := cells) (slots := slots) (locs := locs) (H := H) (g := F0 m pc lsA ((As.reverse ++ rest).map (vv E))) (As := As.map (vv E)) (rest := rest.map (vv E)) (Qc := QcW E Q1) ⟨hx, hb, hml, hfo, hts⟩ (hM hE) ⟨cb, hts _ ms⟩ ⟨fun a U g mk q => ⟨q.1, q.2.1, va_K.moved (u := U) (U := U.calling g mk a) (Vm.Alike.refl U.vm) q.2.2.1, nest_same (u := U) rfl q.2.2.2⟩, fun U hU hWm => ⟨rfl, by rw [hU]; exact hW, va_K.moved hWm.alike hK, nest_warm hWm hN⟩⟩ rfl (by simp) hL.1 (by simp) (lv_room (by rw [vv_cats]; exact hrest)) hdg ⟨hce, hsl⟩
  exact me_after hr hS hA fun r m' hq H1 locs1 hW1 hS1 => kk r m' hq lsA H1 locs1 hL hW1 hS1
theorem e_callN (C : CK E X own cc nL ret dep) {y2 : MethodName} {cc2 : ByteArray} {nL2 index dep2 : Nat} {ret2 : Option FieldType} {RC host : String} {As rest : List VV} {Q1 : VV → MEM → Prop} (mi : MI y2 cc2 nL2 ret2 RC As.length) (ms : Cond.static y2 ∈ BW) (ml : Cond.methodLinkNest own index y2 host ∈ nestWs) (hdg : decode cc pc = .ok (.invokestatic index, 3)) (hst : st = As.reverse ++ rest) (hM : Ct E X.2.1 y2 (me_ws y2 cc2 nL2 ret2) dep2 As mem Q1) (hdep : dep2 + 1 ≤ dep) (hrest : rest.length ≤ 8) (kk : ∀ r m', Q1 r m' → G E X nL (pc + 3) ls (rvl r ++ rest) m') : G E X nL pc ls st mem := by
  obtain ⟨p, l, e, R, s, m, args, below, meth, c, cells, slots, QF, A, H0⟩ := X
  obtain ⟨hx, hb, hml, hfo, hts, hrt, hlk, hK, hA, hE, hfr, hlo, hce, hsl, hN⟩ := C
  intro lsA H locs hL hW hS
  subst hst
  obtain ⟨mi1, mi2, mi3, mi4, mi5, mi6⟩ := mi
  have cb := va_cnB (R := R) (rm := me_rm dep2) (mc := 0) (ms := 0) As.length hts (me_good ⟨mi1, mi2, mi3, mi4, mi5, mi6⟩) rfl rfl rfl (hN _ ml) (by rw [mi3]; exact hts _ mi2) mi4 ⟨by show dep2 + 1 ≤ _; omega, by show 8 + (nL2 + 11) + 36 * dep2 ≤ _; omega⟩
  have hr := va_runSN (p := p) (l := l) (e := e) (below := below) (meth := meth) (cells := cells) (slots := slots) (locs := locs) (H := H) (g := F0 m pc lsA ((As.reverse ++ rest).map (vv E))) (As := As.map (vv E)) (rest := rest.map (vv E)) (Qc := QcW E Q1) ⟨hx, hb, hml, hfo, hts⟩ (hM hE) ⟨cb, hts _ ms, trivial⟩ ⟨fun a U g mk q => ⟨q.1, q.2.1, va_K.moved (u := U) (U := U.calling g mk a) (Vm.Alike.refl U.vm) q.2.2.1, nest_same (u := U) rfl q.2.2.2⟩, fun U hU hWm => ⟨rfl, by rw [hU]; exact hW, va_K.moved hWm.alike hK, nest_warm hWm hN⟩⟩ rfl (by simp) hL.1 (by simp) (lv_room (by rw [vv_cats]; exact hrest)) hdg ⟨hce, hsl⟩
  exact me_after hr hS hA fun r m' hq H1 locs1 hW1 hS1 => kk r m' hq lsA H1 locs1 hL hW1 hS1
theorem e_mmax (C : CK E X own cc nL ret dep) {index : Nat} {x y : Int32} (ml : Cond.methodLink own index Lib.Math.max.name ∈ BW) (hdg : decode cc pc = .ok (.invokestatic index, 3)) (hrest : st.length ≤ 8) (hdep : 1 ≤ dep) (h : G E X nL (pc + 3) ls (iv (if x < y then y else x) :: st) mem) : G E X nL pc ls (iv y :: iv x :: st) mem := by
  obtain ⟨p, l, e, R, s, m, args, below, meth, c, cells, slots, QF, A, H0⟩ := X
  obtain ⟨hx, hb, hml, hfo, hts, hrt, hlk, hK, hA, hE, hfr, hlo, hce, hsl, hN⟩ := C
  intro lsA H locs hL hW hS
  exact va_mmax hx hb (hml.trans hL.1.symm) hfo (hts _ ml) (hts _ b_st_Jmax) (hts _ b_in_J9) (hts _ b_co_Jmax) (by omega) (by rw [vv_cats]; omega) hce hsl hdg (h lsA H locs hL hW hS)
theorem e_mmin (C : CK E X own cc nL ret dep) {index : Nat} {x y : Int32} (ml : Cond.methodLink own index Lib.Math.min.name ∈ BW) (hdg : decode cc pc = .ok (.invokestatic index, 3)) (hrest : st.length ≤ 8) (hdep : 1 ≤ dep) (h : G E X nL (pc + 3) ls (iv (if y < x then y else x) :: st) mem) : G E X nL pc ls (iv y :: iv x :: st) mem := by
  obtain ⟨p, l, e, R, s, m, args, below, meth, c, cells, slots, QF, A, H0⟩ := X
  obtain ⟨hx, hb, hml, hfo, hts, hrt, hlk, hK, hA, hE, hfr, hlo, hce, hsl, hN⟩ := C
  intro lsA H locs hL hW hS
  exact va_mmin hx hb (hml.trans hL.1.symm) hfo (hts _ ml) (hts _ b_st_Jmin) (hts _ b_in_J9) (hts _ b_co_Jmin) (by omega) (by rw [vv_cats]; omega) hce hsl hdg (h lsA H locs hL hW hS)
theorem e_copy (C : CK E X own cc nL ret dep) {index n : Nat} {src dst : ID} {k : Int32} (hk0 : me_kd src.1 = .inr (0, n)) (hk1 : me_kd dst.1 = .inr (0, n)) (hv0 : vd src) (hv1 : vd dst) (hkn : k.toNatClampNeg = n) (hk2 : ¬ k < 0) (ml : Cond.methodLink own index arraycopyName ∈ BW) (hdg : decode cc pc = .ok (.invokestatic index, 3)) (hrest : st.length ≤ 8) (hdep : 1 ≤ dep) (h : G E X nL (pc + 3) ls st (cpc mem dst src)) : G E X nL pc ls (iv k :: iv 0 :: rv dst :: iv 0 :: rv src :: st) mem := by
  obtain ⟨p, l, e, R, s, m, args, below, meth, c, cells, slots, QF, A, H0⟩ := X
  obtain ⟨hx, hb, hml, hfo, hts, hrt, hlk, hK, hA, hE, hfr, hlo, hce, hsl, hN⟩ := C
  intro lsA H locs hL hW hS
  have h0 := hW.1 src hv0
  have h1 := hW.1 dst hv1
  unfold WR1 at h0 h1
  rw [hk0] at h0
  rw [hk1] at h1
  have h0 : H[E.2.1 src]? = some (vp_cell (E.2.2 0) (n, .inl (mem src))) := h0
  have h1 : H[E.2.1 dst]? = some (vp_cell (E.2.2 0) (n, .inl (mem dst))) := h1
  have nn : k.toInt = (k.toNatClampNeg : Int) := by
    have hz0 : (0 : Int) ≤ k.toInt := by
      have := Int32.not_lt.mp hk2
      simpa using Int32.le_iff_toInt_le.mp this
    show k.toInt = ((k.toInt.toNat : Nat) : Int)
    omega
  have z0 : (0 : Int32).toNatClampNeg = 0 := by decide
  have z17 : nativeFrameWords "java/lang/System" "arraycopy" 5 ≤ 17 := by decide +kernel
  intro T hT X
  obtain ⟨-, k0, hkk0, cm0, hkkk0⟩ := (hK.2 0 _ rfl).1 n (fun j => .int (mem src j))
  obtain ⟨-, k1, hkk1, cm1, hkkk1⟩ := (hK.2 0 _ rfl).1 n (fun j => .int (mem dst j))
  obtain ⟨vm', X', step⟩ := X.arraycopy hx hfo (hts _ ml) (hts _ b_na_arraycopyName) (hts _ b_st_arraycopyName) (hts _ b_in_J10) (src := E.2.1 src) (dst := E.2.1 dst) (cs := vp_cell (E.2.2 0) (n, .inl (mem src))) (cd := vp_cell (E.2.2 0) (n, .inl (mem dst))) (srcPos := 0) (destPos := 0) (n := k) (by rw [hT]; exact h0) (by rw [hT]; exact h1)
    (fun _ h => by cases h) (fun _ h => by cases h) (fun h => by cases h) (fun h => by cases h) hkk0 hkk1 hkkk0 hkkk1 (by simp [refKind]) (by decide) (by decide) hk2
    (by rw [nn]; show ¬ _ > ((arrV (E.2.2 0) n (fun j => .int (mem src j))).slots.size : Int); rw [arrV_size]; have : (0 : Int32).toInt = 0 := rfl; omega)
    (by rw [nn]; show ¬ _ > ((arrV (E.2.2 0) n (fun j => .int (mem dst j))).slots.size : Int); rw [arrV_size]; have : (0 : Int32).toInt = 0 := rfl; omega)
    (fun vm₁ _ i hi => by
      have e : (vp_cell (E.2.2 0) (n, .inl (mem src))).slots.getD ((0 : Int32).toNatClampNeg + i) .null = .int (mem src ((0 : Int32).toNatClampNeg + i)) := by
        show (arrV (E.2.2 0) n (fun j => .int (mem src j))).slots.getD _ _ = _
        rw [Array.getD_eq_getD_getElem?, arrV_read _ _ (by rw [z0]; omega)]
        rfl
      refine ⟨?_, ?_⟩
      · rw [e]
        rfl
      · rw [e]
        exact trivial)
    (g := F0 m pc lsA ((iv k :: iv 0 :: rv dst :: iv 0 :: rv src :: st).map (vv E))) rfl (by show lsA.size = _; rw [hml]; exact hL.1) (rest := st.map (vv E)) rfl (by rw [hb]; exact hdg) (by omega) (by show 2 * 0 + ((st.map (vv E)).map fun v => v.category).sum + _ ≤ _; rw [vv_cats]; omega)
  have e1 : copied (vp_cell (E.2.2 0) (n, .inl (mem src))) (vp_cell (E.2.2 0) (n, .inl (mem dst))) 0 0 k = vp_cell (E.2.2 0) (n, .inl (va_cpy (mem src) (mem dst) (0 : Int32).toNatClampNeg (0 : Int32).toNatClampNeg k.toNatClampNeg)) := va_copied (fun z => .int z) (E.2.2 0) (E.2.2 0) (mem src) (mem dst) (by rw [z0]; omega)
  have e2 : vp_cell (E.2.2 0) (n, .inl (va_cpy (mem src) (mem dst) (0 : Int32).toNatClampNeg (0 : Int32).toNatClampNeg k.toNatClampNeg)) = vp_cell (E.2.2 0) (n, .inl (mem src)) := me_vp_congr fun j hj => by
    rw [z0, hkn]
    simp [va_cpy, hj]
  rw [e1, e2] at X' step
  have hl : E.2.1 dst < H.size := (Array.getElem?_eq_some_iff.mp h1).1
  have hheap : ((T.setVm vm').setCell (E.2.1 dst) (vp_cell (E.2.2 0) (n, .inl (mem src)))).heap = H.setIfInBounds (E.2.1 dst) (vp_cell (E.2.2 0) (n, .inl (mem src))) := by rw [← hT]; rfl
  have oq : ∀ q : Nat, q ≠ E.2.1 dst → (H.setIfInBounds (E.2.1 dst) (vp_cell (E.2.2 0) (n, .inl (mem src))))[q]? = H[q]? := fun q hq => by simp [Array.getElem?_setIfInBounds, Ne.symm hq]
  have hup : ∀ id', id' ≠ dst → cpc mem dst src id' = mem id' := fun id' hne => by simp [cpc, hne]
  have hW' : WR E (cpc mem dst src) (H.setIfInBounds (E.2.1 dst) (vp_cell (E.2.2 0) (n, .inl (mem src)))) := by
    refine hW.put hE hv1 ?_ hup oq ?_
    · unfold WR1
      rw [hk1]
      show (H.setIfInBounds _ _)[_]? = some (vp_cell _ _)
      simp [Array.getElem?_setIfInBounds, hl, cpc]
    · intro b hbo
      have h4 : ∀ t b, me_bo t b = true → ∀ q, me_kd t ≠ .inr q := by
        intro t b hb' q
        unfold me_bo at hb'
        split at hb' <;> simp at hb' <;> simp [me_kd]
      exact absurd hk1 (h4 _ _ hbo _)
  obtain ⟨t, a1, b1⟩ := h lsA _ _ hL hW' ⟨by simp; exact hS.1, fun q g1 g2 => by
      rw [oq q (fun e => g2 (by rw [e]; exact hA dst hv1))]
      exact hS.2.1 q g1 g2, fun q hq => by
      rcases List.mem_append.mp hq with h | h
      · exact hS.2.2 q h
      · obtain ⟨z, -, hz⟩ := List.mem_map.mp h
        rw [← hz]
        exact hA dst hv1⟩ _ hheap X'
  exact ⟨t, step t a1, b1⟩
end ME
section MER
variable {E : EV} {X : CX} {own : String} {cc : ByteArray} {nL : Nat} {dep pc : Nat} {ls : List VV} {mem : MEM} {l : Launch} {Q : VV → MEM → Prop}
theorem e_iret (C : CK E X own cc nL (some .int) dep) (h : EX E X l Q) {v : Int32} (hdg : decode cc pc = .ok (.ireturn, 1)) (hq : Q (iv v) mem) : G E X nL pc ls [iv v] mem := by
  obtain ⟨p, l, e, R, s, m, args, below, meth, c, cells, slots, QF, A, H0⟩ := X
  obtain ⟨hx, hb, hml, hfo, hts, hrt, hlk, -⟩ := C
  obtain ⟨rfl, rfl, rfl, rfl⟩ := h
  intro lsA H locs hL hW hS
  exact W.iret hx hb hrt (fun t ht hWm => ⟨⟨iv v, mem, hq, rfl, by rw [ht]; exact hW⟩, hS.F ht⟩) hS.2.2 hdg hlk
theorem e_zret (C : CK E X own cc nL (some .boolean) dep) (h : EX E X l Q) {v : Int32} (hdg : decode cc pc = .ok (.ireturn, 1)) (hz : v = 0 ∨ v = 1) (hq : Q (iv v) mem) : G E X nL pc ls [iv v] mem := by
  obtain ⟨p, l, e, R, s, m, args, below, meth, c, cells, slots, QF, A, H0⟩ := X
  obtain ⟨hx, hb, hml, hfo, hts, hrt, hlk, -⟩ := C
  obtain ⟨rfl, rfl, rfl, rfl⟩ := h
  intro lsA H locs hL hW hS
  exact W.zret hx hb hrt (by rcases hz with rfl | rfl <;> rfl) (fun t ht hWm => ⟨⟨iv v, mem, hq, rfl, by rw [ht]; exact hW⟩, hS.F ht⟩) hS.2.2 hdg hlk
theorem e_aret {RC : String} (C : CK E X own cc nL (some (.object RC)) dep) (h : EX E X l Q) {o : Option ID} (hdg : decode cc pc = .ok (.areturn, 1)) (hq : Q (some (.inr o)) mem) : G E X nL pc ls [some (.inr o)] mem := by
  obtain ⟨p, l, e, R, s, m, args, below, meth, c, cells, slots, QF, A, H0⟩ := X
  obtain ⟨hx, hb, hml, hfo, hts, hrt, hlk, -⟩ := C
  obtain ⟨rfl, rfl, rfl, rfl⟩ := h
  intro lsA H locs hL hW hS
  exact W.aret hx hb hrt (Or.inl ⟨_, rfl⟩) (by rcases o with _ | i; exact Or.inl rfl; exact Or.inr ⟨_, rfl⟩) (fun t ht hWm => ⟨⟨some (.inr o), mem, hq, rfl, by rw [ht]; exact hW⟩, hS.F ht⟩) hS.2.2 hdg hlk
theorem e_vret (C : CK E X own cc nL none dep) (h : EX E X l Q) (hdg : decode cc pc = .ok (.return_, 1)) (hq : Q uv mem) : G E X nL pc ls [] mem := by
  obtain ⟨p, l, e, R, s, m, args, below, meth, c, cells, slots, QF, A, H0⟩ := X
  obtain ⟨hx, hb, hml, hfo, hts, hrt, hlk, -⟩ := C
  obtain ⟨rfl, rfl, rfl, rfl⟩ := h
  intro lsA H locs hL hW hS
  exact W.vret hx hb hrt (fun t ht hWm => ⟨⟨uv, mem, hq, rfl, by rw [ht]; exact hW⟩, hS.F ht⟩) hS.2.2 hdg hlk
end MER
theorem me_entry (E : EV) (args : List VV) (nL : Nat) (h : args.length ≤ nL) : LR E (((args.map (vv E)).map Slot.val ++ List.replicate (nL - (args.map (vv E)).length) Slot.unset).toArray) nL (args ++ List.replicate (nL - args.length) uv) := by
  have key : ∀ (i : Nat) (z : Slot), (((args.map (vv E)).map Slot.val ++ List.replicate (nL - (args.map (vv E)).length) Slot.unset).toArray)[i]? = some z → z = .unset ∨ ∃ x : VV, args[i]? = some x ∧ z = .val (vv E x) := by
    intro i z hz
    rw [List.getElem?_toArray] at hz
    by_cases hi : i < args.length
    · rw [List.getElem?_append_left (by simpa using hi)] at hz
      simp only [List.getElem?_map] at hz
      rw [List.getElem?_eq_getElem hi] at hz ⊢
      cases hz
      exact Or.inr ⟨_, rfl, rfl⟩
    · rw [List.getElem?_append_right (by simpa using hi)] at hz
      exact Or.inl (List.eq_of_mem_replicate (List.mem_of_getElem? hz))
  refine ⟨by simp; omega, ⟨fun i v hv hc => ?_, fun i hi => ?_⟩, fun i x hx => ?_⟩
  · rcases key i _ hv with h | ⟨x, -, h⟩
    · cases h
    · cases h
      rw [vv_cat] at hc
      cases hc
  · rcases key i _ hi with h | ⟨x, -, h⟩ <;> cases h
  · by_cases hi : i < args.length
    · rw [List.getElem?_append_left hi] at hx
      rw [List.getElem?_toArray, List.getElem?_append_left (by simpa using hi)]
      simp only [List.getElem?_map, hx]
      rfl
    · rw [List.getElem?_append_right (by omega)] at hx
      have := List.eq_of_mem_replicate (List.mem_of_getElem? hx)
      cases this
theorem Ct.of {E : EV} {l : Launch} {y : MethodName} {cc : ByteArray} {nL n dep : Nat} {ret : Option FieldType} {RC : String} {args ls0 : List VV} {mem : MEM} {Q : VV → MEM → Prop} (mi : MI y cc nL ret RC n) (hlen : args.length ≤ nL) (hls : args ++ List.replicate (nL - args.length) uv = ls0) (h : ∀ X, CK E X RC cc nL ret dep → EX E X l Q → G E X nL 0 ls0 [] mem) : Ct E l y (me_ws y cc nL ret) dep args mem Q := by
  intro hE
  subst hls
  obtain ⟨mi1, mi2, mi3, mi4, mi5, mi6⟩ := mi
  refine Met.ofWF (cc := cc) (maxL := nL) (ret := ret) mi6 rfl ?_
  intro p e s m args' below meth c s₁ B hml hv
  obtain ⟨rfl, hW, hK, hN⟩ := hv
  have hts := atoms_spec (ws := me_ws y cc nL ret) B.pre
  have hown := findClass_of_methodNamed B.named
  rw [mi3] at hown
  rw [entry_eq m (args.map (vv E)) (fun v hv => by obtain ⟨x, -, rfl⟩ := List.mem_map.mp hv; exact vv_cat E x) nL]
  exact h (p, l, e, (headSpec (me_ws y cc nL ret) (me_rm dep)).room, s, m, (args.map (vv E)).toArray, below, meth, c, 0, 0, MQ below (QcW E Q) (args.map (vv E)).toArray s 0 0 (AW E), AW E, s.heap)
    ⟨B.exec, B.bytes, hml, hown, fun w hw => hts w (List.mem_cons_of_mem _ hw), B.returns, B.notSynchronized, hK, fun id hid => ⟨id, hid, rfl⟩, hE, Nat.le_refl dep, Nat.le_refl (36 * dep), Nat.zero_le _, Nat.zero_le _, hN⟩ ⟨rfl, rfl, rfl, rfl⟩ _ s.heap [] (me_entry E args nL hlen) hW va_S.rf
