/-! ===== the law's start and end ===== -/
section MKA
variable {E : EV} {b : Nat} {X : CX} {own : String} {cc : ByteArray} {nL : Nat} {ret : Option FieldType} {dep pc cells slots k n : Nat} {ls st : List VV}
theorem k_astore (C : CK E X own cc nL ret dep) {f : Nat} {x : ID} {ls1 : List VV} (hdg : decode cc pc = .ok (.astore f, 2)) (hn : f < nL) (hs : ls.set f (rv x) = ls1) (h : GK E b X cells slots nL (pc + 2) ls1 st k n) : GK E b X cells slots nL pc ls (rv x :: st) k n := by
  obtain ⟨p, l, e, R, s, m, args, below, meth, c, x1, x2, QF, A, H0⟩ := X
  obtain ⟨hx, hb, -⟩ := C
  subst hs
  exact fun lsA H locs hL hW hS => lv_astore hx hb hdg hL.toHas hn rfl (fun ls1 h1 => h ls1 H locs (LR.ofStore (x := .inr (some x)) h1) hW hS)
end MKA
def lwE (dC : Nat → ClassId) (dI : Nat → Nat → Nat) (cA : Nat → ClassId) (b h : Nat) : EV := ((dC, dI), fun id => if id.1 = 99 then b else h + offs id, cA)
theorem lwE_ok {dC : Nat → ClassId} {dI : Nat → Nat → Nat} {cA : Nat → ClassId} {b h : Nat} : EO (lwE dC dI cA b h) h := fun id hv => by
  show (if id.1 = 99 then b else h + offs id) = h + offs id
  rw [if_neg (by have := (vd_lt hv).1; omega)]
/-! THE CLAIM OUT OF ONE WALK OF THE LAW'S BODY. Your part is whole_start (and what it stands on); all else here is the same for every law, but numbers. -/
def R_law : String := "ReplicaSessionsLaw"
def lw_P (b : Addr) (xs : List Int32) (args : Array Value) (s : State) : Prop := args = #[.ref b] ∧ s.IntsAt b xs ∧ xs.length ≤ 260 ∧ (Jvm.Cond.and given_1 narrow_1).before args s = true
def lw_Q (_ : Array Value) (s : State) (o : Outcome) (t : State) : Prop := o = .returned (some (.int 1)) ∧ Framed s o t [] 600000 7302250
def lw_Z (below : List Frame) (a : Array Value) (s : State) : State → Prop := fun t => ∃ o, t.status = .running ∧ Ended t below o ∧ lw_Q a s o t
/-- the law's own end, with 1 on the stack, nothing written that was there before, its room as the claim has it -/
theorem lw_ret {p : Program} {l : Launch} {e : Env} {s : State} {m : MethodId} {below : List Frame} {meth : Method} {c : Code} {b : Nat} (hx : p.tables.exec = Jvm.exec) (hb : c.code = code) (hr : meth.sig.returnType = ret) (hlocks : meth.locks = false) {pc : Nat} {H : Heap} {ls : Array Slot} (hdg : decode code pc = .ok (.ireturn, 1)) : W p l e room_1 s m #[Value.ref b] below meth c H [] 600000 7302250 (lw_Z below #[Value.ref b] s) (F0 m pc ls [.int 1]) := by
  intro T hT X
  obtain ⟨fs, hret, hrun, hended, hW, hframe⟩ := X.leave (v := some (.int 1)) (hlocks := hlocks) (fun h => by rw [hr] at h; cases h)
  have hmeth' : T.vm.method? m = some meth := X.method'
  refine ⟨T.setFrames fs, ?_, .returned (some (.int 1)), hrun, hended, rfl, ⟨_, rfl⟩, hW, hframe⟩
  jvm_step X.here [X.here.top, hx, hb, hdg, hmeth', hr, ret, narrow_b1]
  (try refine ⟨rfl, ?_⟩); (try refine ⟨rfl, ?_⟩)
  first | (intro acts; rw [hret _ acts rfl rfl rfl]) | rw [hret _ _ rfl rfl rfl]
  exact Steps.refl _
/-- what holds at the law's entry: the machine, the code, the tables' words (any of lw_tbl by 'hts w (by decide +kernel)'), the script of L ints xs at the cell b, what the Statement gives of the start (any of its parts by flat_of_before) -/
def lw_At (p : Program) (s : State) (m : MethodId) (meth : Method) (c : Code) (b L : Nat) (xs : Nat → Int32) : Prop :=
  p.tables.exec = Jvm.exec ∧ c.code = code ∧ meth.sig.returnType = ret ∧ c.maxLocals = 19 ∧ s.vm.findClass R_law = some m.cls ∧ (∀ w ∈ lw_tbl, w.before #[Value.ref b] s = true) ∧ va_X b L xs s s.heap ∧ b < s.heap.size ∧ meth.locks = false ∧ (Jvm.Cond.and given_1 narrow_1).before #[Value.ref b] s = true
-- ===== YOUR PART BEGINS =====
/-- YOUR PART: from the entry, for every script of at most 260 ints, the law comes to its end with true ('hflags': the launch's flags, for a law that throws: no stack traces) -/
theorem whole_start {p : Program} {e : Env} {s : State} {m : MethodId} {below : List Frame} {meth : Method} {c : Code} (l : Launch) (hflags : l.flags = flags0) {b L : Nat} {xs : Nat → Int32} (hL : L ≤ 260) (C0 : lw_At p s m meth c b L xs) : W p l e room_1 s m #[Value.ref b] below meth c s.heap [] 0 0 (lw_Z below #[Value.ref b] s) (entryFrame m ([Value.ref b] : List Value).toArray 19) := by
  obtain ⟨hx, hb, hr, hml, hown, hts, hX, hbl, hlocks, hgv⟩ := id C0
  have hts1 : ∀ w ∈ BW, w.before #[Value.ref b] s = true := fun w hw => hts w (bw_tbl w hw)
  obtain ⟨c0, i0, k0⟩ := u_known (C := RX0) (T := TX0) (N := 3) (n := 3) hts1 b_X0 (hts1 _ b_is_X0)
  obtain ⟨c1, i1, k1⟩ := u_known (C := RX1) (T := TX1) (N := 4) (n := 4) hts1 b_X1 (hts1 _ b_is_X1)
  obtain ⟨c2, i2, k2⟩ := u_known (C := RX2) (T := TX2) (N := 5) (n := 5) hts1 b_X2 (hts1 _ b_is_X2)
  obtain ⟨c3, i3, k3⟩ := u_known (C := RX3) (T := TX3) (N := 11) (n := 11) hts1 b_X3 (hts1 _ b_is_X3)
  obtain ⟨c4, i4, k4⟩ := u_known (C := RX4) (T := TX4) (N := 7) (n := 7) hts1 b_X4 (hts1 _ b_is_X4)
  obtain ⟨c5, i5, k5⟩ := u_known (C := RX5) (T := TX5) (N := 6) (n := 6) hts1 b_X5 (hts1 _ b_is_X5)
  obtain ⟨c6, i6, k6⟩ := u_known (C := RX6) (T := TX6) (N := 5) (n := 5) hts1 b_X6 (hts1 _ b_is_X6)
  obtain ⟨dC, dI, hKc⟩ : ∃ (dC : Nat → ClassId) (dI : Nat → Nat → Nat), ∀ (k : Nat) (q : vw_C), vwCl[k]? = some q → u_Kn s q.1 q.2.1 q.2.2 (dC k) (dI k) := by
    refine ⟨fun k => match k with | 0 => c0 | 1 => c1 | 2 => c2 | 3 => c3 | 4 => c4 | 5 => c5 | _ => c6, fun k => match k with | 0 => i0 | 1 => i1 | 2 => i2 | 3 => i3 | 4 => i4 | 5 => i5 | _ => i6, ?_⟩
    intro k q hq
    match k, hq with
    | 0, hq => cases hq; exact k0
    | 1, hq => cases hq; exact k1
    | 2, hq => cases hq; exact k2
    | 3, hq => cases hq; exact k3
    | 4, hq => cases hq; exact k4
    | 5, hq => cases hq; exact k5
    | 6, hq => cases hq; exact k6
    | k + 7, hq => simp [vwCl] at hq
  obtain ⟨d0, q0, p0, a01, a02, a03⟩ := Cond.arrayClass_spec (hts1 _ b_ac_int)
  obtain ⟨d1, q1, p1, a11, a12, a13⟩ := Cond.arrayClass_spec (hts1 _ b_ac_int)
  obtain ⟨p2, d2, q2, a21, -, a22, a23, a24⟩ := Cond.arrayOver_spec (hts _ b_ao_X2)
  obtain ⟨p3, d3, q3, a31, -, a32, a33, a34⟩ := Cond.arrayOver_spec (hts _ b_ao_X3)
  obtain ⟨p4, d4, q4, a41, -, a42, a43, a44⟩ := Cond.arrayOver_spec (hts _ b_ao_X4)
  obtain ⟨cA, e0, e1, e2, e3, e4⟩ : ∃ cA : Nat → ClassId, cA 0 = d0 ∧ cA 1 = d1 ∧ cA 2 = d2 ∧ cA 3 = d3 ∧ cA 4 = d4 := ⟨fun k => match k with | 0 => d0 | 1 => d1 | 2 => d2 | 3 => d3 | _ => d4, rfl, rfl, rfl, rfl, rfl⟩
  have hK : va_K (dC, dI) vwCl (tyE (lwE dC dI cA b s.heap.size)) s := by
    refine ⟨hKc, fun k q hq => ?_⟩
    match k, hq with
    | 0, hq =>
      cases hq
      refine ⟨fun N z => ⟨fun k h => (by cases h), q0, ?_, p0, a03⟩, ?_⟩
      · show s.vm.classes[cA 0]? = some q0
        rw [e0]; exact a02
      · show s.vm.findClass _ = some (cA 0)
        rw [e0]; exact a01
    | 1, hq =>
      cases hq
      refine ⟨fun N z => ⟨fun k h => (by cases h), q1, ?_, p1, a13⟩, ?_⟩
      · show s.vm.classes[cA 1]? = some q1
        rw [e1]; exact a12
      · show s.vm.findClass _ = some (cA 1)
        rw [e1]; exact a11
    | 2, hq =>
      cases hq
      refine ⟨fun N z => ⟨fun k h => (by cases h), q2, ?_, p2, a23⟩, q2, p2, ?_, a23, a21, ?_⟩
      · show s.vm.classes[cA 2]? = some q2
        rw [e2]; exact a22
      · show s.vm.classes[cA 2]? = some q2
        rw [e2]; exact a22
      · show s.vm.findClass _ = some (cA 2)
        rw [e2]; exact a24
    | 3, hq =>
      cases hq
      refine ⟨fun N z => ⟨fun k h => (by cases h), q3, ?_, p3, a33⟩, q3, p3, ?_, a33, a31, ?_⟩
      · show s.vm.classes[cA 3]? = some q3
        rw [e3]; exact a32
      · show s.vm.classes[cA 3]? = some q3
        rw [e3]; exact a32
      · show s.vm.findClass _ = some (cA 3)
        rw [e3]; exact a34
    | 4, hq =>
      cases hq
      refine ⟨fun N z => ⟨fun k h => (by cases h), q4, ?_, p4, a43⟩, q4, p4, ?_, a43, a41, ?_⟩
      · show s.vm.classes[cA 4]? = some q4
        rw [e4]; exact a42
      · show s.vm.classes[cA 4]? = some q4
        rw [e4]; exact a42
      · show s.vm.findClass _ = some (cA 4)
        rw [e4]; exact a44
    | k + 5, hq => simp [tyE] at hq
  obtain ⟨E, hEd⟩ : ∃ E, E = lwE dC dI cA b s.heap.size := ⟨_, rfl⟩
  have hE : EO E s.heap.size := by rw [hEd]; exact lwE_ok
  have hE9 : E.2.1 (99, 0, 0) = b := by rw [hEd]; rfl
  have hK : va_K E.1 vwCl (tyE E) s := by rw [hEd]; exact hK
  clear hEd
  have hO : AOs s := ⟨va_AO.of (hts _ b_ao_X2), va_AO.of (hts _ b_ao_X3), va_AO.of (hts _ b_ao_X4)⟩
  have hN : NW s := by
    intro w hw
    simp only [nestWs, List.mem_cons, List.not_mem_nil, or_false] at hw
    rcases hw with rfl | rfl | rfl | rfl | rfl | rfl | rfl | rfl
    · exact va_Nw.of rfl (hts _ nest_X4_11)
    · exact va_Nw.of rfl (hts _ nest_X4_43)
    · exact va_Nw.of rfl (hts _ nest_X4_44)
    · exact va_Nw.of rfl (hts _ nest_X6_32)
    · exact va_Nw.of rfl (hts _ nest_X0_43)
    · exact va_Nw.of rfl (hts _ nest_X4_45)
    · exact va_Nw.of rfl (hts _ nest_X0_33)
    · exact va_Nw.of rfl (hts _ nest_X3_63)
  obtain ⟨X, hXd⟩ : ∃ X : CX, X = (p, l, e, room_1, s, m, #[Value.ref b], below, meth, c, 600000, 7302250, lw_Z below #[Value.ref b] s, (fun q => s.heap.size ≤ q), s.heap) := ⟨_, rfl⟩
  have C : CK E X RL cL_law 19 (some .boolean) 9 := by
    rw [hXd]
    exact ⟨hx, hb, hml, hown, hts1, hr, hlocks, hK, fun id hv => by show s.heap.size ≤ E.2.1 id; rw [hE id hv]; omega, hE.ok, by decide, by decide, by decide, by decide, hN⟩
  have K : KX E s.heap.size X 299 7708 := by
    rw [hXd]
    exact ⟨hE, fun q hq => hq, hO, by decide, by decide⟩
  have S : SX E X L xs := by
    rw [hXd]
    show va_X (E.2.1 (99, 0, 0)) L xs s s.heap ∧ E.2.1 (99, 0, 0) < s.heap.size ∧ ¬ s.heap.size ≤ E.2.1 (99, 0, 0)
    rw [hE9]
    exact ⟨hX, hbl, Nat.not_le.mpr hbl⟩
  have kend : ∀ m0 ls, G E X 19 1931 ls [iv (nI 1)] m0 := by
    rw [hXd]
    intro m0 ls lsA H locs hL1 hW hS
    exact va_forget hS.2.2 (lw_ret hx hb hr hlocks dL_law_1931)
  have hloop : G E X 19 35 [rv (99, 0, 0), rv (0, 0, 0), rv (17, 0, 0), rv (18, 0, 0), rv (19, 0, 0), rv (20, 0, 0), rv (21, 0, 0), uv, uv, uv, uv, uv, uv, uv, uv, uv, uv, uv, uv] [] M0 := law_init C (fun m hF hZ => law_loop C S hL kend 81 0 _ _ _ _ _ _ _ _ _ _ _ m a00 0 (by omega) (Nat.zero_le _) (RC_00.frM hF) hZ Good_00)
  have hgo : GK E s.heap.size X 299 7708 19 35 [rv (99, 0, 0), rv (0, 0, 0), rv (17, 0, 0), rv (18, 0, 0), rv (19, 0, 0), rv (20, 0, 0), rv (21, 0, 0), uv, uv, uv, uv, uv, uv, uv, uv, uv, uv, uv, uv] [] 299 365 := by
    rw [hXd] at hloop ⊢
    intro lsA H locs hL1 hW hS
    exact W.widen (k := 600000) (n := 7302250) (by decide) (by decide) (hloop lsA H locs hL1 hW.done hS)
  have hall : GK E s.heap.size X 0 0 19 0 [rv (99, 0, 0), uv, uv, uv, uv, uv, uv, uv, uv, uv, uv, uv, uv, uv, uv, uv, uv, uv, uv] [] 0 0 := by
    refine k_new C K (ci := 6) (0, 0, 0) rfl rfl rfl b_X6 tyX6 tyX6_ok df_6 b_cl_L_10 b_is_X6 b_in_X6 v0 rfl (fun _ _ => Nat.zero_le _) dL_law_0 (by omega) (by omega) ?_
    refine k_dup C dL_law_3 ?_
    refine k_callI C K mi_yX6_init rfl b_in_yX6_init b_ml_L_95 dL_law_4 (ct_X6 X.2.1) (by decide) (Nat.le_of_ble_eq_true rfl) (by omega) (by omega) ?_
    refine k_astore_n C dL_law_7 (by decide) rfl ?_
    refine k_bipush (v := nI 64) C dL_law_8 (by decide) ?_
    refine k_newaI C K (17, 0, 0) (nn := 64) rfl v17 rfl (fun _ hj => absurd hj Bool.false_ne_true) (by decide) (by decide) (by decide) dL_law_10 (by omega) (by omega) ?_
    refine k_astore_n C dL_law_12 (by decide) rfl ?_
    refine k_bipush (v := nI 20) C dL_law_13 (by decide) ?_
    refine k_newaI C K (18, 0, 0) (nn := 20) rfl v18 rfl (fun _ hj => absurd hj Bool.false_ne_true) (by decide) (by decide) (by decide) dL_law_15 (by omega) (by omega) ?_
    refine k_astore_n C dL_law_17 (by decide) rfl ?_
    refine k_bipush (v := nI 36) C dL_law_18 (by decide) ?_
    refine k_newaI C K (19, 0, 0) (nn := 36) rfl v19 rfl (fun _ hj => absurd hj Bool.false_ne_true) (by decide) (by decide) (by decide) dL_law_20 (by omega) (by omega) ?_
    refine k_astore C dL_law_22 (by decide) rfl ?_
    refine k_bipush (v := nI 48) C dL_law_24 (by decide) ?_
    refine k_newaI C K (20, 0, 0) (nn := 48) rfl v20 rfl (fun _ hj => absurd hj Bool.false_ne_true) (by decide) (by decide) (by decide) dL_law_26 (by omega) (by omega) ?_
    refine k_astore C dL_law_28 (by decide) rfl ?_
    refine k_iconst (v := nI 5) C dL_law_30 (by decide) ?_
    refine k_newaI C K (21, 0, 0) (nn := 5) rfl v21 rfl (fun _ hj => absurd hj Bool.false_ne_true) (by decide) (by decide) (by decide) dL_law_31 (by omega) (by omega) ?_
    refine k_astore C dL_law_33 (by decide) rfl ?_
    exact GK.to hgo (by omega) (by omega) (by omega) (by omega)
  have hst : ([Value.ref b] : List Value) = [rv (99, 0, 0)].map (vv E) := by
    show _ = [Value.ref (E.2.1 (99, 0, 0))]
    rw [hE9]
  rw [hXd] at hall
  have hres := hall _ s.heap [] (me_entry E [rv (99, 0, 0)] 19 (by decide)) ⟨rfl, fun id hv h => absurd h (Nat.not_lt_zero _)⟩ va_S.rf
  have hent : entryFrame m ([Value.ref b] : List Value).toArray 19 = F0 m 0 (((([rv (99, 0, 0)] : List VV).map (vv E)).map Slot.val ++ List.replicate (19 - (([rv (99, 0, 0)] : List VV).map (vv E)).length) Slot.unset).toArray) [] := by
    rw [hst]
    exact entry_eq m ([rv (99, 0, 0)].map (vv E)) (fun v hv => by obtain ⟨x, -, rfl⟩ := List.mem_map.mp hv; exact vv_cat E x) 19
  rw [hent]
  exact hres
-- ===== YOUR PART ENDS =====
set_option maxHeartbeats 4000000 in
theorem lw_walk (l : Launch) (hflags : l.flags = flags0) (b : Addr) (xs : List Int32) : MetFree l x (headSpec (Jvm.Cond.code x code maxLocals ret :: tables_1) room_1) (lw_P b xs) (fun _ _ _ _ _ => True) lw_Q := by
  refine MetFree.of_bodyS (code := code) (maxLocals := maxLocals) (ret := ret) (by decide) ?_ ?_
  · intro args s m h hn
    obtain ⟨meth, c, h1, h2, h3, h4, h5, h6, -, -⟩ := Cond.code_spec hn (atoms_spec (ws := Jvm.Cond.code x code maxLocals ret :: tables_1) h _ List.mem_cons_self)
    exact ⟨meth, c, h1, h2, h3, h4, h5, h6⟩
  · intro p e s m args below meth c s₁ B hml0 hP _
    obtain ⟨rfl, hx, hbd, hgv⟩ := hP
    obtain ⟨scr, harrAt, hlist, hof, hsmall⟩ := hx
    obtain ⟨hcb, hkn, -, -⟩ := State.arrayAt?_spec harrAt
    have hown : s.vm.findClass R_law = some m.cls := findClass_of_methodNamed B.named
    have hts0 : ∀ c ∈ (Jvm.Cond.code x code maxLocals ret :: tables_1), c.before #[Value.ref b] s = true := atoms_spec (ws := Jvm.Cond.code x code maxLocals ret :: tables_1) B.pre
    have hts : ∀ w ∈ lw_tbl, w.before #[Value.ref b] s = true := k2_hts_sels lw_privs (fun w hw => hts0 w (List.mem_cons_of_mem _ hw)) lw_privs_ok
    have hml : c.maxLocals = 19 := B.maxLocals_eq (hts0 _ List.mem_cons_self)
    have X₀ : Stand p l e room_1 s m #[Value.ref b] below meth c s₁ [] 0 0 := Stand.of_body B
    have hh0 : s₁.heap = s.heap := by rw [B.state]; rfl
    have hsz : scr.slots.size = xs.length := by rw [← Array.length_toList, hlist, List.length_map]
    have hval : ∀ j : Nat, j < xs.length → scr.slots[j]? = some (.int (xs.getD j 0)) := fun j hj => by
      rw [← Array.getElem?_toList, hlist]
      simp [hj]
    have hbl : b < s.heap.size := (Array.getElem?_eq_some_iff.mp hcb).1
    have hX : va_X b xs.length (fun j => xs.getD j 0) s s.heap := ⟨scr, hcb, hof, hkn, hsz, hval⟩
    have K : W p l e room_1 s m #[Value.ref b] below meth c s₁.heap [] 0 0 (lw_Z below #[Value.ref b] s) (entryFrame m ([Value.ref b] : List Value).toArray 19) := by
      rw [hh0]
      exact whole_start l hflags hbd ⟨B.exec, B.bytes, B.returns, hml, hown, hts, hX, hbl, B.notSynchronized, hgv⟩
    obtain ⟨t, a1, o, b1, b2, b3⟩ := K s₁ rfl X₀
    exact ⟨t, o, a1, b1, b2, b3⟩
theorem lw_pre_spec {args : Array Value} {s : State} (h : (Jvm.Cond.and given_1 narrow_1).before args s = true) (hr : rest_1_c.before args s = true) : ∃ (b : Addr) (xs : List Int32), lw_P b xs args s := by
  have hs := flat_of_before _ h
  have hq := flat_of_before _ hr
  have hc : (Cond.count 1).before args s = true := hs _ (by decide +kernel)
  have harr : (Cond.arrayOf (.arg 0) .int).before args s = true := hs _ (by decide +kernel)
  have hle : (Cond.le (.length (.arg 0)) (.int 260)).before args s = true := hs _ (by decide +kernel)
  have hlen : (Cond.isInt (.length (.arg 0))).before args s = true := hq _ (by decide +kernel)
  have hall : (Cond.all (.arg 0) (.isInt (.elem (.arg 0) (.index 0)))).before args s = true := hq _ (by decide +kernel)
  obtain ⟨b, xs, hb, hx⟩ := State.ints_of_pre rfl harr hlen hall
  have hsm : xs.length < 2 ^ 31 := hx.choose_spec.2.2.2
  have hev : (Term.length (.arg 0)).eval args s none [] s = some (.int xs.length.toInt32) := hx.length_eval hb
  have hv := Cond.le_ints hev (show (Term.int 260).eval args s none [] s = some (.int 260) from rfl)
  have hd : xs.length.toInt32 ≤ 260 := by
    simpa [Cond.before, Cond.holds, hv] using hle
  have hN : xs.length ≤ 260 := (Int32.ofNat_le_ofNat hsm (by decide)).mp (show Int32.ofNat xs.length ≤ Int32.ofNat 260 from hd)
  exact ⟨b, xs, Cond.one_arg hc (show args[0]? = some (.ref b) from hb), hx, hN, h⟩
theorem lw_comes (l : Launch) (hflags : l.flags = flags0) : Comes l x (Jvm.Cond.code x code maxLocals ret :: tables_1) room_1 (fun tb e args s => Calls_1 tb e args s ∧ rest_1 tb e args s ∧ Pre_1 tb e args s)
    (fun _ _ args s o t => lw_Q args s o t) := by
  intro p e ha hc hk s m args below hf hfit hheap happ hpre
  obtain ⟨b, xs, hP⟩ := lw_pre_spec hpre.2.2 hpre.2.1
  obtain ⟨k, o, h1, h2, h3, hQ⟩ := lw_walk l hflags b xs p e ha hc hk s m args below hf ((Spec.applies_iff_loose hf).mp happ).1 hP trivial
  exact ⟨k, o, h1, h2, h3, hQ⟩
theorem lw_frame {s t : State} {o : Outcome} {args : Array Value} (h : Framed s o t [] 600000 7302250) :
    Framed s o t (fieldLocs frame_1_writes args s ++ arrayLocs frame_1_arrays args s ++ staticLocs frame_1_statics s) 600000 7302250 := h
theorem lw_limb (L : Cond) (hL : ∀ (args : Array Value) (s t : State), L.after args s (.returned (some (.int 1))) t = true) :
    ArmFor flags0 classFile x code maxLocals ret World_1 tables_1 room_1 Calls_1 rest_1 Pre_1
      (fun tb e a s o t => postC L tb e a s o t ∧ Framed s o t (fieldLocs frame_1_writes a s ++ arrayLocs frame_1_arrays a s ++ staticLocs frame_1_statics s) 600000 7302250) := by
  intro l hflags _ _ p e ha hc hk s m args below hf hfit hheap happ hpre
  obtain ⟨k, o, h1, h2, h3, rfl, hF⟩ := lw_comes l hflags p e ha hc hk s m args below hf hfit hheap happ hpre
  exact ⟨k, _, h1, h2, h3, hL args s _, lw_frame hF⟩
theorem i_vc : Claimed_1_1 ∧ Claimed_1_2 := ⟨lw_limb limb_1_1 (fun args s t => by simp [limb_1_1, Cond.after, Cond.holds, Cond.value]), lw_limb limb_1_2 (fun args s t => Cond.after_iff.mpr (by
  first | (rw [show limb_1_2 = Cond.eq .result (.int 1) from rfl, Cond.eq_ints (x := 1) (y := 1) rfl rfl]; simp; done) | (simp [limb_1_2, Cond.value, Term.eval]; done)))⟩

