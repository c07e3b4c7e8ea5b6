/-! ===== handy forms of the engine's rows ===== -/
noncomputable def b2i (p : Prop) : Int32 := @ite Int32 p (Classical.propDecidable p) 1 0
theorem b2i_pos {p : Prop} (h : p) : b2i p = 1 := if_pos h
theorem b2i_neg {p : Prop} (h : ¬ p) : b2i p = 0 := if_neg h
theorem b2i_ne {p : Prop} : b2i p ≠ 0 ↔ p := by
  by_cases h : p
  · rw [b2i_pos h]; exact ⟨fun _ => h, fun _ => by decide⟩
  · rw [b2i_neg h]; exact ⟨fun q => absurd rfl q, fun q => absurd q h⟩
theorem b2i_eq {p : Prop} : b2i p = 0 ↔ ¬ p := by
  by_cases h : p
  · rw [b2i_pos h]; exact ⟨fun q => absurd q (by decide), fun q => absurd h q⟩
  · rw [b2i_neg h]; exact ⟨fun _ => h, fun _ => rfl⟩
theorem b2i_01 (p : Prop) : b2i p = 0 ∨ b2i p = 1 := by
  by_cases h : p
  · exact Or.inr (b2i_pos h)
  · exact Or.inl (b2i_neg h)
theorem b2i_congr {p q : Prop} (h : p ↔ q) : b2i p = b2i q := by rw [propext h]
theorem v0 : vd (0, 0, 0) := ⟨by decide, by decide⟩
theorem v12 : vd (12, 0, 0) := ⟨by decide, by decide⟩
theorem v13 : vd (13, 0, 0) := ⟨by decide, by decide⟩
theorem v14 : vd (14, 0, 0) := ⟨by decide, by decide⟩
theorem v15 : vd (15, 0, 0) := ⟨by decide, by decide⟩
theorem v16 : vd (16, 0, 0) := ⟨by decide, by decide⟩
theorem v17 : vd (17, 0, 0) := ⟨by decide, by decide⟩
theorem v18 : vd (18, 0, 0) := ⟨by decide, by decide⟩
theorem v19 : vd (19, 0, 0) := ⟨by decide, by decide⟩
theorem v20 : vd (20, 0, 0) := ⟨by decide, by decide⟩
theorem v21 : vd (21, 0, 0) := ⟨by decide, by decide⟩

theorem v1 {k : Nat} (h : k < 8) : vd (1, k, 0) := ⟨h, Nat.zero_lt_one⟩
theorem v2 {k : Nat} (h : k < 8) : vd (2, k, 0) := ⟨h, Nat.zero_lt_one⟩
theorem v3 {k : Nat} (h : k < 8) : vd (3, k, 0) := ⟨h, Nat.zero_lt_one⟩
theorem v4 {k : Nat} (h : k < 8) : vd (4, k, 0) := ⟨h, Nat.zero_lt_one⟩
theorem v5 {k : Nat} (h : k < 8) : vd (5, k, 0) := ⟨h, Nat.zero_lt_one⟩
theorem v6 {k : Nat} (h : k < 8) : vd (6, k, 0) := ⟨h, Nat.zero_lt_one⟩
theorem v7 {k : Nat} (h : k < 8) : vd (7, k, 0) := ⟨h, Nat.zero_lt_one⟩
theorem v8 {k r : Nat} (h : k < 8) (hr : r < 5) : vd (8, k, r) := ⟨h, hr⟩
theorem v9 {k r : Nat} (h : k < 8) (hr : r < 8) : vd (9, k, r) := ⟨h, hr⟩
theorem v10 {k r : Nat} (h : k < 8) (hr : r < 8) : vd (10, k, r) := ⟨h, hr⟩
theorem v11 {k r : Nat} (h : k < 8) (hr : r < 8) : vd (11, k, r) := ⟨h, hr⟩
def OptQ (P : ID → Prop) (N : Prop) (mem : MEM) : VV → MEM → Prop := fun r m => m = mem ∧ ((∃ i, P i ∧ r = rv i) ∨ (N ∧ r = nv))
theorem OptQ.yes {P : ID → Prop} {N : Prop} {mem : MEM} {i : ID} (h : P i) : OptQ P N mem (some (.inr (some i))) mem := ⟨rfl, Or.inl ⟨i, h, rfl⟩⟩
theorem OptQ.no {P : ID → Prop} {N : Prop} {mem : MEM} (h : N) : OptQ P N mem (some (.inr none)) mem := ⟨rfl, Or.inr ⟨h, rfl⟩⟩
section MH
variable {E : EV} {X : CX} {own : String} {cc : ByteArray} {nL : Nat} {ret : Option FieldType} {dep pc : Nat} {ls st : List VV} {mem : MEM}
theorem f_istore_n (C : CK E X own cc nL ret dep) {k : Fin 4} {x : Int32} {ls1 : List VV} (hdg : decode cc pc = .ok (.istore_n k, 1)) (hn : (k : Nat) < nL) (hs : ls.set (k : Nat) (iv x) = ls1) (h : G E X nL (pc + 1) ls1 st mem) : G E X nL pc ls (iv x :: st) mem := e_istore_n C hdg hn (hs ▸ h)
theorem f_istore (C : CK E X own cc nL ret dep) {k : Nat} {x : Int32} {ls1 : List VV} (hdg : decode cc pc = .ok (.istore k, 2)) (hn : k < nL) (hs : ls.set k (iv x) = ls1) (h : G E X nL (pc + 2) ls1 st mem) : G E X nL pc ls (iv x :: st) mem := e_istore C hdg hn (hs ▸ h)
theorem f_astore_n (C : CK E X own cc nL ret dep) {k : Fin 4} {x : ID} {ls1 : List VV} (hdg : decode cc pc = .ok (.astore_n k, 1)) (hn : (k : Nat) < nL) (hs : ls.set (k : Nat) (rv x) = ls1) (h : G E X nL (pc + 1) ls1 st mem) : G E X nL pc ls (rv x :: st) mem := e_astore_n C hdg hn (hs ▸ h)
theorem f_astore_nN (C : CK E X own cc nL ret dep) {k : Fin 4} {ls1 : List VV} (hdg : decode cc pc = .ok (.astore_n k, 1)) (hn : (k : Nat) < nL) (hs : ls.set (k : Nat) nv = ls1) (h : G E X nL (pc + 1) ls1 st mem) : G E X nL pc ls (nv :: st) mem := e_astore_nN C hdg hn (hs ▸ h)
theorem f_astore (C : CK E X own cc nL ret dep) {k : Nat} {x : ID} {ls1 : List VV} (hdg : decode cc pc = .ok (.astore k, 2)) (hn : k < nL) (hs : ls.set k (rv x) = ls1) (h : G E X nL (pc + 2) ls1 st mem) : G E X nL pc ls (rv x :: st) mem := e_astore C hdg hn (hs ▸ h)
theorem f_astoreN (C : CK E X own cc nL ret dep) {k : Nat} {ls1 : List VV} (hdg : decode cc pc = .ok (.astore k, 2)) (hn : k < nL) (hs : ls.set k nv = ls1) (h : G E X nL (pc + 2) ls1 st mem) : G E X nL pc ls (nv :: st) mem := e_astoreN C hdg hn (hs ▸ h)
theorem f_iinc (C : CK E X own cc nL ret dep) {k : Nat} {x : Int32} {ls1 : List VV} (hdg : decode cc pc = .ok (.iinc k 1, 3)) (hl : ls[k]? = some (iv x)) (hn : k < nL) (hs : ls.set k (iv (x + 1)) = ls1) (h : G E X nL (pc + 3) ls1 st mem) : G E X nL pc ls st mem := e_iinc C hdg hl rfl hn (hs ▸ h)
theorem f_iincn (C : CK E X own cc nL ret dep) {k i : Nat} {ls1 : List VV} (hdg : decode cc pc = .ok (.iinc k 1, 3)) (hl : ls[k]? = some (iv (nI i))) (hn : k < nL) (hs : ls.set k (iv (nI (i + 1))) = ls1) (h : G E X nL (pc + 3) ls1 st mem) : G E X nL pc ls st mem := e_iinc C hdg hl (nI_succ i).symm hn (hs ▸ h)
theorem f_idec (C : CK E X own cc nL ret dep) {k i : Nat} {ls1 : List VV} (hdg : decode cc pc = .ok (.iinc k (-1), 3)) (hl : ls[k]? = some (iv (nI (i + 1)))) (hn : k < nL) (hs : ls.set k (iv (nI i)) = ls1) (h : G E X nL (pc + 3) ls1 st mem) : G E X nL pc ls st mem := e_iinc C hdg hl (by rw [nI_succ]; show nI i + 1 + -1 = nI i; rw [Int32.add_assoc]; show nI i + 0 = nI i; exact Int32.add_zero _) hn (hs ▸ h)
theorem f_if_ne (C : CK E X own cc nL ret dep) {p : Prop} {off : Int} {tgt : Nat} (hdg : decode cc pc = .ok (.ifCond .ne off, 3)) (ht : (pc : Int) + off = (tgt : Int)) (kt : p → G E X nL tgt ls st mem) (kf : ¬ p → G E X nL (pc + 3) ls st mem) : G E X nL pc ls (iv (b2i p) :: st) mem := e_if_ne C hdg ht (fun q => kt (b2i_ne.mp q)) (fun q => kf (b2i_eq.mp q))
theorem f_if_eq (C : CK E X own cc nL ret dep) {p : Prop} {off : Int} {tgt : Nat} (hdg : decode cc pc = .ok (.ifCond .eq off, 3)) (ht : (pc : Int) + off = (tgt : Int)) (kt : ¬ p → G E X nL tgt ls st mem) (kf : p → G E X nL (pc + 3) ls st mem) : G E X nL pc ls (iv (b2i p) :: st) mem := e_if_eq C hdg ht (fun q => kt (b2i_eq.mp q)) (fun q => kf (b2i_ne.mp q))
theorem f_callVr (C : CK E X own cc nL ret dep) {y2 : MethodName} {cc2 : ByteArray} {nL2 index ci N dep2 : Nat} {ret2 : Option FieldType} {RC : String} {T : u_T} {id : ID} {As rest : List VV} {x : Int32 ⊕ Option ID} {m1 : MEM} (mi : MI y2 cc2 nL2 ret2 RC As.length) (mv : MV y2 RC) (ml : Cond.methodLink own index y2 ∈ BW) (hdg : decode cc pc = .ok (.invokevirtual index, 3)) (hst : st = As.reverse ++ rv id :: rest) (hM : Ct E X.2.1 y2 (me_ws y2 cc2 nL2 ret2) dep2 (rv id :: As) mem (Ret (some x) m1)) (hdep : dep2 + 1 ≤ dep) (hv : vd id) (hk : me_kd id.1 = .inl ci) (hc : vwCl[ci]? = some (RC, T, N)) (hrest : rest.length ≤ 8) (h : G E X nL (pc + 3) ls (some x :: rest) m1) : G E X nL pc ls st mem := e_callV C mi mv ml hdg hst hM hdep hv hk hc hrest (fun r m q => by obtain ⟨rfl, rfl⟩ := q; exact h)
theorem f_callVv (C : CK E X own cc nL ret dep) {y2 : MethodName} {cc2 : ByteArray} {nL2 index ci N dep2 : Nat} {ret2 : Option FieldType} {RC : String} {T : u_T} {id : ID} {As rest : List VV} {m1 : MEM} (mi : MI y2 cc2 nL2 ret2 RC As.length) (mv : MV y2 RC) (ml : Cond.methodLink own index y2 ∈ BW) (hdg : decode cc pc = .ok (.invokevirtual index, 3)) (hst : st = As.reverse ++ rv id :: rest) (hM : Ct E X.2.1 y2 (me_ws y2 cc2 nL2 ret2) dep2 (rv id :: As) mem (Ret uv m1)) (hdep : dep2 + 1 ≤ dep) (hv : vd id) (hk : me_kd id.1 = .inl ci) (hc : vwCl[ci]? = some (RC, T, N)) (hrest : rest.length ≤ 8) (h : G E X nL (pc + 3) ls rest m1) : G E X nL pc ls st mem := e_callV C mi mv ml hdg hst hM hdep hv hk hc hrest (fun r m q => by obtain ⟨rfl, rfl⟩ := q; exact h)
theorem f_callVo (C : CK E X own cc nL ret dep) {y2 : MethodName} {cc2 : ByteArray} {nL2 index ci N dep2 : Nat} {ret2 : Option FieldType} {RC : String} {T : u_T} {id : ID} {As rest : List VV} {P : ID → Prop} {Nn : Prop} (mi : MI y2 cc2 nL2 ret2 RC As.length) (mv : MV y2 RC) (ml : Cond.methodLink own index y2 ∈ BW) (hdg : decode cc pc = .ok (.invokevirtual index, 3)) (hst : st = As.reverse ++ rv id :: rest) (hM : Ct E X.2.1 y2 (me_ws y2 cc2 nL2 ret2) dep2 (rv id :: As) mem (OptQ P Nn mem)) (hdep : dep2 + 1 ≤ dep) (hv : vd id) (hk : me_kd id.1 = .inl ci) (hc : vwCl[ci]? = some (RC, T, N)) (hrest : rest.length ≤ 8) (h1 : ∀ i, P i → G E X nL (pc + 3) ls (rv i :: rest) mem) (h2 : Nn → G E X nL (pc + 3) ls (nv :: rest) mem) : G E X nL pc ls st mem := e_callV C mi mv ml hdg hst hM hdep hv hk hc hrest (fun r m q => by obtain ⟨rfl, ⟨i, hi, rfl⟩ | ⟨hi, rfl⟩⟩ := q; exact h1 i hi; exact h2 hi)
theorem f_callVi (C : CK E X own cc nL ret dep) {y2 : MethodName} {cc2 : ByteArray} {nL2 index ci N dep2 : Nat} {ret2 : Option FieldType} {RC : String} {T : u_T} {id : ID} {As rest : List VV} {P : Int32 → MEM → Prop} (mi : MI y2 cc2 nL2 ret2 RC As.length) (mv : MV y2 RC) (ml : Cond.methodLink own index y2 ∈ BW) (hdg : decode cc pc = .ok (.invokevirtual index, 3)) (hst : st = As.reverse ++ rv id :: rest) (hM : Ct E X.2.1 y2 (me_ws y2 cc2 nL2 ret2) dep2 (rv id :: As) mem (fun r m => ∃ x : Int32, r = iv x ∧ P x m)) (hdep : dep2 + 1 ≤ dep) (hv : vd id) (hk : me_kd id.1 = .inl ci) (hc : vwCl[ci]? = some (RC, T, N)) (hrest : rest.length ≤ 8) (h1 : ∀ (x : Int32) (m : MEM), P x m → G E X nL (pc + 3) ls (iv x :: rest) m) : G E X nL pc ls st mem := e_callV C mi mv ml hdg hst hM hdep hv hk hc hrest (fun r m q => by obtain ⟨x, rfl, hi⟩ := q; exact h1 x m hi)
theorem f_callVu (C : CK E X own cc nL ret dep) {y2 : MethodName} {cc2 : ByteArray} {nL2 index ci N dep2 : Nat} {ret2 : Option FieldType} {RC : String} {T : u_T} {id : ID} {As rest : List VV} {P : MEM → Prop} (mi : MI y2 cc2 nL2 ret2 RC As.length) (mv : MV y2 RC) (ml : Cond.methodLink own index y2 ∈ BW) (hdg : decode cc pc = .ok (.invokevirtual index, 3)) (hst : st = As.reverse ++ rv id :: rest) (hM : Ct E X.2.1 y2 (me_ws y2 cc2 nL2 ret2) dep2 (rv id :: As) mem (fun r m => r = uv ∧ P m)) (hdep : dep2 + 1 ≤ dep) (hv : vd id) (hk : me_kd id.1 = .inl ci) (hc : vwCl[ci]? = some (RC, T, N)) (hrest : rest.length ≤ 8) (h1 : ∀ (m : MEM), P m → G E X nL (pc + 3) ls rest m) : G E X nL pc ls st mem := e_callV C mi mv ml hdg hst hM hdep hv hk hc hrest (fun r m q => by obtain ⟨rfl, hi⟩ := q; exact h1 m hi)
theorem f_callSr (C : CK E X own cc nL ret dep) {y2 : MethodName} {cc2 : ByteArray} {nL2 index dep2 : Nat} {ret2 : Option FieldType} {RC : String} {As rest : List VV} {x : Int32 ⊕ Option ID} {m1 : MEM} (mi : MI y2 cc2 nL2 ret2 RC As.length) (ms : Cond.static y2 ∈ BW) (ml : Cond.methodLink own index y2 ∈ BW) (hdg : decode cc pc = .ok (.invokestatic index, 3)) (hst : st = As.reverse ++ rest) (hM : Ct E X.2.1 y2 (me_ws y2 cc2 nL2 ret2) dep2 As mem (Ret (some x) m1)) (hdep : dep2 + 1 ≤ dep) (hrest : rest.length ≤ 8) (h : G E X nL (pc + 3) ls (some x :: rest) m1) : G E X nL pc ls st mem := e_callS C mi ms ml hdg hst hM hdep hrest (fun r m q => by obtain ⟨rfl, rfl⟩ := q; exact h)
theorem f_callSv (C : CK E X own cc nL ret dep) {y2 : MethodName} {cc2 : ByteArray} {nL2 index dep2 : Nat} {ret2 : Option FieldType} {RC : String} {As rest : List VV} {m1 : MEM} (mi : MI y2 cc2 nL2 ret2 RC As.length) (ms : Cond.static y2 ∈ BW) (ml : Cond.methodLink own index y2 ∈ BW) (hdg : decode cc pc = .ok (.invokestatic index, 3)) (hst : st = As.reverse ++ rest) (hM : Ct E X.2.1 y2 (me_ws y2 cc2 nL2 ret2) dep2 As mem (Ret uv m1)) (hdep : dep2 + 1 ≤ dep) (hrest : rest.length ≤ 8) (h : G E X nL (pc + 3) ls rest m1) : G E X nL pc ls st mem := e_callS C mi ms ml hdg hst hM hdep hrest (fun r m q => by obtain ⟨rfl, rfl⟩ := q; exact h)
theorem f_callSo (C : CK E X own cc nL ret dep) {y2 : MethodName} {cc2 : ByteArray} {nL2 index dep2 : Nat} {ret2 : Option FieldType} {RC : String} {As rest : List VV} {P : ID → Prop} {Nn : Prop} (mi : MI y2 cc2 nL2 ret2 RC As.length) (ms : Cond.static y2 ∈ BW) (ml : Cond.methodLink own index y2 ∈ BW) (hdg : decode cc pc = .ok (.invokestatic index, 3)) (hst : st = As.reverse ++ rest) (hM : Ct E X.2.1 y2 (me_ws y2 cc2 nL2 ret2) dep2 As mem (OptQ P Nn mem)) (hdep : dep2 + 1 ≤ dep) (hrest : rest.length ≤ 8) (h1 : ∀ i, P i → G E X nL (pc + 3) ls (rv i :: rest) mem) (h2 : Nn → G E X nL (pc + 3) ls (nv :: rest) mem) : G E X nL pc ls st mem := e_callS C mi ms ml hdg hst hM hdep hrest (fun r m q => by obtain ⟨rfl, ⟨i, hi, rfl⟩ | ⟨hi, rfl⟩⟩ := q; exact h1 i hi; exact h2 hi)
theorem f_callSi (C : CK E X own cc nL ret dep) {y2 : MethodName} {cc2 : ByteArray} {nL2 index dep2 : Nat} {ret2 : Option FieldType} {RC : String} {As rest : List VV} {P : Int32 → MEM → Prop} (mi : MI y2 cc2 nL2 ret2 RC As.length) (ms : Cond.static y2 ∈ BW) (ml : Cond.methodLink own index y2 ∈ BW) (hdg : decode cc pc = .ok (.invokestatic index, 3)) (hst : st = As.reverse ++ rest) (hM : Ct E X.2.1 y2 (me_ws y2 cc2 nL2 ret2) dep2 As mem (fun r m => ∃ x : Int32, r = iv x ∧ P x m)) (hdep : dep2 + 1 ≤ dep) (hrest : rest.length ≤ 8) (h1 : ∀ (x : Int32) (m : MEM), P x m → G E X nL (pc + 3) ls (iv x :: rest) m) : G E X nL pc ls st mem := e_callS C mi ms ml hdg hst hM hdep hrest (fun r m q => by obtain ⟨x, rfl, hi⟩ := q; exact h1 x m hi)
theorem f_callSu (C : CK E X own cc nL ret dep) {y2 : MethodName} {cc2 : ByteArray} {nL2 index dep2 : Nat} {ret2 : Option FieldType} {RC : String} {As rest : List VV} {P : MEM → Prop} (mi : MI y2 cc2 nL2 ret2 RC As.length) (ms : Cond.static y2 ∈ BW) (ml : Cond.methodLink own index y2 ∈ BW) (hdg : decode cc pc = .ok (.invokestatic index, 3)) (hst : st = As.reverse ++ rest) (hM : Ct E X.2.1 y2 (me_ws y2 cc2 nL2 ret2) dep2 As mem (fun r m => r = uv ∧ P m)) (hdep : dep2 + 1 ≤ dep) (hrest : rest.length ≤ 8) (h1 : ∀ (m : MEM), P m → G E X nL (pc + 3) ls rest m) : G E X nL pc ls st mem := e_callS C mi ms ml hdg hst hM hdep hrest (fun r m q => by obtain ⟨rfl, hi⟩ := q; exact h1 m hi)
theorem f_callNr (C : CK E X own cc nL ret dep) {y2 : MethodName} {cc2 : ByteArray} {nL2 index dep2 : Nat} {ret2 : Option FieldType} {RC host : String} {As rest : List VV} {x : Int32 ⊕ Option ID} {m1 : MEM} (mi : MI y2 cc2 nL2 ret2 RC As.length) (ms : Cond.static y2 ∈ BW) (ml : Cond.methodLinkNest own index y2 host ∈ nestWs) (hdg : decode cc pc = .ok (.invokestatic index, 3)) (hst : st = As.reverse ++ rest) (hM : Ct E X.2.1 y2 (me_ws y2 cc2 nL2 ret2) dep2 As mem (Ret (some x) m1)) (hdep : dep2 + 1 ≤ dep) (hrest : rest.length ≤ 8) (h : G E X nL (pc + 3) ls (some x :: rest) m1) : G E X nL pc ls st mem := e_callN C mi ms ml hdg hst hM hdep hrest (fun r m q => by obtain ⟨rfl, rfl⟩ := q; exact h)
theorem f_callNv (C : CK E X own cc nL ret dep) {y2 : MethodName} {cc2 : ByteArray} {nL2 index dep2 : Nat} {ret2 : Option FieldType} {RC host : String} {As rest : List VV} {m1 : MEM} (mi : MI y2 cc2 nL2 ret2 RC As.length) (ms : Cond.static y2 ∈ BW) (ml : Cond.methodLinkNest own index y2 host ∈ nestWs) (hdg : decode cc pc = .ok (.invokestatic index, 3)) (hst : st = As.reverse ++ rest) (hM : Ct E X.2.1 y2 (me_ws y2 cc2 nL2 ret2) dep2 As mem (Ret uv m1)) (hdep : dep2 + 1 ≤ dep) (hrest : rest.length ≤ 8) (h : G E X nL (pc + 3) ls rest m1) : G E X nL pc ls st mem := e_callN C mi ms ml hdg hst hM hdep hrest (fun r m q => by obtain ⟨rfl, rfl⟩ := q; exact h)
theorem f_callNo (C : CK E X own cc nL ret dep) {y2 : MethodName} {cc2 : ByteArray} {nL2 index dep2 : Nat} {ret2 : Option FieldType} {RC host : String} {As rest : List VV} {P : ID → Prop} {Nn : Prop} (mi : MI y2 cc2 nL2 ret2 RC As.length) (ms : Cond.static y2 ∈ BW) (ml : Cond.methodLinkNest own index y2 host ∈ nestWs) (hdg : decode cc pc = .ok (.invokestatic index, 3)) (hst : st = As.reverse ++ rest) (hM : Ct E X.2.1 y2 (me_ws y2 cc2 nL2 ret2) dep2 As mem (OptQ P Nn mem)) (hdep : dep2 + 1 ≤ dep) (hrest : rest.length ≤ 8) (h1 : ∀ i, P i → G E X nL (pc + 3) ls (rv i :: rest) mem) (h2 : Nn → G E X nL (pc + 3) ls (nv :: rest) mem) : G E X nL pc ls st mem := e_callN C mi ms ml hdg hst hM hdep hrest (fun r m q => by obtain ⟨rfl, ⟨i, hi, rfl⟩ | ⟨hi, rfl⟩⟩ := q; exact h1 i hi; exact h2 hi)
theorem f_callNi (C : CK E X own cc nL ret dep) {y2 : MethodName} {cc2 : ByteArray} {nL2 index dep2 : Nat} {ret2 : Option FieldType} {RC host : String} {As rest : List VV} {P : Int32 → MEM → Prop} (mi : MI y2 cc2 nL2 ret2 RC As.length) (ms : Cond.static y2 ∈ BW) (ml : Cond.methodLinkNest own index y2 host ∈ nestWs) (hdg : decode cc pc = .ok (.invokestatic index, 3)) (hst : st = As.reverse ++ rest) (hM : Ct E X.2.1 y2 (me_ws y2 cc2 nL2 ret2) dep2 As mem (fun r m => ∃ x : Int32, r = iv x ∧ P x m)) (hdep : dep2 + 1 ≤ dep) (hrest : rest.length ≤ 8) (h1 : ∀ (x : Int32) (m : MEM), P x m → G E X nL (pc + 3) ls (iv x :: rest) m) : G E X nL pc ls st mem := e_callN C mi ms ml hdg hst hM hdep hrest (fun r m q => by obtain ⟨x, rfl, hi⟩ := q; exact h1 x m hi)
theorem f_callNu (C : CK E X own cc nL ret dep) {y2 : MethodName} {cc2 : ByteArray} {nL2 index dep2 : Nat} {ret2 : Option FieldType} {RC host : String} {As rest : List VV} {P : MEM → Prop} (mi : MI y2 cc2 nL2 ret2 RC As.length) (ms : Cond.static y2 ∈ BW) (ml : Cond.methodLinkNest own index y2 host ∈ nestWs) (hdg : decode cc pc = .ok (.invokestatic index, 3)) (hst : st = As.reverse ++ rest) (hM : Ct E X.2.1 y2 (me_ws y2 cc2 nL2 ret2) dep2 As mem (fun r m => r = uv ∧ P m)) (hdep : dep2 + 1 ≤ dep) (hrest : rest.length ≤ 8) (h1 : ∀ (m : MEM), P m → G E X nL (pc + 3) ls rest m) : G E X nL pc ls st mem := e_callN C mi ms ml hdg hst hM hdep hrest (fun r m q => by obtain ⟨rfl, hi⟩ := q; exact h1 m hi)
theorem e_getz (C : CK E X own cc nL ret dep) {id : ID} {ci N index : Nat} {RC : String} {T : u_T} (j : Nat) (hk : me_kd id.1 = .inl ci) (hc : vwCl[ci]? = some (RC, T, N)) (hNf : me_nf ci = N) (hj : j < N) (hin : ∀ w ∈ u_ws RC T N, w ∈ BW) (ho : (T j).1 = RC) (hl : Cond.fieldLink own index RC (T j).2.1 (T j).2.2.1 ∈ BW) (hv : vd id) (hs : me_sl id j = none) (hbo : me_bo id.1 j = true) (hdg : decode cc pc = .ok (.getfield index, 3)) (h : (mem id j = 0 ∨ mem id j = 1) → G E X nL (pc + 3) ls (iv (mem id j) :: st) mem) : G E X nL pc ls (rv id :: st) mem := e_bool j hv hbo (fun q => e_geti C j hk hc hNf hj hin ho hl hv hs hdg (h q))
theorem f_iald (C : CK E X own cc nL ret dep) {id : ID} {n : Nat} (hk : me_kd id.1 = .inr (0, n)) (hv : vd id) {j : Nat} (hj : j < n) (hn : n < 2 ^ 31) (hdg : decode cc pc = .ok (.iaload, 1)) (h : G E X nL (pc + 1) ls (iv (mem id j) :: st) mem) : G E X nL pc ls (iv (nI j) :: rv id :: st) mem :=
  e_iald C hk hv (nI_in hj hn) hdg (by rw [nI_clamp (Nat.lt_trans hj hn)]; exact h)
theorem f_iast (C : CK E X own cc nL ret dep) {id : ID} {n : Nat} (hk : me_kd id.1 = .inr (0, n)) (hv : vd id) {j : Nat} {x : Int32} (hj : j < n) (hn : n < 2 ^ 31) (hdg : decode cc pc = .ok (.iastore, 1)) (h : G E X nL (pc + 1) ls st (up mem id j x)) : G E X nL pc ls (iv x :: iv (nI j) :: rv id :: st) mem :=
  e_iast C hk hv (nI_in hj hn) hdg (by rw [nI_clamp (Nat.lt_trans hj hn)]; exact h)
theorem f_aaldR (C : CK E X own cc nL ret dep) {k r : Nat} (hk : k < 8) (hr : r < 5) (hdg : decode cc pc = .ok (.aaload, 1)) (h : G E X nL (pc + 1) ls (rv (8, k, r) :: st) mem) : G E X nL pc ls (iv (nI r) :: rv (6, k, 0) :: st) mem :=
  e_aald (id := (6, k, 0)) (r := (8, k, r)) (n := 5) (ty := 2) (RC := "ReplicaSessions$Replica") C rfl (by decide) rfl (v6 hk) (nI_in hr (by decide)) (by rw [nI_clamp (Nat.lt_trans hr (by decide))]; rfl) hdg h
theorem f_aaldS (C : CK E X own cc nL ret dep) {k r : Nat} (hk : k < 8) (hr : r < 8) (hdg : decode cc pc = .ok (.aaload, 1)) (h : G E X nL (pc + 1) ls (rv (9, k, r) :: st) mem) : G E X nL pc ls (iv (nI r) :: rv (7, k, 0) :: st) mem :=
  e_aald (id := (7, k, 0)) (r := (9, k, r)) (n := 8) (ty := 3) (RC := "ReplicaSessions$Session") C rfl (by decide) rfl (v7 hk) (nI_in hr (by decide)) (by rw [nI_clamp (Nat.lt_trans hr (by decide))]; rfl) hdg h
theorem f_aaldH (C : CK E X own cc nL ret dep) {r : Nat} (hr : r < 6) (hdg : decode cc pc = .ok (.aaload, 1)) (h : G E X nL (pc + 1) ls (rv (1, r + 2, 0) :: st) mem) : G E X nL pc ls (iv (nI r) :: rv (13, 0, 0) :: st) mem :=
  e_aald (id := (13, 0, 0)) (r := (1, r + 2, 0)) (n := 6) (ty := 4) (RC := "ReplicaSessions$State") C rfl (by decide) rfl v13 (nI_in hr (by decide)) (by rw [nI_clamp (Nat.lt_trans hr (by decide))]; rfl) hdg h
end MH
section MHR
variable {E : EV} {X : CX} {own : String} {cc : ByteArray} {nL : Nat} {dep pc : Nat} {ls : List VV} {mem : MEM} {l : Launch} {Q : VV → MEM → Prop}
end MHR
theorem mi_yX6_init : MI yX6_init cX6_init 1 none RX6 0 := ⟨b_co_yX6_init, b_in_X6, rfl, ⟨by decide +kernel, by decide +kernel, by decide +kernel⟩, by decide, by decide +kernel⟩
theorem mi_yX4_init : MI yX4_init cX4_init 2 none RX4 0 := ⟨b_co_yX4_init, b_in_X4, rfl, ⟨by decide +kernel, by decide +kernel, by decide +kernel⟩, by decide, by decide +kernel⟩
theorem mi_yX1_init : MI yX1_init cX1_init 1 none RX1 0 := ⟨b_co_yX1_init, b_in_X1, rfl, ⟨by decide +kernel, by decide +kernel, by decide +kernel⟩, by decide, by decide +kernel⟩
theorem mi_yX2_init : MI yX2_init cX2_init 1 none RX2 0 := ⟨b_co_yX2_init, b_in_X2, rfl, ⟨by decide +kernel, by decide +kernel, by decide +kernel⟩, by decide, by decide +kernel⟩
theorem mi_yX3_init : MI yX3_init cX3_init 1 none RX3 0 := ⟨b_co_yX3_init, b_in_X3, rfl, ⟨by decide +kernel, by decide +kernel, by decide +kernel⟩, by decide, by decide +kernel⟩
theorem mi_yX0_init : MI yX0_init cX0_init 2 none RX0 0 := ⟨b_co_yX0_init, b_in_X0, rfl, ⟨by decide +kernel, by decide +kernel, by decide +kernel⟩, by decide, by decide +kernel⟩
theorem mi_yX5_init : MI yX5_init cX5_init 1 none RX5 0 := ⟨b_co_yX5_init, b_in_X5, rfl, ⟨by decide +kernel, by decide +kernel, by decide +kernel⟩, by decide, by decide +kernel⟩
theorem mi_yX6_addReplica : MI yX6_addReplica cX6_addReplica 3 (some .int) RX6 2 := ⟨b_co_yX6_addReplica, b_in_X6, rfl, ⟨by decide +kernel, by decide +kernel, by decide +kernel⟩, by decide, by decide +kernel⟩
theorem mv_yX6_addReplica : MV yX6_addReplica RX6 := ⟨b_in_yX6_addReplica, b_se_yX6_addReplica⟩
theorem mi_yX0_prepare : MI yX0_prepare cX0_prepare 3 none RX0 1 := ⟨b_co_yX0_prepare, b_in_X0, rfl, ⟨by decide +kernel, by decide +kernel, by decide +kernel⟩, by decide, by decide +kernel⟩
theorem mv_yX0_prepare : MV yX0_prepare RX0 := ⟨b_in_yX0_prepare, b_se_yX0_prepare⟩
theorem mi_yX0_stateAfterOldest : MI yX0_stateAfterOldest cX0_stateAfterOldest 3 (some (.object "ReplicaSessions$State")) RX0 1 := ⟨b_co_yX0_stateAfterOldest, b_in_X0, rfl, ⟨by decide +kernel, by decide +kernel, by decide +kernel⟩, by decide, by decide +kernel⟩
theorem mv_yX0_stateAfterOldest : MV yX0_stateAfterOldest RX0 := ⟨b_in_yX0_stateAfterOldest, b_se_yX0_stateAfterOldest⟩
theorem mi_yJ9_floorMod_7cf53 : MI yJ9_floorMod_7cf53 cJ9_floorMod_7cf53 3 (some .int) RJ9 2 := ⟨b_co_yJ9_floorMod_7cf53, b_in_J9, rfl, ⟨by decide +kernel, by decide +kernel, by decide +kernel⟩, by decide, by decide +kernel⟩
theorem mi_yX6_isWithin : MI yX6_isWithin cX6_isWithin 3 (some .boolean) RX6 3 := ⟨b_co_yX6_isWithin, b_in_X6, rfl, ⟨by decide +kernel, by decide +kernel, by decide +kernel⟩, by decide, by decide +kernel⟩
theorem mi_yX4_copyFrom : MI yX4_copyFrom cX4_copyFrom 5 none RX4 1 := ⟨b_co_yX4_copyFrom, b_in_X4, rfl, ⟨by decide +kernel, by decide +kernel, by decide +kernel⟩, by decide, by decide +kernel⟩
theorem mv_yX4_copyFrom : MV yX4_copyFrom RX4 := ⟨b_in_yX4_copyFrom, b_se_yX4_copyFrom⟩
theorem mi_yX1_copyFrom : MI yX1_copyFrom cX1_copyFrom 2 none RX1 1 := ⟨b_co_yX1_copyFrom, b_in_X1, rfl, ⟨by decide +kernel, by decide +kernel, by decide +kernel⟩, by decide, by decide +kernel⟩
theorem mv_yX1_copyFrom : MV yX1_copyFrom RX1 := ⟨b_in_yX1_copyFrom, b_se_yX1_copyFrom⟩
theorem mi_yX2_copyFrom : MI yX2_copyFrom cX2_copyFrom 2 none RX2 1 := ⟨b_co_yX2_copyFrom, b_in_X2, rfl, ⟨by decide +kernel, by decide +kernel, by decide +kernel⟩, by decide, by decide +kernel⟩
theorem mv_yX2_copyFrom : MV yX2_copyFrom RX2 := ⟨b_in_yX2_copyFrom, b_se_yX2_copyFrom⟩
theorem mi_yX3_copyFrom : MI yX3_copyFrom cX3_copyFrom 2 none RX3 1 := ⟨b_co_yX3_copyFrom, b_in_X3, rfl, ⟨by decide +kernel, by decide +kernel, by decide +kernel⟩, by decide, by decide +kernel⟩
theorem mv_yX3_copyFrom : MV yX3_copyFrom RX3 := ⟨b_in_yX3_copyFrom, b_se_yX3_copyFrom⟩
theorem mi_yX6_startReplica : MI yX6_startReplica cX6_startReplica 4 (some .int) RX6 2 := ⟨b_co_yX6_startReplica, b_in_X6, rfl, ⟨by decide +kernel, by decide +kernel, by decide +kernel⟩, by decide, by decide +kernel⟩
theorem mv_yX6_startReplica : MV yX6_startReplica RX6 := ⟨b_in_yX6_startReplica, b_se_yX6_startReplica⟩
theorem mi_yX4_positionOf : MI yX4_positionOf cX4_positionOf 3 (some .int) RX4 1 := ⟨b_co_yX4_positionOf, b_in_X4, rfl, ⟨by decide +kernel, by decide +kernel, by decide +kernel⟩, by decide, by decide +kernel⟩
theorem mv_yX4_positionOf : MV yX4_positionOf RX4 := ⟨b_in_yX4_positionOf, b_se_yX4_positionOf⟩
theorem mi_yX4_findReplica : MI yX4_findReplica cX4_findReplica 3 (some (.object "ReplicaSessions$Replica")) RX4 1 := ⟨b_co_yX4_findReplica, b_in_X4, rfl, ⟨by decide +kernel, by decide +kernel, by decide +kernel⟩, by decide, by decide +kernel⟩
theorem mv_yX4_findReplica : MV yX4_findReplica RX4 := ⟨b_in_yX4_findReplica, b_se_yX4_findReplica⟩
theorem mi_yX4_takeFreeReplica : MI yX4_takeFreeReplica cX4_takeFreeReplica 5 (some .int) RX4 2 := ⟨b_co_yX4_takeFreeReplica, b_in_X4, rfl, ⟨by decide +kernel, by decide +kernel, by decide +kernel⟩, by decide, by decide +kernel⟩
theorem mv_yX4_takeFreeReplica : MV yX4_takeFreeReplica RX4 := ⟨b_in_yX4_takeFreeReplica, b_se_yX4_takeFreeReplica⟩
theorem mi_yX2_begin : MI yX2_begin cX2_begin 3 none RX2 2 := ⟨b_co_yX2_begin, b_in_X2, rfl, ⟨by decide +kernel, by decide +kernel, by decide +kernel⟩, by decide, by decide +kernel⟩
theorem mv_yX2_begin : MV yX2_begin RX2 := ⟨b_in_yX2_begin, b_se_yX2_begin⟩
theorem mi_yX0_keepUnlessError : MI yX0_keepUnlessError cX0_keepUnlessError 2 (some .int) RX0 1 := ⟨b_co_yX0_keepUnlessError, b_in_X0, rfl, ⟨by decide +kernel, by decide +kernel, by decide +kernel⟩, by decide, by decide +kernel⟩
theorem mv_yX0_keepUnlessError : MV yX0_keepUnlessError RX0 := ⟨b_in_yX0_keepUnlessError, b_se_yX0_keepUnlessError⟩
theorem mi_yX6_isError : MI yX6_isError cX6_isError 1 (some .boolean) RX6 1 := ⟨b_co_yX6_isError, b_in_X6, rfl, ⟨by decide +kernel, by decide +kernel, by decide +kernel⟩, by decide, by decide +kernel⟩
theorem mi_yX6_drop : MI yX6_drop cX6_drop 2 (some .int) RX6 1 := ⟨b_co_yX6_drop, b_in_X6, rfl, ⟨by decide +kernel, by decide +kernel, by decide +kernel⟩, by decide, by decide +kernel⟩
theorem mv_yX6_drop : MV yX6_drop RX6 := ⟨b_in_yX6_drop, b_se_yX6_drop⟩
theorem mi_yX6_removeReplica : MI yX6_removeReplica cX6_removeReplica 3 (some .int) RX6 1 := ⟨b_co_yX6_removeReplica, b_in_X6, rfl, ⟨by decide +kernel, by decide +kernel, by decide +kernel⟩, by decide, by decide +kernel⟩
theorem mv_yX6_removeReplica : MV yX6_removeReplica RX6 := ⟨b_in_yX6_removeReplica, b_se_yX6_removeReplica⟩
theorem mi_yX4_sendSessionsToPrimary : MI yX4_sendSessionsToPrimary cX4_sendSessionsToPrimary 5 (some .int) RX4 1 := ⟨b_co_yX4_sendSessionsToPrimary, b_in_X4, rfl, ⟨by decide +kernel, by decide +kernel, by decide +kernel⟩, by decide, by decide +kernel⟩
theorem mv_yX4_sendSessionsToPrimary : MV yX4_sendSessionsToPrimary RX4 := ⟨b_in_yX4_sendSessionsToPrimary, b_se_yX4_sendSessionsToPrimary⟩
theorem mi_yX4_findSession : MI yX4_findSession cX4_findSession 3 (some (.object "ReplicaSessions$Session")) RX4 1 := ⟨b_co_yX4_findSession, b_in_X4, rfl, ⟨by decide +kernel, by decide +kernel, by decide +kernel⟩, by decide, by decide +kernel⟩
theorem mv_yX4_findSession : MV yX4_findSession RX4 := ⟨b_in_yX4_findSession, b_se_yX4_findSession⟩
theorem mi_yX6_setRate : MI yX6_setRate cX6_setRate 3 (some .int) RX6 2 := ⟨b_co_yX6_setRate, b_in_X6, rfl, ⟨by decide +kernel, by decide +kernel, by decide +kernel⟩, by decide, by decide +kernel⟩
theorem mv_yX6_setRate : MV yX6_setRate RX6 := ⟨b_in_yX6_setRate, b_se_yX6_setRate⟩
theorem mi_yX6_changeRate : MI yX6_changeRate cX6_changeRate 5 (some .int) RX6 2 := ⟨b_co_yX6_changeRate, b_in_X6, rfl, ⟨by decide +kernel, by decide +kernel, by decide +kernel⟩, by decide, by decide +kernel⟩
theorem mv_yX6_changeRate : MV yX6_changeRate RX6 := ⟨b_in_yX6_changeRate, b_se_yX6_changeRate⟩
theorem mi_yX6_stop : MI yX6_stop cX6_stop 3 (some .int) RX6 2 := ⟨b_co_yX6_stop, b_in_X6, rfl, ⟨by decide +kernel, by decide +kernel, by decide +kernel⟩, by decide, by decide +kernel⟩
theorem mv_yX6_stop : MV yX6_stop RX6 := ⟨b_in_yX6_stop, b_se_yX6_stop⟩
theorem mi_yX6_changeStopped : MI yX6_changeStopped cX6_changeStopped 5 (some .int) RX6 2 := ⟨b_co_yX6_changeStopped, b_in_X6, rfl, ⟨by decide +kernel, by decide +kernel, by decide +kernel⟩, by decide, by decide +kernel⟩
theorem mv_yX6_changeStopped : MV yX6_changeStopped RX6 := ⟨b_in_yX6_changeStopped, b_se_yX6_changeStopped⟩
theorem mi_yX6_jumpBack : MI yX6_jumpBack cX6_jumpBack 3 (some .int) RX6 2 := ⟨b_co_yX6_jumpBack, b_in_X6, rfl, ⟨by decide +kernel, by decide +kernel, by decide +kernel⟩, by decide, by decide +kernel⟩
theorem mv_yX6_jumpBack : MV yX6_jumpBack RX6 := ⟨b_in_yX6_jumpBack, b_se_yX6_jumpBack⟩
theorem mi_yX6_setBack : MI yX6_setBack cX6_setBack 5 (some .int) RX6 2 := ⟨b_co_yX6_setBack, b_in_X6, rfl, ⟨by decide +kernel, by decide +kernel, by decide +kernel⟩, by decide, by decide +kernel⟩
theorem mv_yX6_setBack : MV yX6_setBack RX6 := ⟨b_in_yX6_setBack, b_se_yX6_setBack⟩
theorem mi_yX6_tick : MI yX6_tick cX6_tick 2 (some .int) RX6 1 := ⟨b_co_yX6_tick, b_in_X6, rfl, ⟨by decide +kernel, by decide +kernel, by decide +kernel⟩, by decide, by decide +kernel⟩
theorem mv_yX6_tick : MV yX6_tick RX6 := ⟨b_in_yX6_tick, b_se_yX6_tick⟩
theorem mi_yX6_letTicksPass : MI yX6_letTicksPass cX6_letTicksPass 2 (some .int) RX6 1 := ⟨b_co_yX6_letTicksPass, b_in_X6, rfl, ⟨by decide +kernel, by decide +kernel, by decide +kernel⟩, by decide, by decide +kernel⟩
theorem mv_yX6_letTicksPass : MV yX6_letTicksPass RX6 := ⟨b_in_yX6_letTicksPass, b_se_yX6_letTicksPass⟩
theorem mi_yX4_passTicks : MI yX4_passTicks cX4_passTicks 4 none RX4 1 := ⟨b_co_yX4_passTicks, b_in_X4, rfl, ⟨by decide +kernel, by decide +kernel, by decide +kernel⟩, by decide, by decide +kernel⟩
theorem mv_yX4_passTicks : MV yX4_passTicks RX4 := ⟨b_in_yX4_passTicks, b_se_yX4_passTicks⟩
theorem mi_yX2_passTicks : MI yX2_passTicks cX2_passTicks 3 none RX2 2 := ⟨b_co_yX2_passTicks, b_in_X2, rfl, ⟨by decide +kernel, by decide +kernel, by decide +kernel⟩, by decide, by decide +kernel⟩
theorem mv_yX2_passTicks : MV yX2_passTicks RX2 := ⟨b_in_yX2_passTicks, b_se_yX2_passTicks⟩
theorem mi_yX4_countCaughtUp : MI yX4_countCaughtUp cX4_countCaughtUp 4 (some .int) RX4 0 := ⟨b_co_yX4_countCaughtUp, b_in_X4, rfl, ⟨by decide +kernel, by decide +kernel, by decide +kernel⟩, by decide, by decide +kernel⟩
theorem mv_yX4_countCaughtUp : MV yX4_countCaughtUp RX4 := ⟨b_in_yX4_countCaughtUp, b_se_yX4_countCaughtUp⟩
theorem mi_yX6_open : MI yX6_open cX6_open 4 (some .int) RX6 3 := ⟨b_co_yX6_open, b_in_X6, rfl, ⟨by decide +kernel, by decide +kernel, by decide +kernel⟩, by decide, by decide +kernel⟩
theorem mv_yX6_open : MV yX6_open RX6 := ⟨b_in_yX6_open, b_se_yX6_open⟩
theorem mi_yX6_startSession : MI yX6_startSession cX6_startSession 4 (some .int) RX6 3 := ⟨b_co_yX6_startSession, b_in_X6, rfl, ⟨by decide +kernel, by decide +kernel, by decide +kernel⟩, by decide, by decide +kernel⟩
theorem mv_yX6_startSession : MV yX6_startSession RX6 := ⟨b_in_yX6_startSession, b_se_yX6_startSession⟩
theorem mi_yX4_hasPlace : MI yX4_hasPlace cX4_hasPlace 2 (some .boolean) RX4 1 := ⟨b_co_yX4_hasPlace, b_in_X4, rfl, ⟨by decide +kernel, by decide +kernel, by decide +kernel⟩, by decide, by decide +kernel⟩
theorem mv_yX4_hasPlace : MV yX4_hasPlace RX4 := ⟨b_in_yX4_hasPlace, b_se_yX4_hasPlace⟩
theorem mi_yX4_takeFreeSession : MI yX4_takeFreeSession cX4_takeFreeSession 6 (some .int) RX4 3 := ⟨b_co_yX4_takeFreeSession, b_in_X4, rfl, ⟨by decide +kernel, by decide +kernel, by decide +kernel⟩, by decide, by decide +kernel⟩
theorem mv_yX4_takeFreeSession : MV yX4_takeFreeSession RX4 := ⟨b_in_yX4_takeFreeSession, b_se_yX4_takeFreeSession⟩
theorem mi_yX3_begin : MI yX3_begin cX3_begin 4 none RX3 3 := ⟨b_co_yX3_begin, b_in_X3, rfl, ⟨by decide +kernel, by decide +kernel, by decide +kernel⟩, by decide, by decide +kernel⟩
theorem mv_yX3_begin : MV yX3_begin RX3 := ⟨b_in_yX3_begin, b_se_yX3_begin⟩
theorem mi_yJ7_fill_53178 : MI yJ7_fill_53178 cJ7_fill_53178 4 none RJ7 2 := ⟨b_co_yJ7_fill_53178, b_in_J7, rfl, ⟨by decide +kernel, by decide +kernel, by decide +kernel⟩, by decide, by decide +kernel⟩
theorem mi_yX6_close : MI yX6_close cX6_close 2 (some .int) RX6 1 := ⟨b_co_yX6_close, b_in_X6, rfl, ⟨by decide +kernel, by decide +kernel, by decide +kernel⟩, by decide, by decide +kernel⟩
theorem mv_yX6_close : MV yX6_close RX6 := ⟨b_in_yX6_close, b_se_yX6_close⟩
theorem mi_yX6_endSession : MI yX6_endSession cX6_endSession 3 (some .int) RX6 1 := ⟨b_co_yX6_endSession, b_in_X6, rfl, ⟨by decide +kernel, by decide +kernel, by decide +kernel⟩, by decide, by decide +kernel⟩
theorem mv_yX6_endSession : MV yX6_endSession RX6 := ⟨b_in_yX6_endSession, b_se_yX6_endSession⟩
theorem mi_yX6_move : MI yX6_move cX6_move 3 (some .int) RX6 2 := ⟨b_co_yX6_move, b_in_X6, rfl, ⟨by decide +kernel, by decide +kernel, by decide +kernel⟩, by decide, by decide +kernel⟩
theorem mv_yX6_move : MV yX6_move RX6 := ⟨b_in_yX6_move, b_se_yX6_move⟩
theorem mi_yX6_changeHome : MI yX6_changeHome cX6_changeHome 5 (some .int) RX6 2 := ⟨b_co_yX6_changeHome, b_in_X6, rfl, ⟨by decide +kernel, by decide +kernel, by decide +kernel⟩, by decide, by decide +kernel⟩
theorem mv_yX6_changeHome : MV yX6_changeHome RX6 := ⟨b_in_yX6_changeHome, b_se_yX6_changeHome⟩
theorem mi_yX6_change : MI yX6_change cX6_change 4 (some .int) RX6 3 := ⟨b_co_yX6_change, b_in_X6, rfl, ⟨by decide +kernel, by decide +kernel, by decide +kernel⟩, by decide, by decide +kernel⟩
theorem mv_yX6_change : MV yX6_change RX6 := ⟨b_in_yX6_change, b_se_yX6_change⟩
theorem mi_yX6_changeOptions : MI yX6_changeOptions cX6_changeOptions 6 (some .int) RX6 3 := ⟨b_co_yX6_changeOptions, b_in_X6, rfl, ⟨by decide +kernel, by decide +kernel, by decide +kernel⟩, by decide, by decide +kernel⟩
theorem mv_yX6_changeOptions : MV yX6_changeOptions RX6 := ⟨b_in_yX6_changeOptions, b_se_yX6_changeOptions⟩
theorem mi_yX6_hand : MI yX6_hand cX6_hand 3 (some .int) RX6 2 := ⟨b_co_yX6_hand, b_in_X6, rfl, ⟨by decide +kernel, by decide +kernel, by decide +kernel⟩, by decide, by decide +kernel⟩
theorem mv_yX6_hand : MV yX6_hand RX6 := ⟨b_in_yX6_hand, b_se_yX6_hand⟩
theorem mi_yX6_handMarks : MI yX6_handMarks cX6_handMarks 5 (some .int) RX6 2 := ⟨b_co_yX6_handMarks, b_in_X6, rfl, ⟨by decide +kernel, by decide +kernel, by decide +kernel⟩, by decide, by decide +kernel⟩
theorem mv_yX6_handMarks : MV yX6_handMarks RX6 := ⟨b_in_yX6_handMarks, b_se_yX6_handMarks⟩
theorem mi_yX6_write : MI yX6_write cX6_write 4 (some .int) RX6 3 := ⟨b_co_yX6_write, b_in_X6, rfl, ⟨by decide +kernel, by decide +kernel, by decide +kernel⟩, by decide, by decide +kernel⟩
theorem mv_yX6_write : MV yX6_write RX6 := ⟨b_in_yX6_write, b_se_yX6_write⟩
theorem mi_yX6_addWrite : MI yX6_addWrite cX6_addWrite 6 (some .int) RX6 3 := ⟨b_co_yX6_addWrite, b_in_X6, rfl, ⟨by decide +kernel, by decide +kernel, by decide +kernel⟩, by decide, by decide +kernel⟩
theorem mv_yX6_addWrite : MV yX6_addWrite RX6 := ⟨b_in_yX6_addWrite, b_se_yX6_addWrite⟩
theorem mi_yX6_isKey : MI yX6_isKey cX6_isKey 1 (some .boolean) RX6 1 := ⟨b_co_yX6_isKey, b_in_X6, rfl, ⟨by decide +kernel, by decide +kernel, by decide +kernel⟩, by decide, by decide +kernel⟩
theorem mi_yX1_add : MI yX1_add cX1_add 4 (some .int) RX1 3 := ⟨b_co_yX1_add, b_in_X1, rfl, ⟨by decide +kernel, by decide +kernel, by decide +kernel⟩, by decide, by decide +kernel⟩
theorem mv_yX1_add : MV yX1_add RX1 := ⟨b_in_yX1_add, b_se_yX1_add⟩
theorem mi_yX3_noteWrite : MI yX3_noteWrite cX3_noteWrite 3 none RX3 2 := ⟨b_co_yX3_noteWrite, b_in_X3, rfl, ⟨by decide +kernel, by decide +kernel, by decide +kernel⟩, by decide, by decide +kernel⟩
theorem mv_yX3_noteWrite : MV yX3_noteWrite RX3 := ⟨b_in_yX3_noteWrite, b_se_yX3_noteWrite⟩
theorem mi_yX6_read : MI yX6_read cX6_read 3 (some .int) RX6 2 := ⟨b_co_yX6_read, b_in_X6, rfl, ⟨by decide +kernel, by decide +kernel, by decide +kernel⟩, by decide, by decide +kernel⟩
theorem mv_yX6_read : MV yX6_read RX6 := ⟨b_in_yX6_read, b_se_yX6_read⟩
theorem mi_yX6_readAtHome : MI yX6_readAtHome cX6_readAtHome 5 (some .int) RX6 2 := ⟨b_co_yX6_readAtHome, b_in_X6, rfl, ⟨by decide +kernel, by decide +kernel, by decide +kernel⟩, by decide, by decide +kernel⟩
theorem mv_yX6_readAtHome : MV yX6_readAtHome RX6 := ⟨b_in_yX6_readAtHome, b_se_yX6_readAtHome⟩
theorem mi_yX4_waitOf : MI yX4_waitOf cX4_waitOf 5 (some .int) RX4 3 := ⟨b_co_yX4_waitOf, b_in_X4, rfl, ⟨by decide +kernel, by decide +kernel, by decide +kernel⟩, by decide, by decide +kernel⟩
theorem mv_yX4_waitOf : MV yX4_waitOf RX4 := ⟨b_in_yX4_waitOf, b_se_yX4_waitOf⟩
theorem mi_yX4_neededPosition : MI yX4_neededPosition cX4_neededPosition 4 (some .int) RX4 2 := ⟨b_co_yX4_neededPosition, b_in_X4, rfl, ⟨by decide +kernel, by decide +kernel, by decide +kernel⟩, by decide, by decide +kernel⟩
theorem mv_yX4_neededPosition : MV yX4_neededPosition RX4 := ⟨b_in_yX4_neededPosition, b_se_yX4_neededPosition⟩
theorem mi_yX3_need : MI yX3_need cX3_need 1 (some .int) RX3 0 := ⟨b_co_yX3_need, b_in_X3, rfl, ⟨by decide +kernel, by decide +kernel, by decide +kernel⟩, by decide, by decide +kernel⟩
theorem mv_yX3_need : MV yX3_need RX3 := ⟨b_in_yX3_need, b_se_yX3_need⟩
theorem mi_yX3_has : MI yX3_has cX3_has 2 (some .boolean) RX3 1 := ⟨b_co_yX3_has, b_in_X3, rfl, ⟨by decide +kernel, by decide +kernel, by decide +kernel⟩, by decide, by decide +kernel⟩
theorem mv_yX3_has : MV yX3_has RX3 := ⟨b_in_yX3_has, b_se_yX3_has⟩
theorem mi_yX1_versionAt : MI yX1_versionAt cX1_versionAt 4 (some .int) RX1 2 := ⟨b_co_yX1_versionAt, b_in_X1, rfl, ⟨by decide +kernel, by decide +kernel, by decide +kernel⟩, by decide, by decide +kernel⟩
theorem mv_yX1_versionAt : MV yX1_versionAt RX1 := ⟨b_in_yX1_versionAt, b_se_yX1_versionAt⟩
theorem mi_yX1_keyOf : MI yX1_keyOf cX1_keyOf 2 (some .int) RX1 1 := ⟨b_co_yX1_keyOf, b_in_X1, rfl, ⟨by decide +kernel, by decide +kernel, by decide +kernel⟩, by decide, by decide +kernel⟩
theorem mv_yX1_keyOf : MV yX1_keyOf RX1 := ⟨b_in_yX1_keyOf, b_se_yX1_keyOf⟩
theorem mi_yX1_contains : MI yX1_contains cX1_contains 2 (some .boolean) RX1 1 := ⟨b_co_yX1_contains, b_in_X1, rfl, ⟨by decide +kernel, by decide +kernel, by decide +kernel⟩, by decide, by decide +kernel⟩
theorem mv_yX1_contains : MV yX1_contains RX1 := ⟨b_in_yX1_contains, b_se_yX1_contains⟩
theorem mi_yX2_ticksTo : MI yX2_ticksTo cX2_ticksTo 2 (some .int) RX2 1 := ⟨b_co_yX2_ticksTo, b_in_X2, rfl, ⟨by decide +kernel, by decide +kernel, by decide +kernel⟩, by decide, by decide +kernel⟩
theorem mv_yX2_ticksTo : MV yX2_ticksTo RX2 := ⟨b_in_yX2_ticksTo, b_se_yX2_ticksTo⟩
theorem mi_yX4_answer : MI yX4_answer cX4_answer 7 (some .int) RX4 4 := ⟨b_co_yX4_answer, b_in_X4, rfl, ⟨by decide +kernel, by decide +kernel, by decide +kernel⟩, by decide, by decide +kernel⟩
theorem mv_yX4_answer : MV yX4_answer RX4 := ⟨b_in_yX4_answer, b_se_yX4_answer⟩
theorem mi_yX3_noteRead : MI yX3_noteRead cX3_noteRead 4 none RX3 3 := ⟨b_co_yX3_noteRead, b_in_X3, rfl, ⟨by decide +kernel, by decide +kernel, by decide +kernel⟩, by decide, by decide +kernel⟩
theorem mv_yX3_noteRead : MV yX3_noteRead RX3 := ⟨b_in_yX3_noteRead, b_se_yX3_noteRead⟩
theorem mi_yX4_countAnswer : MI yX4_countAnswer cX4_countAnswer 3 none RX4 1 := ⟨b_co_yX4_countAnswer, b_in_X4, rfl, ⟨by decide +kernel, by decide +kernel, by decide +kernel⟩, by decide, by decide +kernel⟩
theorem mv_yX4_countAnswer : MV yX4_countAnswer RX4 := ⟨b_in_yX4_countAnswer, b_se_yX4_countAnswer⟩
theorem mi_yX1_valueOf : MI yX1_valueOf cX1_valueOf 2 (some .int) RX1 1 := ⟨b_co_yX1_valueOf, b_in_X1, rfl, ⟨by decide +kernel, by decide +kernel, by decide +kernel⟩, by decide, by decide +kernel⟩
theorem mv_yX1_valueOf : MV yX1_valueOf RX1 := ⟨b_in_yX1_valueOf, b_se_yX1_valueOf⟩
theorem mi_yX6_readAt : MI yX6_readAt cX6_readAt 4 (some .int) RX6 3 := ⟨b_co_yX6_readAt, b_in_X6, rfl, ⟨by decide +kernel, by decide +kernel, by decide +kernel⟩, by decide, by decide +kernel⟩
theorem mv_yX6_readAt : MV yX6_readAt RX6 := ⟨b_in_yX6_readAt, b_se_yX6_readAt⟩
theorem mi_yX6_readAtPlace : MI yX6_readAtPlace cX6_readAtPlace 5 (some .int) RX6 3 := ⟨b_co_yX6_readAtPlace, b_in_X6, rfl, ⟨by decide +kernel, by decide +kernel, by decide +kernel⟩, by decide, by decide +kernel⟩
theorem mv_yX6_readAtPlace : MV yX6_readAtPlace RX6 := ⟨b_in_yX6_readAtPlace, b_se_yX6_readAtPlace⟩
theorem mi_yL_cell : MI yL_cell cL_cell 2 (some .int) RL 2 := ⟨b_co_yL_cell, b_in_L, rfl, ⟨by decide +kernel, by decide +kernel, by decide +kernel⟩, by decide, by decide +kernel⟩
theorem mi_yL_low : MI yL_low cL_low 2 (some .int) RL 2 := ⟨b_co_yL_low, b_in_L, rfl, ⟨by decide +kernel, by decide +kernel, by decide +kernel⟩, by decide, by decide +kernel⟩
theorem mi_yL_at : MI yL_at cL_at 3 (some .int) RL 3 := ⟨b_co_yL_at, b_in_L, rfl, ⟨by decide +kernel, by decide +kernel, by decide +kernel⟩, by decide, by decide +kernel⟩
theorem mi_yL_can : MI yL_can cL_can 5 (some .boolean) RL 5 := ⟨b_co_yL_can, b_in_L, rfl, ⟨by decide +kernel, by decide +kernel, by decide +kernel⟩, by decide, by decide +kernel⟩
theorem mi_yL_need : MI yL_need cL_need 4 (some .int) RL 2 := ⟨b_co_yL_need, b_in_L, rfl, ⟨by decide +kernel, by decide +kernel, by decide +kernel⟩, by decide, by decide +kernel⟩
theorem mi_yL_version : MI yL_version cL_version 5 (some .int) RL 3 := ⟨b_co_yL_version, b_in_L, rfl, ⟨by decide +kernel, by decide +kernel, by decide +kernel⟩, by decide, by decide +kernel⟩
theorem mi_yL_wait : MI yL_wait cL_wait 9 (some .int) RL 7 := ⟨b_co_yL_wait, b_in_L, rfl, ⟨by decide +kernel, by decide +kernel, by decide +kernel⟩, by decide, by decide +kernel⟩
theorem mi_yL_step : MI yL_step cL_step 5 (some .int) RL 4 := ⟨b_co_yL_step, b_in_L, rfl, ⟨by decide +kernel, by decide +kernel, by decide +kernel⟩, by decide, by decide +kernel⟩
theorem mi_yL_pass : MI yL_pass cL_pass 5 none RL 3 := ⟨b_co_yL_pass, b_in_L, rfl, ⟨by decide +kernel, by decide +kernel, by decide +kernel⟩, by decide, by decide +kernel⟩
theorem mi_yL_answer : MI yL_answer cL_answer 10 (some .int) RL 9 := ⟨b_co_yL_answer, b_in_L, rfl, ⟨by decide +kernel, by decide +kernel, by decide +kernel⟩, by decide, by decide +kernel⟩
theorem mi_yL_wrote : MI yL_wrote cL_wrote 7 (some .int) RL 5 := ⟨b_co_yL_wrote, b_in_L, rfl, ⟨by decide +kernel, by decide +kernel, by decide +kernel⟩, by decide, by decide +kernel⟩
theorem mi_yL_value : MI yL_value cL_value 2 (some .int) RL 2 := ⟨b_co_yL_value, b_in_L, rfl, ⟨by decide +kernel, by decide +kernel, by decide +kernel⟩, by decide, by decide +kernel⟩
theorem mi_yL_isPlace : MI yL_isPlace cL_isPlace 2 (some .boolean) RL 2 := ⟨b_co_yL_isPlace, b_in_L, rfl, ⟨by decide +kernel, by decide +kernel, by decide +kernel⟩, by decide, by decide +kernel⟩
theorem mi_yL_place : MI yL_place cL_place 3 (some .int) RL 2 := ⟨b_co_yL_place, b_in_L, rfl, ⟨by decide +kernel, by decide +kernel, by decide +kernel⟩, by decide, by decide +kernel⟩
theorem mi_yL_places : MI yL_places cL_places 16 (some .boolean) RL 6 := ⟨b_co_yL_places, b_in_L, rfl, ⟨by decide +kernel, by decide +kernel, by decide +kernel⟩, by decide, by decide +kernel⟩
theorem mi_yX6_position : MI yX6_position cX6_position 2 (some .int) RX6 1 := ⟨b_co_yX6_position, b_in_X6, rfl, ⟨by decide +kernel, by decide +kernel, by decide +kernel⟩, by decide, by decide +kernel⟩
theorem mv_yX6_position : MV yX6_position RX6 := ⟨b_in_yX6_position, b_se_yX6_position⟩
theorem mi_yX6_replica : MI yX6_replica cX6_replica 4 (some .int) RX6 2 := ⟨b_co_yX6_replica, b_in_X6, rfl, ⟨by decide +kernel, by decide +kernel, by decide +kernel⟩, by decide, by decide +kernel⟩
theorem mv_yX6_replica : MV yX6_replica RX6 := ⟨b_in_yX6_replica, b_se_yX6_replica⟩
theorem mi_yX4_countSessionsAt : MI yX4_countSessionsAt cX4_countSessionsAt 5 (some .int) RX4 1 := ⟨b_co_yX4_countSessionsAt, b_in_X4, rfl, ⟨by decide +kernel, by decide +kernel, by decide +kernel⟩, by decide, by decide +kernel⟩
theorem mv_yX4_countSessionsAt : MV yX4_countSessionsAt RX4 := ⟨b_in_yX4_countSessionsAt, b_se_yX4_countSessionsAt⟩
theorem mi_yX6_version : MI yX6_version cX6_version 3 (some .int) RX6 2 := ⟨b_co_yX6_version, b_in_X6, rfl, ⟨by decide +kernel, by decide +kernel, by decide +kernel⟩, by decide, by decide +kernel⟩
theorem mv_yX6_version : MV yX6_version RX6 := ⟨b_in_yX6_version, b_se_yX6_version⟩
theorem mi_yX6_answers : MI yX6_answers cX6_answers 3 (some .int) RX6 1 := ⟨b_co_yX6_answers, b_in_X6, rfl, ⟨by decide +kernel, by decide +kernel, by decide +kernel⟩, by decide, by decide +kernel⟩
theorem mv_yX6_answers : MV yX6_answers RX6 := ⟨b_in_yX6_answers, b_se_yX6_answers⟩
theorem mi_yX6_value : MI yX6_value cX6_value 3 (some .int) RX6 2 := ⟨b_co_yX6_value, b_in_X6, rfl, ⟨by decide +kernel, by decide +kernel, by decide +kernel⟩, by decide, by decide +kernel⟩
theorem mv_yX6_value : MV yX6_value RX6 := ⟨b_in_yX6_value, b_se_yX6_value⟩
theorem mi_yX6_missing : MI yX6_missing cX6_missing 3 (some .int) RX6 2 := ⟨b_co_yX6_missing, b_in_X6, rfl, ⟨by decide +kernel, by decide +kernel, by decide +kernel⟩, by decide, by decide +kernel⟩
theorem mv_yX6_missing : MV yX6_missing RX6 := ⟨b_in_yX6_missing, b_se_yX6_missing⟩
theorem mi_yX1_countAfter : MI yX1_countAfter cX1_countAfter 5 (some .int) RX1 2 := ⟨b_co_yX1_countAfter, b_in_X1, rfl, ⟨by decide +kernel, by decide +kernel, by decide +kernel⟩, by decide, by decide +kernel⟩
theorem mv_yX1_countAfter : MV yX1_countAfter RX1 := ⟨b_in_yX1_countAfter, b_se_yX1_countAfter⟩
theorem mi_yX6_replicas : MI yX6_replicas cX6_replicas 1 (some .int) RX6 0 := ⟨b_co_yX6_replicas, b_in_X6, rfl, ⟨by decide +kernel, by decide +kernel, by decide +kernel⟩, by decide, by decide +kernel⟩
theorem mv_yX6_replicas : MV yX6_replicas RX6 := ⟨b_in_yX6_replicas, b_se_yX6_replicas⟩
theorem mi_yX4_replicaMask : MI yX4_replicaMask cX4_replicaMask 3 (some .int) RX4 0 := ⟨b_co_yX4_replicaMask, b_in_X4, rfl, ⟨by decide +kernel, by decide +kernel, by decide +kernel⟩, by decide, by decide +kernel⟩
theorem mv_yX4_replicaMask : MV yX4_replicaMask RX4 := ⟨b_in_yX4_replicaMask, b_se_yX4_replicaMask⟩
theorem mi_yX6_length : MI yX6_length cX6_length 1 (some .int) RX6 0 := ⟨b_co_yX6_length, b_in_X6, rfl, ⟨by decide +kernel, by decide +kernel, by decide +kernel⟩, by decide, by decide +kernel⟩
theorem mv_yX6_length : MV yX6_length RX6 := ⟨b_in_yX6_length, b_se_yX6_length⟩
theorem mi_yX6_catchUp : MI yX6_catchUp cX6_catchUp 5 (some .int) RX6 0 := ⟨b_co_yX6_catchUp, b_in_X6, rfl, ⟨by decide +kernel, by decide +kernel, by decide +kernel⟩, by decide, by decide +kernel⟩
theorem mv_yX6_catchUp : MV yX6_catchUp RX6 := ⟨b_in_yX6_catchUp, b_se_yX6_catchUp⟩
theorem mi_yX6_latest : MI yX6_latest cX6_latest 2 (some .int) RX6 1 := ⟨b_co_yX6_latest, b_in_X6, rfl, ⟨by decide +kernel, by decide +kernel, by decide +kernel⟩, by decide, by decide +kernel⟩
theorem mv_yX6_latest : MV yX6_latest RX6 := ⟨b_in_yX6_latest, b_se_yX6_latest⟩
theorem mi_yL_sessions : MI yL_sessions cL_sessions 16 (some .boolean) RL 7 := ⟨b_co_yL_sessions, b_in_L, rfl, ⟨by decide +kernel, by decide +kernel, by decide +kernel⟩, by decide, by decide +kernel⟩
theorem mi_yX6_session : MI yX6_session cX6_session 4 (some .int) RX6 2 := ⟨b_co_yX6_session, b_in_X6, rfl, ⟨by decide +kernel, by decide +kernel, by decide +kernel⟩, by decide, by decide +kernel⟩
theorem mv_yX6_session : MV yX6_session RX6 := ⟨b_in_yX6_session, b_se_yX6_session⟩
theorem mi_yX6_waitFor : MI yX6_waitFor cX6_waitFor 5 (some .int) RX6 3 := ⟨b_co_yX6_waitFor, b_in_X6, rfl, ⟨by decide +kernel, by decide +kernel, by decide +kernel⟩, by decide, by decide +kernel⟩
theorem mv_yX6_waitFor : MV yX6_waitFor RX6 := ⟨b_in_yX6_waitFor, b_se_yX6_waitFor⟩
theorem mi_yX6_bestReplica : MI yX6_bestReplica cX6_bestReplica 8 (some .int) RX6 2 := ⟨b_co_yX6_bestReplica, b_in_X6, rfl, ⟨by decide +kernel, by decide +kernel, by decide +kernel⟩, by decide, by decide +kernel⟩
theorem mv_yX6_bestReplica : MV yX6_bestReplica RX6 := ⟨b_in_yX6_bestReplica, b_se_yX6_bestReplica⟩
theorem mi_yX6_keysAfter : MI yX6_keysAfter cX6_keysAfter 8 (some .int) RX6 3 := ⟨b_co_yX6_keysAfter, b_in_X6, rfl, ⟨by decide +kernel, by decide +kernel, by decide +kernel⟩, by decide, by decide +kernel⟩
theorem mv_yX6_keysAfter : MV yX6_keysAfter RX6 := ⟨b_in_yX6_keysAfter, b_se_yX6_keysAfter⟩
theorem mi_yX6_sessions : MI yX6_sessions cX6_sessions 1 (some .int) RX6 0 := ⟨b_co_yX6_sessions, b_in_X6, rfl, ⟨by decide +kernel, by decide +kernel, by decide +kernel⟩, by decide, by decide +kernel⟩
theorem mv_yX6_sessions : MV yX6_sessions RX6 := ⟨b_in_yX6_sessions, b_se_yX6_sessions⟩
theorem mi_yX4_sessionMask : MI yX4_sessionMask cX4_sessionMask 3 (some .int) RX4 0 := ⟨b_co_yX4_sessionMask, b_in_X4, rfl, ⟨by decide +kernel, by decide +kernel, by decide +kernel⟩, by decide, by decide +kernel⟩
theorem mv_yX4_sessionMask : MV yX4_sessionMask RX4 := ⟨b_in_yX4_sessionMask, b_se_yX4_sessionMask⟩
