/-! ===== the law's own loop, and its script ===== -/
def SX (E : EV) (X : CX) (L : Nat) (xs : Nat → Int32) : Prop := match X with
  | (p, l, e, R, s, m, args, below, meth, c, cells, slots, QF, A, H0) => va_X (E.2.1 (99, 0, 0)) L xs s H0 ∧ E.2.1 (99, 0, 0) < H0.size ∧ ¬ A (E.2.1 (99, 0, 0))
def CtX (E : EV) (l : Launch) (y : MethodName) (ws : List Cond) (dep : Nat) (args : List VV) (mem : MEM) (L : Nat) (xs : Nat → Int32) (Q : VV → MEM → Prop) : Prop := EOK E → Met l y ws (me_rm dep) (va_Pc (args.map (vv E)) (fun U => (WR E mem U.heap ∧ va_K E.1 vwCl (tyE E) U ∧ NW U) ∧ va_X (E.2.1 (99, 0, 0)) L xs U U.heap ∧ E.2.1 (99, 0, 0) < U.heap.size ∧ ¬ AW E (E.2.1 (99, 0, 0)))) (QcW E Q) 0 0 (AW E)
theorem CtX.of {E : EV} {l : Launch} {y : MethodName} {cc : ByteArray} {nL n dep : Nat} {ret : Option FieldType} {RC : String} {args ls0 : List VV} {mem : MEM} {L : Nat} {xs : Nat → Int32} {Q : VV → MEM → Prop} (mi : MI y cc nL ret RC n) (hlen : args.length ≤ nL) (hls : args ++ List.replicate (nL - args.length) uv = ls0) (h : ∀ X, CK E X RC cc nL ret dep → EX E X l Q → SX E X L xs → G E X nL 0 ls0 [] mem) : CtX E l y (me_ws y cc nL ret) dep args mem L xs Q := by
  intro hE
  subst hls
  obtain ⟨mi1, mi2, mi3, mi4, mi5, mi6⟩ := mi
  refine Met.ofWF (cc := cc) (maxL := nL) (ret := ret) mi6 rfl ?_
  intro p e s m args' below meth c s₁ B hml hv
  obtain ⟨rfl, ⟨hW, hK, hN⟩, hX1, hX2, hX3⟩ := hv
  have hts := atoms_spec (ws := me_ws y cc nL ret) B.pre
  have hown := findClass_of_methodNamed B.named
  rw [mi3] at hown
  rw [entry_eq m (args.map (vv E)) (fun v hv => by obtain ⟨x, -, rfl⟩ := List.mem_map.mp hv; exact vv_cat E x) nL]
  exact h (p, l, e, (headSpec (me_ws y cc nL ret) (me_rm dep)).room, s, m, (args.map (vv E)).toArray, below, meth, c, 0, 0, MQ below (QcW E Q) (args.map (vv E)).toArray s 0 0 (AW E), AW E, s.heap)
    ⟨B.exec, B.bytes, hml, hown, fun w hw => hts w (List.mem_cons_of_mem _ hw), B.returns, B.notSynchronized, hK, fun id hid => ⟨id, hid, rfl⟩, hE, Nat.le_refl dep, Nat.le_refl (36 * dep), Nat.zero_le _, Nat.zero_le _, hN⟩ ⟨rfl, rfl, rfl, rfl⟩ ⟨hX1, hX2, hX3⟩ _ s.heap [] (me_entry E args nL hlen) hW va_S.rf
section MLW
variable {E : EV} {X : CX} {own : String} {cc : ByteArray} {nL : Nat} {ret : Option FieldType} {dep pc : Nat} {ls st : List VV} {mem : MEM} {L : Nat} {xs : Nat → Int32}
theorem f_sld (C : CK E X own cc nL ret dep) (S : SX E X L xs) {j : Nat} (hj : j < L) (hL : L < 2 ^ 31) (hdg : decode cc pc = .ok (.iaload, 1)) (h : G E X nL (pc + 1) ls (iv (xs j) :: st) mem) : G E X nL pc ls (iv (nI j) :: rv (99, 0, 0) :: st) mem := by
  obtain ⟨p, l, e, R, s, m, args, below, meth, c, cells, slots, QF, A, H0⟩ := X
  obtain ⟨hx, hb, -⟩ := C
  obtain ⟨s1, s2, s3⟩ := S
  intro lsA H locs hLR hW hS
  refine va_sld hx hb s1 s2 s3 hS (nI_in hj hL) hdg ?_
  rw [nI_clamp (Nat.lt_trans hj hL)]
  exact h lsA H locs hLR hW hS
theorem f_slen (C : CK E X own cc nL ret dep) (S : SX E X L xs) (hdg : decode cc pc = .ok (.arraylength, 1)) (h : G E X nL (pc + 1) ls (iv (nI L) :: st) mem) : G E X nL pc ls (rv (99, 0, 0) :: st) mem := by
  obtain ⟨p, l, e, R, s, m, args, below, meth, c, cells, slots, QF, A, H0⟩ := X
  obtain ⟨hx, hb, -⟩ := C
  obtain ⟨s1, s2, s3⟩ := S
  intro lsA H locs hLR hW hS
  exact va_slen hx hb s1 s2 s3 hS hdg (h lsA H locs hLR hW hS)
theorem e_callSX (C : CK E X own cc nL ret dep) (S : SX E X L xs) {y2 : MethodName} {cc2 : ByteArray} {nL2 index dep2 : Nat} {ret2 : Option FieldType} {RC : String} {As rest : List VV} {P : Int32 → MEM → Prop} (mi : MI y2 cc2 nL2 ret2 RC As.length) (ms : Cond.static y2 ∈ BW) (ml : Cond.methodLink own index y2 ∈ BW) (hdg : decode cc pc = .ok (.invokestatic index, 3)) (hst : st = As.reverse ++ rest) (hM : CtX E X.2.1 y2 (me_ws y2 cc2 nL2 ret2) dep2 As mem L xs (fun r m => ∃ x : Int32, r = iv x ∧ P x m)) (hdep : dep2 + 1 ≤ dep) (hrest : rest.length ≤ 8) (kk : ∀ (x : Int32) (m : MEM), P x m → G E X nL (pc + 3) ls (iv x :: rest) m) : G E X nL pc ls st mem := by
  obtain ⟨p, l, e, R, s, m, args, below, meth, c, cells, slots, QF, A, H0⟩ := X
  obtain ⟨hx, hb, hml, hfo, hts, hrt, hlk, hK, hA, hE, hfr, hlo, hce, hsl, hN⟩ := C
  obtain ⟨s1, s2, s3⟩ := S
  intro lsA H locs hL hW hS
  subst hst
  obtain ⟨mi1, mi2, mi3, mi4, mi5, mi6⟩ := mi
  have hAW : ¬ AW E (E.2.1 (99, 0, 0)) := fun ⟨id, h1, h2⟩ => s3 (by rw [h2]; exact hA id h1)
  have hXH : va_X (E.2.1 (99, 0, 0)) L xs s H := s1.kept (hS.2.1 _ s2 s3)
  have hbH : E.2.1 (99, 0, 0) < H.size := Nat.lt_of_lt_of_le s2 hS.1
  have cb : CallB R s args own index y2 cc2 nL2 ret2 (me_ws y2 cc2 nL2 ret2) (me_rm dep2) 0 0 As.length := callB_of As.length hts (me_good ⟨mi1, mi2, mi3, mi4, mi5, mi6⟩) rfl rfl rfl (by rw [mi3]; exact hts _ mi2) (hts _ ml) mi4 ⟨by show dep2 + 1 ≤ _; omega, by show 8 + (nL2 + 11) + 36 * dep2 ≤ _; omega⟩
  have hr := va_runS (p := p) (l := l) (e := e) (below := below) (meth := meth) (cells := cells) (slots := slots) (locs := locs) (H := H) (g := F0 m pc lsA ((As.reverse ++ rest).map (vv E))) (As := As.map (vv E)) (rest := rest.map (vv E)) (Qc := QcW E (fun r m => ∃ x : Int32, r = iv x ∧ P x m)) ⟨hx, hb, hml, hfo, hts⟩ (hM hE) ⟨cb, hts _ ms⟩ ⟨fun a U g mk q => ⟨q.1, ⟨q.2.1.1, va_K.moved (u := U) (U := U.calling g mk a) (Vm.Alike.refl U.vm) q.2.1.2.1, nest_same (u := U) rfl q.2.1.2.2⟩, va_X.moved (u := U) (U := U.calling g mk a) (Vm.Alike.refl U.vm) q.2.2.1, q.2.2.2⟩, fun U hU hWm => ⟨rfl, ⟨by rw [hU]; exact hW, va_K.moved hWm.alike hK, nest_warm hWm hN⟩, by rw [hU]; exact va_X.moved hWm.alike hXH, by rw [hU]; exact hbH, hAW⟩⟩ rfl (by simp) hL.1 (by simp) (lv_room (by rw [vv_cats]; exact hrest)) hdg ⟨hce, hsl⟩
  refine me_after hr hS hA fun r m' hq H1 locs1 hW1 hS1 => ?_
  obtain ⟨x, rfl, hP⟩ := hq
  exact kk x m' hP lsA H1 locs1 hL hW1 hS1
end MLW
set_option maxRecDepth 100000 in
set_option maxHeartbeats 4000000 in
theorem c_L_cell {E : EV} {l : Launch} {mem : MEM} {L : Nat} {xs : Nat → Int32} {k : Nat} (hk : k < 2 ^ 31) (hL : L < 2 ^ 31) : CtX E l yL_cell (me_ws yL_cell cL_cell 2 (some .int)) 1 [rv (99, 0, 0), iv (nI k)] mem L xs (fun rr mm => ∃ xx : Int32, rr = iv xx ∧ mm = mem) := by
  refine CtX.of (RC := RL) (ls0 := [rv (99, 0, 0), iv (nI k)]) mi_yL_cell (Nat.le_of_ble_eq_true rfl) rfl (fun X C hX S => ?_)
  refine e_iload_n C dL_cell_0 rfl ?_
  refine e_aload_n C dL_cell_1 rfl ?_
  refine f_slen C S dL_cell_2 ?_
  refine e_icmp_ge (tgt := 12) C dL_cell_3 (by decide) (fun h_3 => ?_) (fun h_3 => ?_)
  · skip
    have nh_3 := xI_leD (by omega) (by omega) h_3
    refine e_ldc (v := 32452867) C b_k_L_7 dL_cell_12 ?_
    refine e_iload_n C dL_cell_14 rfl ?_
    refine e_imul C dL_cell_15 ?_
    refine e_ldc (v := 15485863) C b_k_L_8 dL_cell_16 ?_
    refine e_iadd C dL_cell_18 ?_
    exact f_ii C hX dL_cell_19 rfl
  · skip
    have nh_3 := xI_nleD (by omega) (by omega) h_3
    refine e_aload_n C dL_cell_6 rfl ?_
    refine e_iload_n C dL_cell_7 rfl ?_
    refine f_sld C S (by omega) (by omega) dL_cell_8 ?_
    refine e_goto (tgt := 19) C dL_cell_9 (by decide) ?_
    exact f_ii C hX dL_cell_19 rfl
set_option maxRecDepth 100000 in
set_option maxHeartbeats 4000000 in
theorem la_tail {E : EV} {X : CX} (C : CK E X RL cL_law 19 (some .boolean) 9) {e : Nat} {h : Int32} {kd n q p : Nat} (he : e < 80) (hq : q < 12) {mem : MEM} {a : AS} {c : Nat} (hC : RC mem a) (hZ : LZ mem a.1 c) (hg : Good a.1) {x14 x15 x16 x17 x18 : VV} (kk : G E X 19 97 [rv (99, 0, 0), rv (0, 0, 0), rv (17, 0, 0), rv (18, 0, 0), rv (19, 0, 0), rv (20, 0, 0), rv (21, 0, 0), iv (nI (e + 1)), iv h, iv (nI kd), iv (nI n), iv (nI q), iv (nI p), iv (nI 1), x14, x15, x16, x17, x18] [] mem) : G E X 19 1869 [rv (99, 0, 0), rv (0, 0, 0), rv (17, 0, 0), rv (18, 0, 0), rv (19, 0, 0), rv (20, 0, 0), rv (21, 0, 0), iv (nI e), iv h, iv (nI kd), iv (nI n), iv (nI q), iv (nI p), iv (nI 1), x14, x15, x16, x17, x18] [] mem := by
  have hI := hZ.good hg
  refine e_iload C dL_law_1869 rfl ?_
  refine e_if_eq (tgt := 1922) C dL_law_1871 (by decide) (fun h_1871 => ?_) (fun h_1871 => ?_)
  · skip
    exact absurd h_1871 (by decide)
  · skip
    have nh_1871 := xI_neD (a := 1) (b := 0) h_1871
    refine e_aload_n C dL_law_1874 rfl ?_
    refine e_aload_n C dL_law_1875 rfl ?_
    refine e_aload_n C dL_law_1876 rfl ?_
    refine e_aload C dL_law_1877 rfl ?_
    refine e_aload C dL_law_1879 rfl ?_
    refine e_iload C dL_law_1881 rfl ?_
    refine f_callSr (As := [_, _, _, _, _, _]) C mi_yL_places b_st_yL_places b_ml_L_157 dL_law_1883 rfl (c_L_places hC.1 hZ hI hq) (by decide) (Nat.le_of_ble_eq_true rfl) ?_
    refine f_if_eq (tgt := 1922) C dL_law_1886 (by decide) (fun h_1886 => ?_) (fun h_1886 => ?_)
    · skip
      exact absurd trivial h_1886
    · skip
      refine e_aload_n C dL_law_1889 rfl ?_
      refine e_aload_n C dL_law_1890 rfl ?_
      refine e_aload_n C dL_law_1891 rfl ?_
      refine e_aload C dL_law_1892 rfl ?_
      refine e_aload C dL_law_1894 rfl ?_
      refine e_iload C dL_law_1896 rfl ?_
      refine e_bipush (v := nI 9) C dL_law_1898 (by decide) ?_
      refine e_ishr C dL_law_1900 ?_
      refine e_bipush (v := nI 12) C dL_law_1901 (by decide) ?_
      refine f_callSi (As := [_, _]) C mi_yL_low b_st_yL_low b_ml_L_41 dL_law_1903 rfl (c_L_low_n (N := 12) (by omega) (by omega)) (by decide) (Nat.le_of_ble_eq_true rfl) (fun x_1903 m_1903 hc_1903 => ?_)
      obtain ⟨⟨zk1, hzk1, hx_1903⟩, hm_1903⟩ := hc_1903
      rw [hx_1903, hm_1903]
      refine e_iload C dL_law_1906 rfl ?_
      refine e_bipush (v := nI 13) C dL_law_1908 (by decide) ?_
      refine e_ishr C dL_law_1910 ?_
      refine e_bipush (v := nI 12) C dL_law_1911 (by decide) ?_
      refine f_callSi (As := [_, _]) C mi_yL_low b_st_yL_low b_ml_L_41 dL_law_1913 rfl (c_L_low_n (N := 12) (by omega) (by omega)) (by decide) (Nat.le_of_ble_eq_true rfl) (fun x_1913 m_1913 hc_1913 => ?_)
      obtain ⟨⟨zk2, hzk2, hx_1913⟩, hm_1913⟩ := hc_1913
      rw [hx_1913, hm_1913]
      refine f_callSr (As := [_, _, _, _, _, _, _]) C mi_yL_sessions b_st_yL_sessions b_ml_L_161 dL_law_1916 rfl (c_L_sessions hC.1 hZ hI hzk1 hzk2) (by decide) (Nat.le_of_ble_eq_true rfl) ?_
      refine f_if_ne (tgt := 1924) C dL_law_1919 (by decide) (fun h_1919 => ?_) (fun h_1919 => ?_)
      · skip
        refine f_iincn (ls1 := [_, _, _, _, _, _, _, _, _, _, _, _, _, _, _, _, _, _, _]) C dL_law_1924 rfl (by decide) rfl ?_
        refine e_goto (tgt := 97) C dL_law_1927 (by decide) ?_
        exact kk
      · skip
        exact absurd trivial h_1919
set_option maxRecDepth 100000 in
set_option maxHeartbeats 4000000 in
theorem law_loop {E : EV} {X : CX} {L : Nat} {xs : Nat → Int32} (C : CK E X RL cL_law 19 (some .boolean) 9) (S : SX E X L xs) (hL : L ≤ 260) (kend : ∀ m ls, G E X 19 1931 ls [iv (nI 1)] m) : ∀ (lpn : Nat) (e : Nat) (x8 x9 x10 x11 x12 x13 x14 x15 x16 x17 x18 : VV) (mem : MEM) (a : AS) (c : Nat), 80 - e < lpn → e ≤ 80 → RC mem a → LZ mem a.1 c → Good a.1 → G E X 19 97 [rv (99, 0, 0), rv (0, 0, 0), rv (17, 0, 0), rv (18, 0, 0), rv (19, 0, 0), rv (20, 0, 0), rv (21, 0, 0), iv (nI e), x8, x9, x10, x11, x12, x13, x14, x15, x16, x17, x18] [] mem := by
  intro lpn
  induction lpn with
  | zero => intro e x8 x9 x10 x11 x12 x13 x14 x15 x16 x17 x18 mem a c hlpn; exact absurd hlpn (Nat.not_lt_zero _)
  | succ lpn ih =>
    intro e x8 x9 x10 x11 x12 x13 x14 x15 x16 x17 x18 mem a c hlpn he hC hZ hg
    refine e_iload C dL_law_97 rfl ?_
    refine e_bipush (v := nI 80) C dL_law_99 (by decide) ?_
    refine e_icmp_ge (tgt := 1930) C dL_law_101 (by decide) (fun h_101 => ?_) (fun h_101 => ?_)
    · skip
      have nh_101 := xI_leD (by omega) (by omega) h_101
      refine e_iconst (v := nI 1) C dL_law_1930 (by decide) ?_
      exact kend _ _
    · skip
      have nh_101 := xI_nleD (by omega) (by omega) h_101
      refine e_aload_n C dL_law_104 rfl ?_
      refine e_iload C dL_law_105 rfl ?_
      refine e_callSX (As := [rv (99, 0, 0), iv (nI e)]) C S mi_yL_cell b_st_yL_cell b_ml_L_96 dL_law_107 rfl (c_L_cell (by omega) (by omega)) (by decide) (Nat.le_of_ble_eq_true rfl) (fun zh zm1 hzm1 => ?_)
      rw [hzm1]
      refine f_istore (ls1 := [_, _, _, _, _, _, _, _, _, _, _, _, _, _, _, _, _, _, _]) C dL_law_110 (by decide) rfl ?_
      refine e_iload C dL_law_112 rfl ?_
      refine e_bipush (v := nI 24) C dL_law_114 (by decide) ?_
      refine f_callSi (As := [_, _]) C mi_yL_low b_st_yL_low b_ml_L_41 dL_law_116 rfl (c_L_low_n (N := 24) (by omega) (by omega)) (by decide) (Nat.le_of_ble_eq_true rfl) (fun x_116 m_116 hc_116 => ?_)
      obtain ⟨⟨zkd, hzkd, hx_116⟩, hm_116⟩ := hc_116
      rw [hx_116, hm_116]
      refine f_istore (ls1 := [_, _, _, _, _, _, _, _, _, _, _, _, _, _, _, _, _, _, _]) C dL_law_119 (by decide) rfl ?_
      refine e_iload C dL_law_121 rfl ?_
      refine e_iconst (v := nI 5) C dL_law_123 (by decide) ?_
      refine e_ishr C dL_law_124 ?_
      refine e_iconst (v := nI 4) C dL_law_125 (by decide) ?_
      refine f_callSi (As := [_, _]) C mi_yL_low b_st_yL_low b_ml_L_41 dL_law_126 rfl (c_L_low_n (N := 4) (by omega) (by omega)) (by decide) (Nat.le_of_ble_eq_true rfl) (fun x_126 m_126 hc_126 => ?_)
      obtain ⟨⟨zn, hzn, hx_126⟩, hm_126⟩ := hc_126
      rw [hx_126, hm_126]
      refine f_istore (ls1 := [_, _, _, _, _, _, _, _, _, _, _, _, _, _, _, _, _, _, _]) C dL_law_129 (by decide) rfl ?_
      refine e_iload C dL_law_131 rfl ?_
      refine e_bipush (v := nI 7) C dL_law_133 (by decide) ?_
      refine e_ishr C dL_law_135 ?_
      refine e_iload C dL_law_136 rfl ?_
      refine e_bipush (v := nI 25) C dL_law_138 (by decide) ?_
      refine e_ishr C dL_law_140 ?_
      refine e_iconst (v := nI 2) C dL_law_141 (by decide) ?_
      refine f_callSi (As := [_, _]) C mi_yL_low b_st_yL_low b_ml_L_41 dL_law_142 rfl (c_L_low_n (N := 2) (by omega) (by omega)) (by decide) (Nat.le_of_ble_eq_true rfl) (fun x_142 m_142 hc_142 => ?_)
      obtain ⟨⟨zj, hzj, hx_142⟩, hm_142⟩ := hc_142
      rw [hx_142, hm_142]
      refine e_cutn1 (tgt := 154) (P := fun x => x = 12 ∨ x = 3) ?_ ?_
      · intro x_145 hx_145
        refine f_callSi (As := [_, _]) C mi_yL_low b_st_yL_low b_ml_L_41 dL_law_154 rfl (c_L_low_n (N := x_145) (by omega) (by omega)) (by decide) (Nat.le_of_ble_eq_true rfl) (fun x_154 m_154 hc_154 => ?_)
        obtain ⟨⟨zq, hzq, hx_154⟩, hm_154⟩ := hc_154
        rw [hx_154, hm_154]
        refine f_istore (ls1 := [_, _, _, _, _, _, _, _, _, _, _, _, _, _, _, _, _, _, _]) C dL_law_157 (by decide) rfl ?_
        refine e_aload_n C dL_law_159 rfl ?_
        refine e_iload C dL_law_160 rfl ?_
        refine e_bipush (v := nI 11) C dL_law_162 (by decide) ?_
        refine e_ishr C dL_law_164 ?_
        refine f_callSi (As := [_, _]) C mi_yL_place b_st_yL_place b_ml_L_99 dL_law_165 rfl c_L_place (by decide) (Nat.le_of_ble_eq_true rfl) (fun x_165 m_165 hc_165 => ?_)
        obtain ⟨⟨zp, hzp, hx_165⟩, hm_165⟩ := hc_165
        rw [hx_165, hm_165]
        refine f_istore (ls1 := [_, _, _, _, _, _, _, _, _, _, _, _, _, _, _, _, _, _, _]) C dL_law_168 (by decide) rfl ?_
        refine e_iconst (v := nI 1) C dL_law_170 (by decide) ?_
        refine f_istore (ls1 := [_, _, _, _, _, _, _, _, _, _, _, _, _, _, _, _, _, _, _]) C dL_law_171 (by decide) rfl ?_
        exact la_step C hzn (by omega) hzp hC hZ (hZ.good hg) (by omega) hzkd (fun m2 a2 c2 y14 y15 y16 y17 y18 hC2 hZ2 hg2 => la_tail C (by omega) (by omega) hC2 hZ2 hg2 (ih (e + 1) _ _ _ _ _ _ _ _ _ _ _ m2 a2 c2 (by omega) (by omega) hC2 hZ2 hg2))
      · intro kc_145
        refine e_if_ne (tgt := 153) C dL_law_145 (by decide) (fun h_145 => ?_) (fun h_145 => ?_)
        · skip
          have nh_145 := xI_neD (a := zj) (b := 0) h_145
          refine e_iconst (v := nI 3) C dL_law_153 (by decide) ?_
          exact kc_145 _ (by omega)
        · skip
          have nh_145 := xI_inj (a := zj) (b := 0) (by omega) (by omega) h_145
          refine e_bipush (v := nI 12) C dL_law_148 (by decide) ?_
          refine e_goto (tgt := 154) C dL_law_150 (by decide) ?_
          exact kc_145 _ (by omega)
noncomputable def z00 : ZZ := fun j => if 1 ≤ j ∧ j ≤ 3 then nI 0 - nI 6 else 0
noncomputable def a00 : AS := (z00, (0, fun _ => z00), none, (0, fun _ => 0))
theorem z00_0 {j : Nat} (h : 4 ≤ j) : z00 j = 0 := by
  show (if 1 ≤ j ∧ j ≤ 3 then nI 0 - nI 6 else 0) = 0
  rw [if_neg (by omega)]
theorem n01 : ¬ (0 : Int32) = 1 := by decide
theorem RC_00 : RC M0 a00 := by
  refine ⟨⟨rfl, rfl, fun q => absurd (show z00 1 = -6 by decide) q, rfl, fun r hr w hw => ?_, fun s hs => ⟨?_, fun q => ?_⟩, fun j hj => ⟨?_, ?_, ?_⟩⟩, ⟨Nat.zero_le _, 0, by decide, rfl, rfl, fun i hi => absurd hi (Nat.not_lt_zero i)⟩, rfl, Nat.zero_le _, rfl, fun j hj => absurd hj (Nat.not_lt_zero j)⟩
  · exact (z00_0 (by omega)).symm
  · exact (z00_0 (by omega)).symm
  · exact absurd ((z00_0 (by omega)).symm.trans q) n01
  · exact (z00_0 (by omega)).symm
  · exact (z00_0 (by omega)).symm
  · exact (z00_0 (by omega)).symm
theorem Good_00 : Good a00.1 := by
  refine ⟨0, ⟨Nat.zero_le _, rfl, fun r hr => ⟨Or.inl (z00_0 (by omega)), fun q => absurd ((z00_0 (by omega)).symm.trans q) n01⟩, fun s hs => ⟨Or.inl (z00_0 (by omega)), fun q => absurd ((z00_0 (by omega)).symm.trans q) n01⟩⟩, fun j hj => absurd hj (Nat.not_lt_zero j), fun s hs q => absurd ((z00_0 (by omega)).symm.trans q) n01, fun _ => ⟨by decide, by decide⟩⟩
def IN1 (m : MEM) (k j : Nat) : Prop := (∀ id, id ≠ (18, 0, 0) → id ≠ (19, 0, 0) → m id = M0 id) ∧ (∀ i, i < k → m (18, 0, 0) i = -1) ∧ ∀ i, i < j → m (19, 0, 0) i = -1
theorem IN1.r {m : MEM} {k j : Nat} (h : IN1 m k j) : IN1 (up m (18, 0, 0) k (-1)) (k + 1) j := by
  obtain ⟨h1, h2, h3⟩ := h
  refine ⟨fun id a b => (up_o a).trans (h1 id a b), fun i hi => ?_, fun i hi => ?_⟩
  · rw [up_s]
    by_cases e : i = k
    · rw [if_pos e]
    · rw [if_neg e]; exact h2 i (by omega)
  · rw [up_o (show ((19, 0, 0) : ID) ≠ (18, 0, 0) by decide)]; exact h3 i hi
theorem IN1.s {m : MEM} {k j : Nat} (h : IN1 m k j) : IN1 (up m (19, 0, 0) j (-1)) k (j + 1) := by
  obtain ⟨h1, h2, h3⟩ := h
  refine ⟨fun id a b => (up_o b).trans (h1 id a b), fun i hi => ?_, fun i hi => ?_⟩
  · rw [up_o (show ((18, 0, 0) : ID) ≠ (19, 0, 0) by decide)]; exact h2 i hi
  · rw [up_s]
    by_cases e : i = j
    · rw [if_pos e]
    · rw [if_neg e]; exact h3 i (by omega)
theorem IN1.done {m : MEM} (h : IN1 m 5 4) : FrM M0 (up (up (up m (21, 0, 0) 2 (-6)) (21, 0, 0) 3 (-6)) (21, 0, 0) 4 (-6)) ∧ LZ (up (up (up m (21, 0, 0) 2 (-6)) (21, 0, 0) 3 (-6)) (21, 0, 0) 4 (-6)) z00 0 := by
  obtain ⟨h1, h2, h3⟩ := h
  have e21 : m (21, 0, 0) = M0 (21, 0, 0) := h1 _ (by decide) (by decide)
  refine ⟨fun id hid => ?_, ⟨Nat.zero_le _, fun j hj => absurd hj (Nat.not_lt_zero j)⟩, fun n hn => ⟨fun q => absurd ((z00_0 (by omega)).symm.trans q) n01, fun _ => ?_⟩, fun n hn => ⟨fun q => absurd ((z00_0 (by omega)).symm.trans q) n01, fun _ => ?_⟩, fun n a b => z00_0 (by omega), ?_⟩
  · have hne : ∀ t : Nat, 16 < t → id ≠ (t, 0, 0) := fun t ht e => by rw [e] at hid; exact absurd hid (by show ¬ t ≤ 16; omega)
    rw [up_o (hne 21 (by decide)), up_o (hne 21 (by decide)), up_o (hne 21 (by decide))]
    exact h1 id (hne 18 (by decide)) (hne 19 (by decide))
  · rw [up_o (show ((18, 0, 0) : ID) ≠ (21, 0, 0) by decide), up_o (show ((18, 0, 0) : ID) ≠ (21, 0, 0) by decide), up_o (show ((18, 0, 0) : ID) ≠ (21, 0, 0) by decide)]
    exact h2 n hn
  · rw [up_o (show ((19, 0, 0) : ID) ≠ (21, 0, 0) by decide), up_o (show ((19, 0, 0) : ID) ≠ (21, 0, 0) by decide), up_o (show ((19, 0, 0) : ID) ≠ (21, 0, 0) by decide)]
    exact h3 n hn
  · unfold LTt
    refine ⟨?_, rfl, ?_, ?_, ?_, ?_⟩
    · rw [up_s, up_s, up_s, if_neg (by decide), if_neg (by decide), if_neg (by decide), e21]; rfl
    · rw [up_s, up_s, up_s, if_neg (by decide), if_neg (by decide), if_neg (by decide), e21]; rfl
    · rw [up_s, up_s, up_s, if_neg (by decide), if_neg (by decide), if_pos rfl]; decide
    · rw [up_s, up_s, if_neg (by decide), if_pos rfl]; decide
    · rw [up_s, if_pos rfl]; decide

set_option maxRecDepth 100000 in
set_option maxHeartbeats 4000000 in
theorem lw_ini2 {E : EV} {X : CX} (kk : ∀ m, FrM M0 m → LZ m z00 0 → G E X 19 97 [rv (99, 0, 0), rv (0, 0, 0), rv (17, 0, 0), rv (18, 0, 0), rv (19, 0, 0), rv (20, 0, 0), rv (21, 0, 0), iv (nI 0), uv, uv, uv, uv, uv, uv, uv, uv, uv, uv, uv] [] m) (C : CK E X RL cL_law 19 (some .boolean) 9) : ∀ (lpn : Nat) (k : Nat) (m : MEM), 4 - k < lpn → (k ≤ 4) → (IN1 m 5 k) → G E X 19 58 [rv (99, 0, 0), rv (0, 0, 0), rv (17, 0, 0), rv (18, 0, 0), rv (19, 0, 0), rv (20, 0, 0), rv (21, 0, 0), iv (nI k), uv, uv, uv, uv, uv, uv, uv, uv, uv, uv, uv] [] m := by
  intro lpn
  induction lpn with
  | zero => intro k m hlpn; exact absurd hlpn (Nat.not_lt_zero _)
  | succ lpn ih =>
    intro k m hlpn hk hm
    refine e_iload C dL_law_58 rfl ?_
    refine e_iconst (v := nI 4) C dL_law_60 (by decide) ?_
    refine e_icmp_ge (tgt := 76) C dL_law_61 (by decide) (fun h_61 => ?_) (fun h_61 => ?_)
    · skip
      have nh_61 := xI_leD (by omega) (by omega) h_61
      refine e_aload C dL_law_76 rfl ?_
      refine e_iconst (v := nI 2) C dL_law_78 (by decide) ?_
      refine e_bipush (v := -6) C dL_law_79 (by decide) ?_
      refine f_iast C rfl v21 (by omega) (by decide) dL_law_81 ?_
      refine e_aload C dL_law_82 rfl ?_
      refine e_iconst (v := nI 3) C dL_law_84 (by decide) ?_
      refine e_bipush (v := -6) C dL_law_85 (by decide) ?_
      refine f_iast C rfl v21 (by omega) (by decide) dL_law_87 ?_
      refine e_aload C dL_law_88 rfl ?_
      refine e_iconst (v := nI 4) C dL_law_90 (by decide) ?_
      refine e_bipush (v := -6) C dL_law_91 (by decide) ?_
      refine f_iast C rfl v21 (by omega) (by decide) dL_law_93 ?_
      refine e_iconst (v := nI 0) C dL_law_94 (by decide) ?_
      refine f_istore (ls1 := [_, _, _, _, _, _, _, _, _, _, _, _, _, _, _, _, _, _, _]) C dL_law_95 (by decide) rfl ?_
      obtain rfl : k = 4 := by omega
      exact kk _ hm.done.1 hm.done.2
    · skip
      have nh_61 := xI_nleD (by omega) (by omega) h_61
      refine e_aload C dL_law_64 rfl ?_
      refine e_iload C dL_law_66 rfl ?_
      refine e_iconst (v := -1) C dL_law_68 (by decide) ?_
      refine f_iast C rfl v19 (by omega) (by decide) dL_law_69 ?_
      refine f_iincn (ls1 := [_, _, _, _, _, _, _, _, _, _, _, _, _, _, _, _, _, _, _]) C dL_law_70 rfl (by decide) rfl ?_
      refine e_goto (tgt := 58) C dL_law_73 (by decide) ?_
      exact ih (k + 1) _ (by omega) (by omega) hm.s
set_option maxRecDepth 100000 in
set_option maxHeartbeats 4000000 in
theorem lw_ini1 {E : EV} {X : CX} (kk : ∀ m, FrM M0 m → LZ m z00 0 → G E X 19 97 [rv (99, 0, 0), rv (0, 0, 0), rv (17, 0, 0), rv (18, 0, 0), rv (19, 0, 0), rv (20, 0, 0), rv (21, 0, 0), iv (nI 0), uv, uv, uv, uv, uv, uv, uv, uv, uv, uv, uv] [] m) (C : CK E X RL cL_law 19 (some .boolean) 9) : ∀ (lpn : Nat) (k : Nat) (m : MEM), 5 - k < lpn → (k ≤ 5) → (IN1 m k 0) → G E X 19 38 [rv (99, 0, 0), rv (0, 0, 0), rv (17, 0, 0), rv (18, 0, 0), rv (19, 0, 0), rv (20, 0, 0), rv (21, 0, 0), iv (nI k), uv, uv, uv, uv, uv, uv, uv, uv, uv, uv, uv] [] m := by
  intro lpn
  induction lpn with
  | zero => intro k m hlpn; exact absurd hlpn (Nat.not_lt_zero _)
  | succ lpn ih =>
    intro k m hlpn hk hm
    refine e_iload C dL_law_38 rfl ?_
    refine e_iconst (v := nI 5) C dL_law_40 (by decide) ?_
    refine e_icmp_ge (tgt := 55) C dL_law_41 (by decide) (fun h_41 => ?_) (fun h_41 => ?_)
    · skip
      have nh_41 := xI_leD (by omega) (by omega) h_41
      obtain rfl : k = 5 := by omega
      refine e_iconst (v := nI 0) C dL_law_55 (by decide) ?_
      refine f_istore (ls1 := [_, _, _, _, _, _, _, _, _, _, _, _, _, _, _, _, _, _, _]) C dL_law_56 (by decide) rfl ?_
      exact lw_ini2 kk C 5 0 m (by omega) (by omega) hm
    · skip
      have nh_41 := xI_nleD (by omega) (by omega) h_41
      refine e_aload_n C dL_law_44 rfl ?_
      refine e_iload C dL_law_45 rfl ?_
      refine e_iconst (v := -1) C dL_law_47 (by decide) ?_
      refine f_iast C rfl v18 (by omega) (by decide) dL_law_48 ?_
      refine f_iincn (ls1 := [_, _, _, _, _, _, _, _, _, _, _, _, _, _, _, _, _, _, _]) C dL_law_49 rfl (by decide) rfl ?_
      refine e_goto (tgt := 38) C dL_law_52 (by decide) ?_
      exact ih (k + 1) _ (by omega) (by omega) hm.r
set_option maxRecDepth 100000 in
set_option maxHeartbeats 4000000 in
theorem law_init {E : EV} {X : CX} (C : CK E X RL cL_law 19 (some .boolean) 9) (kk : ∀ m, FrM M0 m → LZ m z00 0 → G E X 19 97 [rv (99, 0, 0), rv (0, 0, 0), rv (17, 0, 0), rv (18, 0, 0), rv (19, 0, 0), rv (20, 0, 0), rv (21, 0, 0), iv (nI 0), uv, uv, uv, uv, uv, uv, uv, uv, uv, uv, uv] [] m) : G E X 19 35 [rv (99, 0, 0), rv (0, 0, 0), rv (17, 0, 0), rv (18, 0, 0), rv (19, 0, 0), rv (20, 0, 0), rv (21, 0, 0), uv, uv, uv, uv, uv, uv, uv, uv, uv, uv, uv, uv] [] M0 := by
  refine e_iconst (v := nI 0) C dL_law_35 (by decide) ?_
  refine f_istore (ls1 := [_, _, _, _, _, _, _, _, _, _, _, _, _, _, _, _, _, _, _]) C dL_law_36 (by decide) rfl ?_
  exact lw_ini1 kk C 6 0 M0 (by omega) (by omega) ⟨fun _ _ _ => rfl, fun i hi => absurd hi (Nat.not_lt_zero i), fun i hi => absurd hi (Nat.not_lt_zero i)⟩
