/-! ===== the law's arms, the rest ===== -/
set_option maxRecDepth 100000 in
set_option maxHeartbeats 4000000 in
theorem la_write {E : EV} {X : CX} (C : CK E X RL cL_law 19 (some .boolean) 9) {e : Nat} {h : Int32} {kd n q p : Nat} (hn : n < 4) (hq : q < 12) (hp : p = 9 ∨ p < 5) {mem : MEM} {a : AS} {c : Nat} (hC : RC mem a) (hZ : LZ mem a.1 c) (hI : GoodC a.1 c) (ho : sz a.1 n 0 = 1) (hcl : c < 60) {x14 x15 x16 x17 x18 : VV} (kk : ∀ (m : MEM) (a : AS) (c : Nat) (x14 x15 x16 x17 x18 : VV), RC m a → LZ m a.1 c → Good a.1 → G E X 19 1869 [rv (99, 0, 0), rv (0, 0, 0), rv (17, 0, 0), rv (18, 0, 0), rv (19, 0, 0), rv (20, 0, 0), rv (21, 0, 0), iv (nI e), iv h, iv (nI kd), iv (nI n), iv (nI q), iv (nI p), iv (nI 1), x14, x15, x16, x17, x18] [] m) : G E X 19 1144 [rv (99, 0, 0), rv (0, 0, 0), rv (17, 0, 0), rv (18, 0, 0), rv (19, 0, 0), rv (20, 0, 0), rv (21, 0, 0), iv (nI e), iv h, iv (nI kd), iv (nI n), iv (nI q), iv (nI p), iv (nI 1), x14, x15, x16, x17, x18] [] mem := by
  have hc60 := hZ.c60
  refine e_iload C dL_law_1144 rfl ?_
  refine e_bipush (v := nI 17) C dL_law_1146 (by decide) ?_
  refine e_ishr C dL_law_1148 ?_
  refine e_sipush (v := nI 1000) C dL_law_1149 (by decide) ?_
  refine f_callSi (As := [_, _]) C mi_yL_low b_st_yL_low b_ml_L_41 dL_law_1152 rfl (c_L_low_n (N := 1000) (by omega) (by omega)) (by decide) (Nat.le_of_ble_eq_true rfl) (fun x_1152 m_1152 hc_1152 => ?_)
  obtain ⟨⟨zv, hzv, hx_1152⟩, hm_1152⟩ := hc_1152
  rw [hx_1152, hm_1152]
  refine f_istore (ls1 := [_, _, _, _, _, _, _, _, _, _, _, _, _, _, _, _, _, _, _]) C dL_law_1155 (by decide) rfl ?_
  refine e_aload_n C dL_law_1157 rfl ?_
  refine e_aload C dL_law_1158 rfl ?_
  refine e_iconst (v := nI 0) C dL_law_1160 (by decide) ?_
  refine f_iald C rfl v21 (by omega) (by decide) dL_law_1161 ?_
  refine f_val (y := nI (c)) hZ.t0 ?_
  refine e_iload C dL_law_1162 rfl ?_
  refine e_bipush (v := nI 12) C dL_law_1164 (by decide) ?_
  refine e_iload C dL_law_1166 rfl ?_
  refine f_imuln C dL_law_1168 ?_
  refine f_iaddn C dL_law_1169 ?_
  refine e_sipush (v := nI 12000) C dL_law_1170 (by decide) ?_
  refine e_iload C dL_law_1173 rfl ?_
  refine f_imuln C dL_law_1175 ?_
  refine f_iaddn C dL_law_1176 ?_
  refine f_iast C rfl v17 (by omega) (by decide) dL_law_1177 ?_
  refine e_aload C dL_law_1178 rfl ?_
  refine e_iconst (v := nI 0) C dL_law_1180 (by decide) ?_
  refine e_dup2 C dL_law_1181 ?_
  refine f_iald C rfl v21 (by omega) (by decide) dL_law_1182 ?_
  refine f_val (y := nI (c)) (by rw [up_o (show ((21, 0, 0) : ID) ≠ (17, 0, 0) by decide)]; exact hZ.t0) ?_
  refine e_iconst (v := nI 1) C dL_law_1183 (by decide) ?_
  refine f_iaddn C dL_law_1184 ?_
  refine f_iast C rfl v21 (by omega) (by decide) dL_law_1185 ?_
  refine e_aload C dL_law_1186 rfl ?_
  refine e_bipush (v := nI 12) C dL_law_1188 (by decide) ?_
  refine e_iload C dL_law_1190 rfl ?_
  refine f_iaddn C dL_law_1192 ?_
  refine e_aload C dL_law_1193 rfl ?_
  refine e_iconst (v := nI 0) C dL_law_1195 (by decide) ?_
  refine f_iald C rfl v21 (by omega) (by decide) dL_law_1196 ?_
  refine f_val (y := nI (c + 1)) (by rw [up_s, if_pos rfl]) ?_
  refine f_iast C rfl v19 (by omega) (by decide) dL_law_1197 ?_
  refine e_setm (P := fun m => LZ m (wrz a.1 n q (nI zv) c) (c + 1) ∧ FrM mem m) ⟨hZ.write hn ho hq hzv hcl, ((FrM.rfl'.law (by decide)).law (by decide)).law (by decide)⟩ (fun m1 h1 => ?_)
  obtain ⟨hZ1, hF1m⟩ := h1
  have hfw : fWrite a.1 (nI n) (nI q) (nI zv) = (nI (c + 1), wrz a.1 n q (nI zv) c) := fWrite_yes (by omega) ho hq (by omega) hZ.z0 (by omega)
  refine e_aload_n C dL_law_1198 rfl ?_
  refine e_iload C dL_law_1199 rfl ?_
  refine e_iload C dL_law_1201 rfl ?_
  refine e_iload C dL_law_1203 rfl ?_
  refine f_callVi (As := [_, _, _]) (ci := 6) C mi_yX6_write mv_yX6_write b_ml_L_135 dL_law_1205 rfl (c_X6_write (hC.frM hF1m) hI.1) (by decide) v0 rfl rfl (Nat.le_of_ble_eq_true rfl) (fun x_1205 m_1205 hc_1205 => ?_)
  obtain ⟨hx_1205, hC2, hF2⟩ := hc_1205
  have hZ2 := hZ1.fr hF2
  refine e_aload C dL_law_1208 rfl ?_
  refine e_iconst (v := nI 0) C dL_law_1210 (by decide) ?_
  refine f_iald C rfl v21 (by omega) (by decide) dL_law_1211 ?_
  refine f_val (y := nI (c + 1)) hZ2.t0 ?_
  rw [hx_1205, hfw]
  refine e_icmp_ne (tgt := 1219) C dL_law_1212 (by decide) (fun h_1212 => ?_) (fun h_1212 => ?_)
  · skip
    exact absurd rfl h_1212
  · skip
    refine e_iconst (v := nI 1) C dL_law_1215 (by decide) ?_
    refine e_goto (tgt := 1220) C dL_law_1216 (by decide) ?_
    refine f_istore (ls1 := [_, _, _, _, _, _, _, _, _, _, _, _, _, _, _, _, _, _, _]) C dL_law_1220 (by decide) rfl ?_
    refine e_goto (tgt := 1869) C dL_law_1222 (by decide) ?_
    exact kk _ _ (c + 1) _ _ _ _ _ hC2 (by show LZ _ (fWrite a.1 (nI n) (nI q) (nI zv)).2 (c + 1); rw [hfw]; exact hZ2) (Good.wri ⟨c, hI⟩)
set_option maxRecDepth 100000 in
set_option maxHeartbeats 4000000 in
theorem la_read {E : EV} {X : CX} (C : CK E X RL cL_law 19 (some .boolean) 9) {e : Nat} {h : Int32} {kd n q p : Nat} (hn : n < 4) (hq : q < 12) (hp : p = 9 ∨ p < 5) {mem : MEM} {a : AS} {c : Nat} (hC : RC mem a) (hZ : LZ mem a.1 c) (hI : GoodC a.1 c) (ho : sz a.1 n 0 = 1) {x14 x15 x16 x17 x18 : VV} (kk : ∀ (m : MEM) (a : AS) (c : Nat) (x14 x15 x16 x17 x18 : VV), RC m a → LZ m a.1 c → Good a.1 → G E X 19 1869 [rv (99, 0, 0), rv (0, 0, 0), rv (17, 0, 0), rv (18, 0, 0), rv (19, 0, 0), rv (20, 0, 0), rv (21, 0, 0), iv (nI e), iv h, iv (nI kd), iv (nI n), iv (nI q), iv (nI p), iv (nI 1), x14, x15, x16, x17, x18] [] m) : G E X 19 1232 [rv (99, 0, 0), rv (0, 0, 0), rv (17, 0, 0), rv (18, 0, 0), rv (19, 0, 0), rv (20, 0, 0), rv (21, 0, 0), iv (nI e), iv h, iv (nI kd), iv (nI n), iv (nI q), iv (nI p), iv (nI 1), x14, x15, x16, x17, x18] [] mem := by
  have hc60 := hZ.c60
  obtain ⟨zph, zbnd, eh, hph, hp10, hzb, ebnd⟩ := hI.1.home (by omega : n < 8) ho
  have hwb := wg_b (key := nI q) hI.1 (by omega) ho hph
  obtain ⟨-, -, -, hb8⟩ := hZ.bits hI.2 hn ho
  refine e_aload_n C dL_law_1232 rfl ?_
  refine e_aload_n C dL_law_1233 rfl ?_
  refine e_aload C dL_law_1234 rfl ?_
  refine e_aload C dL_law_1236 rfl ?_
  refine e_iload C dL_law_1238 rfl ?_
  refine e_iload C dL_law_1240 rfl ?_
  refine e_aload C dL_law_1242 rfl ?_
  refine e_iload C dL_law_1244 rfl ?_
  refine f_iald C rfl v19 (by omega) (by decide) dL_law_1246 ?_
  refine f_val (y := nI (zph)) (by rw [hZ.s_home hn ho]; exact eh) ?_
  refine f_callSr (As := [_, _, _, _, _, _, _]) C mi_yL_wait b_st_yL_wait b_ml_L_78 dL_law_1247 rfl (c_L_wait hZ hI hn ho hq hph) (by decide) (Nat.le_of_ble_eq_true rfl) ?_
  refine f_istore (ls1 := [_, _, _, _, _, _, _, _, _, _, _, _, _, _, _, _, _, _, _]) C dL_law_1250 (by decide) rfl ?_
  refine e_iload C dL_law_1252 rfl ?_
  refine e_cutn1 (tgt := 1275) (P := fun x => (x = 1 ∧ (¬ waitg a.1 n (nI q) (nI zph) = -6 ∧ waitg a.1 n (nI q) (nI zph) ≤ sz a.1 n 3)) ∨ (x = 0 ∧ ¬ (¬ waitg a.1 n (nI q) (nI zph) = -6 ∧ waitg a.1 n (nI q) (nI zph) ≤ sz a.1 n 3))) ?_ ?_
  · intro x_1254 hx_1254
    refine f_istore (ls1 := [_, _, _, _, _, _, _, _, _, _, _, _, _, _, _, _, _, _, _]) C dL_law_1275 (by decide) rfl ?_
    refine e_iload C dL_law_1277 rfl ?_
    refine e_cutn1 (tgt := 1302) (P := fun x => (x = 1 ∧ (x_1254 = 0 ∧ hasz a.1 n (nI 8))) ∨ (x = 0 ∧ ¬ (x_1254 = 0 ∧ hasz a.1 n (nI 8)))) ?_ ?_
    · intro x_1279 hx_1279
      refine f_istore (ls1 := [_, _, _, _, _, _, _, _, _, _, _, _, _, _, _, _, _, _, _]) C dL_law_1302 (by decide) rfl ?_
      refine e_bipush (v := -3) C dL_law_1304 (by decide) ?_
      refine f_istore (ls1 := [_, _, _, _, _, _, _, _, _, _, _, _, _, _, _, _, _, _, _]) C dL_law_1306 (by decide) rfl ?_
      refine e_iload C dL_law_1308 rfl ?_
      refine e_if_eq (tgt := 1348) C dL_law_1310 (by decide) (fun h_1310 => ?_) (fun h_1310 => ?_)
      · skip
        have nh_1310 := xI_inj (a := x_1254) (b := 0) (by omega) (by omega) h_1310
        refine e_iload C dL_law_1348 rfl ?_
        refine e_if_eq (tgt := 1373) C dL_law_1350 (by decide) (fun h_1350 => ?_) (fun h_1350 => ?_)
        · skip
          have nh_1350 := xI_inj (a := x_1279) (b := 0) (by omega) (by omega) h_1350
          have hRD : fRead a.1 (nI n) (nI q) = (-3, a.1) := by rw [fRead_yes (by omega) ho hq, rdz, eh, cif_neg (hx_1254.resolve_left (by omega)).2, cif_neg (fun r => (hx_1279.resolve_left (by omega)).2 ⟨nh_1310, r⟩)]
          have hZL := hZ
          have hFm : FrM mem mem := FrM.rfl'
          refine e_aload_n C dL_law_1373 rfl ?_
          refine e_iload C dL_law_1374 rfl ?_
          refine e_iload C dL_law_1376 rfl ?_
          refine f_callVi (As := [_, _]) (ci := 6) C mi_yX6_read mv_yX6_read b_ml_L_132 dL_law_1378 rfl (c_X6_read (hC.frM hFm) hI.1) (by decide) v0 rfl rfl (Nat.le_of_ble_eq_true rfl) (fun x_1378 m_1378 hc_1378 => ?_)
          obtain ⟨hx_1378, hC3, hF3⟩ := hc_1378
          have hZ3 := hZL.fr hF3
          refine e_iload C dL_law_1381 rfl ?_
          rw [hx_1378, hRD]
          refine e_icmp_ne (tgt := 1390) C dL_law_1383 (by decide) (fun h_1383 => ?_) (fun h_1383 => ?_)
          · skip
            exact absurd rfl h_1383
          · skip
            refine e_iconst (v := nI 1) C dL_law_1386 (by decide) ?_
            refine e_goto (tgt := 1391) C dL_law_1387 (by decide) ?_
            refine f_istore (ls1 := [_, _, _, _, _, _, _, _, _, _, _, _, _, _, _, _, _, _, _]) C dL_law_1391 (by decide) rfl ?_
            refine e_goto (tgt := 1869) C dL_law_1393 (by decide) ?_
            exact kk _ _ c _ _ _ _ _ hC3 (by show LZ _ (fRead a.1 (nI n) (nI q)).2 c; rw [hRD]; exact hZ3) (Good.rea ⟨c, hI⟩)
        · skip
          have nh_1350 := xI_neD (a := x_1279) (b := 0) h_1350
          have hRD : fRead a.1 (nI n) (nI q) = anp a.1 n q 9 (nI 0) := by rw [fRead_yes (by omega) ho hq, rdz, eh, cif_neg (hx_1254.resolve_left (by omega)).2, cif_pos (hx_1279.resolve_right (by omega)).2.2]
          refine e_aload_n C dL_law_1353 rfl ?_
          refine e_aload_n C dL_law_1354 rfl ?_
          refine e_aload C dL_law_1355 rfl ?_
          refine e_aload C dL_law_1357 rfl ?_
          refine e_aload C dL_law_1359 rfl ?_
          refine e_iload C dL_law_1361 rfl ?_
          refine e_iload C dL_law_1363 rfl ?_
          refine e_bipush (v := nI 9) C dL_law_1365 (by decide) ?_
          refine e_iconst (v := nI 0) C dL_law_1367 (by decide) ?_
          refine f_callSi (As := [_, _, _, _, _, _, _, _, _]) C mi_yL_answer b_st_yL_answer b_ml_L_141 dL_law_1368 rfl (c_L_answer hZ hI hn ho hq (Or.inl rfl) (tk := 0)) (by decide) (Nat.le_of_ble_eq_true rfl) (fun x_1368 m_1368 hc_1368 => ?_)
          obtain ⟨⟨hx_1368, hZL⟩, hFN⟩ := hc_1368
          rw [hx_1368]
          have hFm : FrM mem m_1368 := hFN.M
          refine f_istore (ls1 := [_, _, _, _, _, _, _, _, _, _, _, _, _, _, _, _, _, _, _]) C dL_law_1371 (by decide) rfl ?_
          refine e_aload_n C dL_law_1373 rfl ?_
          refine e_iload C dL_law_1374 rfl ?_
          refine e_iload C dL_law_1376 rfl ?_
          refine f_callVi (As := [_, _]) (ci := 6) C mi_yX6_read mv_yX6_read b_ml_L_132 dL_law_1378 rfl (c_X6_read (hC.frM hFm) hI.1) (by decide) v0 rfl rfl (Nat.le_of_ble_eq_true rfl) (fun x_1378 m_1378 hc_1378 => ?_)
          obtain ⟨hx_1378, hC3, hF3⟩ := hc_1378
          have hZ3 := hZL.fr hF3
          refine e_iload C dL_law_1381 rfl ?_
          rw [hx_1378, hRD]
          refine e_icmp_ne (tgt := 1390) C dL_law_1383 (by decide) (fun h_1383 => ?_) (fun h_1383 => ?_)
          · skip
            exact absurd rfl h_1383
          · skip
            refine e_iconst (v := nI 1) C dL_law_1386 (by decide) ?_
            refine e_goto (tgt := 1391) C dL_law_1387 (by decide) ?_
            refine f_istore (ls1 := [_, _, _, _, _, _, _, _, _, _, _, _, _, _, _, _, _, _, _]) C dL_law_1391 (by decide) rfl ?_
            refine e_goto (tgt := 1869) C dL_law_1393 (by decide) ?_
            exact kk _ _ c _ _ _ _ _ hC3 (by show LZ _ (fRead a.1 (nI n) (nI q)).2 c; rw [hRD]; exact hZ3) (Good.rea ⟨c, hI⟩)
      · skip
        have nh_1310 := xI_neD (a := x_1254) (b := 0) h_1310
        have hcnd := (hx_1254.resolve_right (by omega)).2
        obtain ⟨zw, hzw, ezw⟩ := hwb.resolve_left hcnd.1
        have hzw20 : zw ≤ 20 := by
          have r := hcnd.2
          rw [ezw, ebnd] at r
          have := xI_leD (by omega) (by omega) r
          omega
        have hRD : fRead a.1 (nI n) (nI q) = anp (tck a.1 (nI zw) 5) n q zph (nI zw) := by rw [fRead_yes (by omega) ho hq, rdz, eh, cif_pos hcnd, nt_nI (by omega), ezw]
        refine e_aload_n C dL_law_1313 rfl ?_
        refine e_aload C dL_law_1314 rfl ?_
        refine e_iload C dL_law_1316 rfl ?_
        refine f_val (y := nI (zw)) ezw ?_
        refine f_callSu (As := [_, _, _]) C mi_yL_pass b_st_yL_pass b_ml_L_125 dL_law_1318 rfl (c_L_pass hZ hI (T := zw) (by omega)) (by decide) (Nat.le_of_ble_eq_true rfl) (fun m_1318 hc_1318 => ?_)
        obtain ⟨hZ1, hF1⟩ := hc_1318
        have hFM : FrM mem m_1318 := fun id hid => hF1 id (fun e => by rw [e] at hid; revert hid; decide)
        have hG1 : GoodC (tck a.1 (nI zw) 5) c := hI.tck (by omega)
        have ho1 : sz (tck a.1 (nI zw) 5) n 0 = 1 := by rw [tck_sz 5 (Nat.le_refl 5)]; exact ho
        have hph1 : isPn (tck a.1 (nI zw) 5) zph := by
          rcases hph with r | ⟨r1, r2⟩
          · exact Or.inl r
          · exact Or.inr ⟨r1, by rw [tck_rz1 (by decide) (by decide) 5]; exact r2⟩
        refine e_aload_n C dL_law_1321 rfl ?_
        refine e_aload_n C dL_law_1322 rfl ?_
        refine e_aload C dL_law_1323 rfl ?_
        refine e_aload C dL_law_1325 rfl ?_
        refine e_aload C dL_law_1327 rfl ?_
        refine e_iload C dL_law_1329 rfl ?_
        refine e_iload C dL_law_1331 rfl ?_
        refine e_aload C dL_law_1333 rfl ?_
        refine e_iload C dL_law_1335 rfl ?_
        refine f_iald C rfl v19 (by omega) (by decide) dL_law_1337 ?_
        refine f_val (y := nI (zph)) (by rw [hZ1.s_home hn ho1, tck_sz 5 (Nat.le_refl 5)]; exact eh) ?_
        refine e_iload C dL_law_1338 rfl ?_
        refine f_val (y := nI (zw)) ezw ?_
        refine f_callSi (As := [_, _, _, _, _, _, _, _, _]) C mi_yL_answer b_st_yL_answer b_ml_L_141 dL_law_1340 rfl (c_L_answer hZ1 hG1 hn ho1 hq hph1 (tk := zw)) (by decide) (Nat.le_of_ble_eq_true rfl) (fun x_1340 m_1340 hc_1340 => ?_)
        obtain ⟨⟨hx_1340, hZL⟩, hFN⟩ := hc_1340
        rw [hx_1340]
        have hFm : FrM mem m_1340 := hFM.trans hFN.M
        refine f_istore (ls1 := [_, _, _, _, _, _, _, _, _, _, _, _, _, _, _, _, _, _, _]) C dL_law_1343 (by decide) rfl ?_
        refine e_goto (tgt := 1373) C dL_law_1345 (by decide) ?_
        refine e_aload_n C dL_law_1373 rfl ?_
        refine e_iload C dL_law_1374 rfl ?_
        refine e_iload C dL_law_1376 rfl ?_
        refine f_callVi (As := [_, _]) (ci := 6) C mi_yX6_read mv_yX6_read b_ml_L_132 dL_law_1378 rfl (c_X6_read (hC.frM hFm) hI.1) (by decide) v0 rfl rfl (Nat.le_of_ble_eq_true rfl) (fun x_1378 m_1378 hc_1378 => ?_)
        obtain ⟨hx_1378, hC3, hF3⟩ := hc_1378
        have hZ3 := hZL.fr hF3
        refine e_iload C dL_law_1381 rfl ?_
        rw [hx_1378, hRD]
        refine e_icmp_ne (tgt := 1390) C dL_law_1383 (by decide) (fun h_1383 => ?_) (fun h_1383 => ?_)
        · skip
          exact absurd rfl h_1383
        · skip
          refine e_iconst (v := nI 1) C dL_law_1386 (by decide) ?_
          refine e_goto (tgt := 1391) C dL_law_1387 (by decide) ?_
          refine f_istore (ls1 := [_, _, _, _, _, _, _, _, _, _, _, _, _, _, _, _, _, _, _]) C dL_law_1391 (by decide) rfl ?_
          refine e_goto (tgt := 1869) C dL_law_1393 (by decide) ?_
          exact kk _ _ c _ _ _ _ _ hC3 (by show LZ _ (fRead a.1 (nI n) (nI q)).2 c; rw [hRD]; exact hZ3) (Good.rea ⟨c, hI⟩)
    · intro kc_1279
      refine e_if_ne (tgt := 1301) C dL_law_1279 (by decide) (fun h_1279 => ?_) (fun h_1279 => ?_)
      · skip
        have nh_1279 := xI_neD (a := x_1254) (b := 0) h_1279
        refine e_iconst (v := nI 0) C dL_law_1301 (by decide) ?_
        exact kc_1279 _ (Or.inr ⟨rfl, fun r => by omega⟩)
      · skip
        have nh_1279 := xI_inj (a := x_1254) (b := 0) (by omega) (by omega) h_1279
        refine e_aload C dL_law_1282 rfl ?_
        refine e_iconst (v := nI 4) C dL_law_1284 (by decide) ?_
        refine e_iload C dL_law_1285 rfl ?_
        refine f_iaddn C dL_law_1287 ?_
        refine f_iald C rfl v19 (by omega) (by decide) dL_law_1288 ?_
        refine e_bipush (v := nI 8) C dL_law_1289 (by decide) ?_
        refine e_iand C dL_law_1291 ?_
        refine e_bipush (v := nI 8) C dL_law_1292 (by decide) ?_
        refine e_icmp_ne (tgt := 1301) C dL_law_1294 (by decide) (fun h_1294 => ?_) (fun h_1294 => ?_)
        · skip
          refine e_iconst (v := nI 0) C dL_law_1301 (by decide) ?_
          exact kc_1279 _ (Or.inr ⟨rfl, fun r => h_1294 (hb8.mpr r.2)⟩)
        · skip
          refine e_iconst (v := nI 1) C dL_law_1297 (by decide) ?_
          refine e_goto (tgt := 1302) C dL_law_1298 (by decide) ?_
          exact kc_1279 _ (Or.inl ⟨rfl, by omega, hb8.mp h_1294⟩)
  · intro kc_1254
    refine e_if_lt (tgt := 1274) C dL_law_1254 (by decide) (fun h_1254 => ?_) (fun h_1254 => ?_)
    · skip
      refine e_iconst (v := nI 0) C dL_law_1274 (by decide) ?_
      exact kc_1254 _ (Or.inr ⟨rfl, fun r => by obtain ⟨zw, hzw, ezw⟩ := hwb.resolve_left r.1; rw [ezw] at h_1254; exact absurd h_1254 (xI_nlt0 (by omega))⟩)
    · skip
      refine e_iload C dL_law_1257 rfl ?_
      refine e_aload C dL_law_1259 rfl ?_
      refine e_bipush (v := nI 8) C dL_law_1261 (by decide) ?_
      refine e_iload C dL_law_1263 rfl ?_
      refine f_iaddn C dL_law_1265 ?_
      refine f_iald C rfl v19 (by omega) (by decide) dL_law_1266 ?_
      refine f_val (y := nI (zbnd)) (by rw [hZ.s_bnd hn ho]; exact ebnd) ?_
      refine e_icmp_gt (tgt := 1274) C dL_law_1267 (by decide) (fun h_1267 => ?_) (fun h_1267 => ?_)
      · skip
        refine e_iconst (v := nI 0) C dL_law_1274 (by decide) ?_
        exact kc_1254 _ (Or.inr ⟨rfl, fun r => absurd r.2 (by rw [ebnd]; exact Int32.not_le.mpr h_1267)⟩)
      · skip
        refine e_iconst (v := nI 1) C dL_law_1270 (by decide) ?_
        refine e_goto (tgt := 1275) C dL_law_1271 (by decide) ?_
        exact kc_1254 _ (Or.inl ⟨rfl, fun r => h_1254 (by rw [r]; decide), by rw [ebnd]; exact Int32.not_lt.mp h_1267⟩)
set_option maxRecDepth 100000 in
set_option maxHeartbeats 4000000 in
theorem la_readAt {E : EV} {X : CX} (C : CK E X RL cL_law 19 (some .boolean) 9) {e : Nat} {h : Int32} {kd n q p : Nat} (hn : n < 4) (hq : q < 12) (hp : p = 9 ∨ p < 5) {mem : MEM} {a : AS} {c : Nat} (hC : RC mem a) (hZ : LZ mem a.1 c) (hI : GoodC a.1 c) (ho : sz a.1 n 0 = 1) {x14 x15 x16 x17 x18 : VV} (kk : ∀ (m : MEM) (a : AS) (c : Nat) (x14 x15 x16 x17 x18 : VV), RC m a → LZ m a.1 c → Good a.1 → G E X 19 1869 [rv (99, 0, 0), rv (0, 0, 0), rv (17, 0, 0), rv (18, 0, 0), rv (19, 0, 0), rv (20, 0, 0), rv (21, 0, 0), iv (nI e), iv h, iv (nI kd), iv (nI n), iv (nI q), iv (nI p), iv (nI 1), x14, x15, x16, x17, x18] [] m) : G E X 19 1403 [rv (99, 0, 0), rv (0, 0, 0), rv (17, 0, 0), rv (18, 0, 0), rv (19, 0, 0), rv (20, 0, 0), rv (21, 0, 0), iv (nI e), iv h, iv (nI kd), iv (nI n), iv (nI q), iv (nI p), iv (nI 1), x14, x15, x16, x17, x18] [] mem := by
  have hc60 := hZ.c60
  refine e_aload_n C dL_law_1403 rfl ?_
  refine e_iload C dL_law_1404 rfl ?_
  refine f_callSr (As := [_, _]) C mi_yL_isPlace b_st_yL_isPlace b_ml_L_102 dL_law_1406 rfl (c_L_isPlace hZ hI hp) (by decide) (Nat.le_of_ble_eq_true rfl) ?_
  refine f_istore (ls1 := [_, _, _, _, _, _, _, _, _, _, _, _, _, _, _, _, _, _, _]) C dL_law_1409 (by decide) rfl ?_
  refine e_iload C dL_law_1411 rfl ?_
  refine e_cutn1 (tgt := 1442) (P := fun x => (x = 1 ∧ (isPn a.1 p ∧ nedz a.1 n (nI q) ≤ nt (posz a.1 p))) ∨ (x = 0 ∧ ¬ (isPn a.1 p ∧ nedz a.1 n (nI q) ≤ nt (posz a.1 p)))) ?_ ?_
  · intro x_1413 hx_1413
    refine f_istore (ls1 := [_, _, _, _, _, _, _, _, _, _, _, _, _, _, _, _, _, _, _]) C dL_law_1442 (by decide) rfl ?_
    refine e_aload_n C dL_law_1444 rfl ?_
    refine e_iload C dL_law_1445 rfl ?_
    refine e_iload C dL_law_1447 rfl ?_
    refine e_iload C dL_law_1449 rfl ?_
    refine f_callVi (As := [_, _, _]) (ci := 6) C mi_yX6_readAt mv_yX6_readAt b_ml_L_145 dL_law_1451 rfl (c_X6_readAt hC hI.1) (by decide) v0 rfl rfl (Nat.le_of_ble_eq_true rfl) (fun x_1451 m_1451 hc_1451 => ?_)
    obtain ⟨hx_1451, hC1, hF1⟩ := hc_1451
    have hZ1 := hZ.fr hF1
    refine e_iload C dL_law_1454 rfl ?_
    refine e_if_eq (tgt := 1480) C dL_law_1456 (by decide) (fun h_1456 => ?_) (fun h_1456 => ?_)
    · skip
      have nh_1456 := xI_inj (a := x_1413) (b := 0) (by omega) (by omega) h_1456
      refine e_iload C dL_law_1480 rfl ?_
      refine f_if_eq (tgt := 1490) C dL_law_1482 (by decide) (fun h_1482 => ?_) (fun h_1482 => ?_)
      · skip
        have hRD : fReadAt a.1 (nI n) (nI q) (nI p) = (-1, a.1) := fReadAt_no (by omega) h_1482
        have hZL := hZ1
        have hCL := hC1
        refine e_iconst (v := -1) C dL_law_1490 (by decide) ?_
        rw [hx_1451, hRD]
        refine e_icmp_ne (tgt := 1498) C dL_law_1491 (by decide) (fun h_1491 => ?_) (fun h_1491 => ?_)
        · skip
          exact absurd rfl h_1491
        · skip
          refine e_iconst (v := nI 1) C dL_law_1494 (by decide) ?_
          refine e_goto (tgt := 1499) C dL_law_1495 (by decide) ?_
          refine f_istore (ls1 := [_, _, _, _, _, _, _, _, _, _, _, _, _, _, _, _, _, _, _]) C dL_law_1499 (by decide) rfl ?_
          refine e_goto (tgt := 1869) C dL_law_1501 (by decide) ?_
          exact kk _ _ c _ _ _ _ _ hCL (by show LZ _ (fReadAt a.1 (nI n) (nI q) (nI p)).2 c; rw [hRD]; exact hZL) (Good.rdA ⟨c, hI⟩)
      · skip
        have hRD : fReadAt a.1 (nI n) (nI q) (nI p) = (-3, a.1) := by rw [fReadAt_yes (by omega) ho hq h_1482, cif_neg (fun r => (hx_1413.resolve_left (by omega)).2 ⟨h_1482, (wait0_iff hI.1 (by omega) ho h_1482).mp r⟩)]
        have hZL := hZ1
        have hCL := hC1
        refine e_bipush (v := -3) C dL_law_1485 (by decide) ?_
        refine e_goto (tgt := 1491) C dL_law_1487 (by decide) ?_
        rw [hx_1451, hRD]
        refine e_icmp_ne (tgt := 1498) C dL_law_1491 (by decide) (fun h_1491 => ?_) (fun h_1491 => ?_)
        · skip
          exact absurd rfl h_1491
        · skip
          refine e_iconst (v := nI 1) C dL_law_1494 (by decide) ?_
          refine e_goto (tgt := 1499) C dL_law_1495 (by decide) ?_
          refine f_istore (ls1 := [_, _, _, _, _, _, _, _, _, _, _, _, _, _, _, _, _, _, _]) C dL_law_1499 (by decide) rfl ?_
          refine e_goto (tgt := 1869) C dL_law_1501 (by decide) ?_
          exact kk _ _ c _ _ _ _ _ hCL (by show LZ _ (fReadAt a.1 (nI n) (nI q) (nI p)).2 c; rw [hRD]; exact hZL) (Good.rdA ⟨c, hI⟩)
    · skip
      have nh_1456 := xI_neD (a := x_1413) (b := 0) h_1456
      obtain ⟨hpn, hnd⟩ := (hx_1413.resolve_right (by omega)).2
      have hRD : fReadAt a.1 (nI n) (nI q) (nI p) = anp a.1 n q p (nI 0) := by rw [fReadAt_yes (by omega) ho hq hpn, cif_pos ((wait0_iff hI.1 (by omega) ho hpn).mpr hnd)]
      refine e_aload_n C dL_law_1459 rfl ?_
      refine e_aload_n C dL_law_1460 rfl ?_
      refine e_aload C dL_law_1461 rfl ?_
      refine e_aload C dL_law_1463 rfl ?_
      refine e_aload C dL_law_1465 rfl ?_
      refine e_iload C dL_law_1467 rfl ?_
      refine e_iload C dL_law_1469 rfl ?_
      refine e_iload C dL_law_1471 rfl ?_
      refine e_iconst (v := nI 0) C dL_law_1473 (by decide) ?_
      refine f_callSi (As := [_, _, _, _, _, _, _, _, _]) C mi_yL_answer b_st_yL_answer b_ml_L_141 dL_law_1474 rfl (c_L_answer hZ1 hI hn ho hq hpn (tk := 0)) (by decide) (Nat.le_of_ble_eq_true rfl) (fun x_1474 m_1474 hc_1474 => ?_)
      obtain ⟨⟨hx_1474, hZL⟩, hFN⟩ := hc_1474
      rw [hx_1474]
      have hCL := hC1.frM hFN.M
      refine e_goto (tgt := 1491) C dL_law_1477 (by decide) ?_
      rw [hx_1451, hRD]
      refine e_icmp_ne (tgt := 1498) C dL_law_1491 (by decide) (fun h_1491 => ?_) (fun h_1491 => ?_)
      · skip
        exact absurd rfl h_1491
      · skip
        refine e_iconst (v := nI 1) C dL_law_1494 (by decide) ?_
        refine e_goto (tgt := 1499) C dL_law_1495 (by decide) ?_
        refine f_istore (ls1 := [_, _, _, _, _, _, _, _, _, _, _, _, _, _, _, _, _, _, _]) C dL_law_1499 (by decide) rfl ?_
        refine e_goto (tgt := 1869) C dL_law_1501 (by decide) ?_
        exact kk _ _ c _ _ _ _ _ hCL (by show LZ _ (fReadAt a.1 (nI n) (nI q) (nI p)).2 c; rw [hRD]; exact hZL) (Good.rdA ⟨c, hI⟩)
  · intro kc_1413
    refine f_if_eq (tgt := 1441) C dL_law_1413 (by decide) (fun h_1413 => ?_) (fun h_1413 => ?_)
    · skip
      refine e_iconst (v := nI 0) C dL_law_1441 (by decide) ?_
      exact kc_1413 _ (Or.inr ⟨rfl, fun r => h_1413 r.1⟩)
    · skip
      refine e_aload_n C dL_law_1416 rfl ?_
      refine e_aload C dL_law_1417 rfl ?_
      refine e_iload C dL_law_1419 rfl ?_
      refine e_iload C dL_law_1421 rfl ?_
      refine e_aload_n C dL_law_1423 rfl ?_
      refine e_aload C dL_law_1424 rfl ?_
      refine e_iload C dL_law_1426 rfl ?_
      refine f_callSr (As := [_, _, _]) C mi_yL_at b_st_yL_at b_ml_L_22 dL_law_1428 rfl (c_L_at (hZ.at' hI.1 h_1413)) (by decide) (Nat.le_of_ble_eq_true rfl) ?_
      refine f_callSr (As := [_, _, _, _, _]) C mi_yL_can b_st_yL_can b_ml_L_26 dL_law_1431 rfl (c_L_can hZ hI hn ho hq (posn_le hI.1 h_1413)) (by decide) (Nat.le_of_ble_eq_true rfl) ?_
      refine f_if_eq (tgt := 1441) C dL_law_1434 (by decide) (fun h_1434 => ?_) (fun h_1434 => ?_)
      · skip
        refine e_iconst (v := nI 0) C dL_law_1441 (by decide) ?_
        exact kc_1413 _ (Or.inr ⟨rfl, fun r => h_1434 r.2⟩)
      · skip
        refine e_iconst (v := nI 1) C dL_law_1437 (by decide) ?_
        refine e_goto (tgt := 1442) C dL_law_1438 (by decide) ?_
        exact kc_1413 _ (Or.inl ⟨rfl, h_1413, h_1434⟩)
set_option maxRecDepth 100000 in
set_option maxHeartbeats 4000000 in
theorem la_hand {E : EV} {X : CX} (C : CK E X RL cL_law 19 (some .boolean) 9) {e : Nat} {h : Int32} {kd n q p : Nat} (hn : n < 4) (hq : q < 12) (hp : p = 9 ∨ p < 5) {mem : MEM} {a : AS} {c : Nat} (hC : RC mem a) (hZ : LZ mem a.1 c) (hI : GoodC a.1 c) (ho : sz a.1 n 0 = 1) {x14 x15 x16 x17 x18 : VV} (kk : ∀ (m : MEM) (a : AS) (c : Nat) (x14 x15 x16 x17 x18 : VV), RC m a → LZ m a.1 c → Good a.1 → G E X 19 1869 [rv (99, 0, 0), rv (0, 0, 0), rv (17, 0, 0), rv (18, 0, 0), rv (19, 0, 0), rv (20, 0, 0), rv (21, 0, 0), iv (nI e), iv h, iv (nI kd), iv (nI n), iv (nI q), iv (nI p), iv (nI 1), x14, x15, x16, x17, x18] [] m) : G E X 19 1511 [rv (99, 0, 0), rv (0, 0, 0), rv (17, 0, 0), rv (18, 0, 0), rv (19, 0, 0), rv (20, 0, 0), rv (21, 0, 0), iv (nI e), iv h, iv (nI kd), iv (nI n), iv (nI q), iv (nI p), iv (nI 1), x14, x15, x16, x17, x18] [] mem := by
  have hc60 := hZ.c60
  obtain ⟨za, zb, hza, hzb, eza, ezb⟩ := hI.1.marks (by omega : n < 8) ho
  refine e_iload C dL_law_1511 rfl ?_
  refine e_bipush (v := nI 17) C dL_law_1513 (by decide) ?_
  refine e_ishr C dL_law_1515 ?_
  refine e_iconst (v := nI 4) C dL_law_1516 (by decide) ?_
  refine f_callSi (As := [_, _]) C mi_yL_low b_st_yL_low b_ml_L_41 dL_law_1517 rfl (c_L_low_n (N := 4) (by omega) (by omega)) (by decide) (Nat.le_of_ble_eq_true rfl) (fun x_1517 m_1517 hc_1517 => ?_)
  obtain ⟨⟨zm, hzm, hx_1517⟩, hm_1517⟩ := hc_1517
  rw [hx_1517, hm_1517]
  refine f_istore (ls1 := [_, _, _, _, _, _, _, _, _, _, _, _, _, _, _, _, _, _, _]) C dL_law_1520 (by decide) rfl ?_
  refine e_aload C dL_law_1522 rfl ?_
  refine e_bipush (v := nI 12) C dL_law_1524 (by decide) ?_
  refine e_iload C dL_law_1526 rfl ?_
  refine f_iaddn C dL_law_1528 ?_
  refine f_iald C rfl v19 (by omega) (by decide) dL_law_1529 ?_
  refine f_val (y := nI (za)) (by rw [hZ.s_own hn ho]; exact eza) ?_
  refine e_aload C dL_law_1530 rfl ?_
  refine e_bipush (v := nI 16) C dL_law_1532 (by decide) ?_
  refine e_iload C dL_law_1534 rfl ?_
  refine f_iaddn C dL_law_1536 ?_
  refine f_iald C rfl v19 (by omega) (by decide) dL_law_1537 ?_
  refine f_val (y := nI (zb)) (by rw [hZ.s_seen hn ho]; exact ezb) ?_
  refine e_cutn2 (tgt := 1560) (P := fun x => x = max za zb) ?_ ?_
  · intro x_1538 hx_1538
    refine f_istore (ls1 := [_, _, _, _, _, _, _, _, _, _, _, _, _, _, _, _, _, _, _]) C dL_law_1560 (by decide) rfl ?_
    refine e_aload C dL_law_1562 rfl ?_
    refine e_iload C dL_law_1564 rfl ?_
    refine f_iald C rfl v19 (by omega) (by decide) dL_law_1566 ?_
    refine e_cutn1 (tgt := 1582) (P := fun x => (x = 1 ∧ (sz a.1 zm 0 = 1 ∧ zm ≠ n)) ∨ (x = 0 ∧ ¬ (sz a.1 zm 0 = 1 ∧ zm ≠ n))) ?_ ?_
    · intro x_1567 hx_1567
      refine f_istore (ls1 := [_, _, _, _, _, _, _, _, _, _, _, _, _, _, _, _, _, _, _]) C dL_law_1582 (by decide) rfl ?_
      refine e_iload C dL_law_1584 rfl ?_
      refine e_if_eq (tgt := 1623) C dL_law_1586 (by decide) (fun h_1586 => ?_) (fun h_1586 => ?_)
      · skip
        have nh_1586 := xI_inj (a := x_1567) (b := 0) (by omega) (by omega) h_1586
        have hZ1 := hZ
        have hF1m : FrM mem mem := FrM.rfl'
        refine e_aload_n C dL_law_1623 rfl ?_
        refine e_iload C dL_law_1624 rfl ?_
        refine e_iload C dL_law_1626 rfl ?_
        refine f_callVi (As := [_, _]) (ci := 6) C mi_yX6_hand mv_yX6_hand b_ml_L_148 dL_law_1628 rfl (c_X6_hand (hC.frM hF1m) hI.1) (by decide) v0 rfl rfl (Nat.le_of_ble_eq_true rfl) (fun x_1628 m_1628 hc_1628 => ?_)
        obtain ⟨hx_1628, hC2, hF2⟩ := hc_1628
        have hZ2 := hZ1.fr hF2
        refine e_aload C dL_law_1631 rfl ?_
        refine e_iload C dL_law_1633 rfl ?_
        refine f_iald C rfl v19 (by omega) (by decide) dL_law_1635 ?_
        refine e_if_ge (tgt := 1643) C dL_law_1636 (by decide) (fun h_1636 => ?_) (fun h_1636 => ?_)
        · skip
          have hom : sz a.1 zm 0 = 1 := (hZ2.s_ge hI.1 hzm).mp h_1636
          refine e_iload C dL_law_1643 rfl ?_
          refine e_iload C dL_law_1645 rfl ?_
          refine e_icmp_ne (tgt := 1655) C dL_law_1647 (by decide) (fun h_1647 => ?_) (fun h_1647 => ?_)
          · skip
            have nh_1647 := xI_neD h_1647
            exact absurd ⟨hom, nh_1647⟩ (hx_1567.resolve_left (by omega)).2
          · skip
            have nh_1647 := xI_inj (by omega) (by omega) h_1647
            have hfh : fHand a.1 (nI n) (nI zm) = (-2, a.1) := by rw [nh_1647]; exact fHand_same (by omega) ho
            refine e_bipush (v := -2) C dL_law_1650 (by decide) ?_
            refine e_goto (tgt := 1663) C dL_law_1652 (by decide) ?_
            rw [hx_1628, hfh]
            refine e_icmp_ne (tgt := 1670) C dL_law_1663 (by decide) (fun h_1663 => ?_) (fun h_1663 => ?_)
            · skip
              exact absurd rfl h_1663
            · skip
              refine e_iconst (v := nI 1) C dL_law_1666 (by decide) ?_
              refine e_goto (tgt := 1671) C dL_law_1667 (by decide) ?_
              refine f_istore (ls1 := [_, _, _, _, _, _, _, _, _, _, _, _, _, _, _, _, _, _, _]) C dL_law_1671 (by decide) rfl ?_
              refine e_goto (tgt := 1869) C dL_law_1673 (by decide) ?_
              exact kk _ _ c _ _ _ _ _ hC2 (by show LZ _ (fHand a.1 (nI n) (nI zm)).2 c; rw [hfh]; exact hZ2) (Good.hnd ⟨c, hI⟩)
        · skip
          have hfh : fHand a.1 (nI n) (nI zm) = (-1, a.1) := fHand_no (by omega) ((hZ2.s_lt hI.1 hzm).mp (Int32.not_le.mp h_1636))
          refine e_iconst (v := -1) C dL_law_1639 (by decide) ?_
          refine e_goto (tgt := 1663) C dL_law_1640 (by decide) ?_
          rw [hx_1628, hfh]
          refine e_icmp_ne (tgt := 1670) C dL_law_1663 (by decide) (fun h_1663 => ?_) (fun h_1663 => ?_)
          · skip
            exact absurd rfl h_1663
          · skip
            refine e_iconst (v := nI 1) C dL_law_1666 (by decide) ?_
            refine e_goto (tgt := 1671) C dL_law_1667 (by decide) ?_
            refine f_istore (ls1 := [_, _, _, _, _, _, _, _, _, _, _, _, _, _, _, _, _, _, _]) C dL_law_1671 (by decide) rfl ?_
            refine e_goto (tgt := 1869) C dL_law_1673 (by decide) ?_
            exact kk _ _ c _ _ _ _ _ hC2 (by show LZ _ (fHand a.1 (nI n) (nI zm)).2 c; rw [hfh]; exact hZ2) (Good.hnd ⟨c, hI⟩)
      · skip
        have nh_1586 := xI_neD (a := x_1567) (b := 0) h_1586
        obtain ⟨hom, hne⟩ := (hx_1567.resolve_right (by omega)).2
        obtain ⟨-, zc, -, hzc, -, ezc⟩ := hI.1.marks (by omega : zm < 8) hom
        have hfh : fHand a.1 (nI n) (nI zm) = (nI (max zc x_1538), ss a.1 zm 5 (nI (max zc x_1538))) := by
          rw [fHand_yes (by omega) ho (by omega) hom (fun e => hne e.symm), hndz, eza, ezb, ezc, maxI_nI (by omega) (by omega), ← hx_1538, maxI_nI (by omega) (by omega)]
        refine e_aload C dL_law_1589 rfl ?_
        refine e_bipush (v := nI 16) C dL_law_1591 (by decide) ?_
        refine e_iload C dL_law_1593 rfl ?_
        refine f_iaddn C dL_law_1595 ?_
        refine e_aload C dL_law_1596 rfl ?_
        refine e_bipush (v := nI 16) C dL_law_1598 (by decide) ?_
        refine e_iload C dL_law_1600 rfl ?_
        refine f_iaddn C dL_law_1602 ?_
        refine f_iald C rfl v19 (by omega) (by decide) dL_law_1603 ?_
        refine f_val (y := nI (zc)) (by rw [hZ.s_seen hzm hom]; exact ezc) ?_
        refine e_iload C dL_law_1604 rfl ?_
        refine e_cutn2 (tgt := 1622) (P := fun x => x = max zc x_1538) ?_ ?_
        · intro x_1606 hx_1606
          refine f_iast C rfl v19 (by omega) (by decide) dL_law_1622 ?_
          obtain ⟨zl, hzl⟩ : ∃ y, y = ss a.1 zm 5 (nI (max zc x_1538)) := ⟨_, rfl⟩
          refine e_setm (P := fun m => LZ m zl c ∧ FrM mem m) ⟨by rw [hx_1606, hzl]; exact hZ.ss' (w := 4) hzm (by decide) hom, FrM.rfl'.law (by decide)⟩ (fun m1 h1 => ?_)
          obtain ⟨hZ1, hF1m⟩ := h1
          have hol : sz zl zm 0 = 1 := by rw [hzl, sz_ss (by decide) (by decide), if_neg (by omega)]; exact hom
          refine e_aload_n C dL_law_1623 rfl ?_
          refine e_iload C dL_law_1624 rfl ?_
          refine e_iload C dL_law_1626 rfl ?_
          refine f_callVi (As := [_, _]) (ci := 6) C mi_yX6_hand mv_yX6_hand b_ml_L_148 dL_law_1628 rfl (c_X6_hand (hC.frM hF1m) hI.1) (by decide) v0 rfl rfl (Nat.le_of_ble_eq_true rfl) (fun x_1628 m_1628 hc_1628 => ?_)
          obtain ⟨hx_1628, hC2, hF2⟩ := hc_1628
          have hZ2 := hZ1.fr hF2
          refine e_aload C dL_law_1631 rfl ?_
          refine e_iload C dL_law_1633 rfl ?_
          refine f_iald C rfl v19 (by omega) (by decide) dL_law_1635 ?_
          refine e_if_ge (tgt := 1643) C dL_law_1636 (by decide) (fun h_1636 => ?_) (fun h_1636 => ?_)
          · skip
            refine e_iload C dL_law_1643 rfl ?_
            refine e_iload C dL_law_1645 rfl ?_
            refine e_icmp_ne (tgt := 1655) C dL_law_1647 (by decide) (fun h_1647 => ?_) (fun h_1647 => ?_)
            · skip
              have nh_1647 := xI_neD h_1647
              refine e_aload C dL_law_1655 rfl ?_
              refine e_bipush (v := nI 16) C dL_law_1657 (by decide) ?_
              refine e_iload C dL_law_1659 rfl ?_
              refine f_iaddn C dL_law_1661 ?_
              refine f_iald C rfl v19 (by omega) (by decide) dL_law_1662 ?_
              refine f_val (y := nI ((max zc x_1538))) (by rw [hZ2.s_seen hzm hol, hzl, sz_ss (by decide) (by decide), if_pos ⟨rfl, rfl⟩]) ?_
              rw [hx_1628, hfh]
              refine e_icmp_ne (tgt := 1670) C dL_law_1663 (by decide) (fun h_1663 => ?_) (fun h_1663 => ?_)
              · skip
                exact absurd rfl h_1663
              · skip
                refine e_iconst (v := nI 1) C dL_law_1666 (by decide) ?_
                refine e_goto (tgt := 1671) C dL_law_1667 (by decide) ?_
                refine f_istore (ls1 := [_, _, _, _, _, _, _, _, _, _, _, _, _, _, _, _, _, _, _]) C dL_law_1671 (by decide) rfl ?_
                refine e_goto (tgt := 1869) C dL_law_1673 (by decide) ?_
                exact kk _ _ c _ _ _ _ _ hC2 (by show LZ _ (fHand a.1 (nI n) (nI zm)).2 c; rw [hfh, ← hzl]; exact hZ2) (Good.hnd ⟨c, hI⟩)
            · skip
              have nh_1647 := xI_inj (by omega) (by omega) h_1647
              exact absurd nh_1647 hne
          · skip
            exact absurd (by rw [hZ2.s_home hzm hol, hzl, sz_ss (by decide) (by decide), if_neg (by omega)]; obtain ⟨z1, hz1, e1⟩ := isP_ge ((hI.1.2.2.2 zm (by omega)).2 hom).1; rw [e1]; exact xI_ge0 z1 (by omega)) h_1636
        · intro kc_1606
          refine e_icmp_le (tgt := 1620) C dL_law_1606 (by decide) (fun h_1606 => ?_) (fun h_1606 => ?_)
          · skip
            have nh_1606 := xI_leD (by omega) (by omega) h_1606
            refine e_iload C dL_law_1620 rfl ?_
            exact kc_1606 _ (by omega)
          · skip
            have nh_1606 := xI_nleD (by omega) (by omega) h_1606
            refine e_aload C dL_law_1609 rfl ?_
            refine e_bipush (v := nI 16) C dL_law_1611 (by decide) ?_
            refine e_iload C dL_law_1613 rfl ?_
            refine f_iaddn C dL_law_1615 ?_
            refine f_iald C rfl v19 (by omega) (by decide) dL_law_1616 ?_
            refine f_val (y := nI (zc)) (by rw [hZ.s_seen hzm hom]; exact ezc) ?_
            refine e_goto (tgt := 1622) C dL_law_1617 (by decide) ?_
            exact kc_1606 _ (by omega)
    · intro kc_1567
      refine e_if_lt (tgt := 1581) C dL_law_1567 (by decide) (fun h_1567 => ?_) (fun h_1567 => ?_)
      · skip
        refine e_iconst (v := nI 0) C dL_law_1581 (by decide) ?_
        exact kc_1567 _ (Or.inr ⟨rfl, fun r => (hZ.s_lt hI.1 hzm).mp h_1567 r.1⟩)
      · skip
        refine e_iload C dL_law_1570 rfl ?_
        refine e_iload C dL_law_1572 rfl ?_
        refine e_icmp_eq (tgt := 1581) C dL_law_1574 (by decide) (fun h_1574 => ?_) (fun h_1574 => ?_)
        · skip
          have nh_1574 := xI_inj (by omega) (by omega) h_1574
          refine e_iconst (v := nI 0) C dL_law_1581 (by decide) ?_
          exact kc_1567 _ (Or.inr ⟨rfl, fun r => r.2 nh_1574⟩)
        · skip
          have nh_1574 := xI_neD h_1574
          refine e_iconst (v := nI 1) C dL_law_1577 (by decide) ?_
          refine e_goto (tgt := 1582) C dL_law_1578 (by decide) ?_
          exact kc_1567 _ (Or.inl ⟨rfl, (hZ.s_ge hI.1 hzm).mp (Int32.not_lt.mp h_1567), nh_1574⟩)
  · intro kc_1538
    refine e_icmp_le (tgt := 1552) C dL_law_1538 (by decide) (fun h_1538 => ?_) (fun h_1538 => ?_)
    · skip
      have nh_1538 := xI_leD (by omega) (by omega) h_1538
      refine e_aload C dL_law_1552 rfl ?_
      refine e_bipush (v := nI 16) C dL_law_1554 (by decide) ?_
      refine e_iload C dL_law_1556 rfl ?_
      refine f_iaddn C dL_law_1558 ?_
      refine f_iald C rfl v19 (by omega) (by decide) dL_law_1559 ?_
      refine f_val (y := nI (zb)) (by rw [hZ.s_seen hn ho]; exact ezb) ?_
      exact kc_1538 _ (by omega)
    · skip
      have nh_1538 := xI_nleD (by omega) (by omega) h_1538
      refine e_aload C dL_law_1541 rfl ?_
      refine e_bipush (v := nI 12) C dL_law_1543 (by decide) ?_
      refine e_iload C dL_law_1545 rfl ?_
      refine f_iaddn C dL_law_1547 ?_
      refine f_iald C rfl v19 (by omega) (by decide) dL_law_1548 ?_
      refine f_val (y := nI (za)) (by rw [hZ.s_own hn ho]; exact eza) ?_
      refine e_goto (tgt := 1560) C dL_law_1549 (by decide) ?_
      exact kc_1538 _ (by omega)
set_option maxRecDepth 100000 in
set_option maxHeartbeats 4000000 in
theorem la_move {E : EV} {X : CX} (C : CK E X RL cL_law 19 (some .boolean) 9) {e : Nat} {h : Int32} {kd n q p : Nat} (hn : n < 4) (hq : q < 12) (hp : p = 9 ∨ p < 5) {mem : MEM} {a : AS} {c : Nat} (hC : RC mem a) (hZ : LZ mem a.1 c) (hI : GoodC a.1 c) (ho : sz a.1 n 0 = 1) {x14 x15 x16 x17 x18 : VV} (kk : ∀ (m : MEM) (a : AS) (c : Nat) (x14 x15 x16 x17 x18 : VV), RC m a → LZ m a.1 c → Good a.1 → G E X 19 1869 [rv (99, 0, 0), rv (0, 0, 0), rv (17, 0, 0), rv (18, 0, 0), rv (19, 0, 0), rv (20, 0, 0), rv (21, 0, 0), iv (nI e), iv h, iv (nI kd), iv (nI n), iv (nI q), iv (nI p), iv (nI 1), x14, x15, x16, x17, x18] [] m) : G E X 19 1683 [rv (99, 0, 0), rv (0, 0, 0), rv (17, 0, 0), rv (18, 0, 0), rv (19, 0, 0), rv (20, 0, 0), rv (21, 0, 0), iv (nI e), iv h, iv (nI kd), iv (nI n), iv (nI q), iv (nI p), iv (nI 1), x14, x15, x16, x17, x18] [] mem := by
  have hc60 := hZ.c60
  refine e_aload_n C dL_law_1683 rfl ?_
  refine e_iload C dL_law_1684 rfl ?_
  refine f_callSr (As := [_, _]) C mi_yL_isPlace b_st_yL_isPlace b_ml_L_102 dL_law_1686 rfl (c_L_isPlace hZ hI hp) (by decide) (Nat.le_of_ble_eq_true rfl) ?_
  refine f_istore (ls1 := [_, _, _, _, _, _, _, _, _, _, _, _, _, _, _, _, _, _, _]) C dL_law_1689 (by decide) rfl ?_
  refine e_aload_n C dL_law_1691 rfl ?_
  refine e_iload C dL_law_1692 rfl ?_
  refine e_iload C dL_law_1694 rfl ?_
  refine f_callVi (As := [_, _]) (ci := 6) C mi_yX6_move mv_yX6_move b_ml_L_151 dL_law_1696 rfl (c_X6_move hC hI.1) (by decide) v0 rfl rfl (Nat.le_of_ble_eq_true rfl) (fun x_1696 m_1696 hc_1696 => ?_)
  obtain ⟨hx_1696, hC1, hF1⟩ := hc_1696
  have hZ1 := hZ.fr hF1
  refine e_iload C dL_law_1699 rfl ?_
  rw [hx_1696]
  refine e_cuti1 (tgt := 1713) (P := fun x => x = (fMove a.1 (nI n) (nI p)).1) ?_ ?_
  · intro x_1701 hx_1701
    rw [hx_1701]
    refine e_icmp_ne (tgt := 1720) C dL_law_1713 (by decide) (fun h_1713 => ?_) (fun h_1713 => ?_)
    · skip
      exact absurd rfl h_1713
    · skip
      refine e_iconst (v := nI 1) C dL_law_1716 (by decide) ?_
      refine e_goto (tgt := 1721) C dL_law_1717 (by decide) ?_
      refine f_istore (ls1 := [_, _, _, _, _, _, _, _, _, _, _, _, _, _, _, _, _, _, _]) C dL_law_1721 (by decide) rfl ?_
      refine e_aload C dL_law_1723 rfl ?_
      refine e_iload C dL_law_1725 rfl ?_
      refine e_iload C dL_law_1727 rfl ?_
      refine e_cuti1 (tgt := 1742) (P := fun x => x = cif (isPn a.1 p) (nI p) (sz a.1 n 1)) ?_ ?_
      · intro x_1729 hx_1729
        refine f_iast C rfl v19 (by omega) (by decide) dL_law_1742 ?_
        refine e_goto (tgt := 1869) C dL_law_1743 (by decide) ?_
        refine kk _ _ c _ _ _ _ _ (hC1.frM (FrM.rfl'.law (by decide))) ?_ (Good.mov ⟨c, hI⟩)
        show LZ _ (fMove a.1 (nI n) (nI p)).2 c
        by_cases hpn : isPn a.1 p
        · rw [fMove_yes (by omega) ho hpn, hx_1729, cif_pos hpn]
          exact hZ1.ss0 hn ho
        · rw [fMove_no (by omega) hpn, hx_1729, cif_neg hpn]
          have hh := hZ1.ss0 (v := sz a.1 n 1) hn ho
          rw [ss_same] at hh
          exact hh
      · intro kc_1729
        refine f_if_eq (tgt := 1737) C dL_law_1729 (by decide) (fun h_1729 => ?_) (fun h_1729 => ?_)
        · skip
          refine e_aload C dL_law_1737 rfl ?_
          refine e_iload C dL_law_1739 rfl ?_
          refine f_iald C rfl v19 (by omega) (by decide) dL_law_1741 ?_
          exact kc_1729 _ (by rw [cif_neg h_1729]; exact hZ1.s_home hn ho)
        · skip
          refine e_iload C dL_law_1732 rfl ?_
          refine e_goto (tgt := 1742) C dL_law_1734 (by decide) ?_
          exact kc_1729 _ (cif_pos h_1729).symm
  · intro kc_1701
    refine f_if_eq (tgt := 1712) C dL_law_1701 (by decide) (fun h_1701 => ?_) (fun h_1701 => ?_)
    · skip
      refine e_iconst (v := -1) C dL_law_1712 (by decide) ?_
      exact kc_1701 _ (by rw [fMove_no (by omega) h_1701])
    · skip
      refine e_aload C dL_law_1704 rfl ?_
      refine e_iload C dL_law_1706 rfl ?_
      refine f_iald C rfl v19 (by omega) (by decide) dL_law_1708 ?_
      refine e_goto (tgt := 1713) C dL_law_1709 (by decide) ?_
      exact kc_1701 _ (by rw [fMove_yes (by omega) ho h_1701]; exact hZ1.s_home hn ho)
set_option maxRecDepth 100000 in
set_option maxHeartbeats 4000000 in
theorem la_close {E : EV} {X : CX} (C : CK E X RL cL_law 19 (some .boolean) 9) {e : Nat} {h : Int32} {kd n q p : Nat} (hn : n < 4) (hq : q < 12) (hp : p = 9 ∨ p < 5) {mem : MEM} {a : AS} {c : Nat} (hC : RC mem a) (hZ : LZ mem a.1 c) (hI : GoodC a.1 c) (ho : sz a.1 n 0 = 1) {x14 x15 x16 x17 x18 : VV} (kk : ∀ (m : MEM) (a : AS) (c : Nat) (x14 x15 x16 x17 x18 : VV), RC m a → LZ m a.1 c → Good a.1 → G E X 19 1869 [rv (99, 0, 0), rv (0, 0, 0), rv (17, 0, 0), rv (18, 0, 0), rv (19, 0, 0), rv (20, 0, 0), rv (21, 0, 0), iv (nI e), iv h, iv (nI kd), iv (nI n), iv (nI q), iv (nI p), iv (nI 1), x14, x15, x16, x17, x18] [] m) : G E X 19 1758 [rv (99, 0, 0), rv (0, 0, 0), rv (17, 0, 0), rv (18, 0, 0), rv (19, 0, 0), rv (20, 0, 0), rv (21, 0, 0), iv (nI e), iv h, iv (nI kd), iv (nI n), iv (nI q), iv (nI p), iv (nI 1), x14, x15, x16, x17, x18] [] mem := by
  have hc60 := hZ.c60
  refine e_aload_n C dL_law_1758 rfl ?_
  refine e_iload C dL_law_1759 rfl ?_
  refine f_callVi (As := [_]) (ci := 6) C mi_yX6_close mv_yX6_close b_ml_L_138 dL_law_1761 rfl (c_X6_close hC hI.1) (by decide) v0 rfl rfl (Nat.le_of_ble_eq_true rfl) (fun x_1761 m_1761 hc_1761 => ?_)
  obtain ⟨hx_1761, hC1, hF1⟩ := hc_1761
  have hZ1 := hZ.fr hF1
  refine e_aload C dL_law_1764 rfl ?_
  refine e_bipush (v := nI 16) C dL_law_1766 (by decide) ?_
  refine e_iload C dL_law_1768 rfl ?_
  refine f_iaddn C dL_law_1770 ?_
  refine f_iald C rfl v19 (by omega) (by decide) dL_law_1771 ?_
  rw [hx_1761, fClose_yes (by omega) ho, hZ1.s_seen hn ho]
  refine e_icmp_ne (tgt := 1779) C dL_law_1772 (by decide) (fun h_1772 => ?_) (fun h_1772 => ?_)
  · skip
    exact absurd rfl h_1772
  · skip
    refine e_iconst (v := nI 1) C dL_law_1775 (by decide) ?_
    refine e_goto (tgt := 1780) C dL_law_1776 (by decide) ?_
    refine f_istore (ls1 := [_, _, _, _, _, _, _, _, _, _, _, _, _, _, _, _, _, _, _]) C dL_law_1780 (by decide) rfl ?_
    refine e_aload C dL_law_1782 rfl ?_
    refine e_iload C dL_law_1784 rfl ?_
    refine e_iconst (v := -1) C dL_law_1786 (by decide) ?_
    refine f_iast C rfl v19 (by omega) (by decide) dL_law_1787 ?_
    refine e_goto (tgt := 1869) C dL_law_1788 (by decide) ?_
    exact kk _ _ c _ _ _ _ _ (hC1.frM (FrM.rfl'.law (by decide))) (by show LZ _ (fClose a.1 (nI n)).2 c; rw [fClose_yes (by omega) ho]; exact hZ1.sdie hn) (Good.cls ⟨c, hI⟩)
set_option maxRecDepth 100000 in
set_option maxHeartbeats 4000000 in
theorem la_change {E : EV} {X : CX} (C : CK E X RL cL_law 19 (some .boolean) 9) {e : Nat} {h : Int32} {kd n q p : Nat} (hn : n < 4) (hq : q < 12) (hp : p = 9 ∨ p < 5) {mem : MEM} {a : AS} {c : Nat} (hC : RC mem a) (hZ : LZ mem a.1 c) (hI : GoodC a.1 c) (ho : sz a.1 n 0 = 1) {x14 x15 x16 x17 x18 : VV} (kk : ∀ (m : MEM) (a : AS) (c : Nat) (x14 x15 x16 x17 x18 : VV), RC m a → LZ m a.1 c → Good a.1 → G E X 19 1869 [rv (99, 0, 0), rv (0, 0, 0), rv (17, 0, 0), rv (18, 0, 0), rv (19, 0, 0), rv (20, 0, 0), rv (21, 0, 0), iv (nI e), iv h, iv (nI kd), iv (nI n), iv (nI q), iv (nI p), iv (nI 1), x14, x15, x16, x17, x18] [] m) : G E X 19 1791 [rv (99, 0, 0), rv (0, 0, 0), rv (17, 0, 0), rv (18, 0, 0), rv (19, 0, 0), rv (20, 0, 0), rv (21, 0, 0), iv (nI e), iv h, iv (nI kd), iv (nI n), iv (nI q), iv (nI p), iv (nI 1), x14, x15, x16, x17, x18] [] mem := by
  have hc60 := hZ.c60
  have hlo := lowz_lt (x := h >>> (nI 18 &&& 31)) (N := 16) (by decide)
  have hlb := lowz_lt (x := h >>> (nI 22 &&& 31)) (N := 6) (by decide)
  have hfc := fChange_yes (z := a.1) (s := n) (o := (lowz (h >>> (nI 18 &&& 31)) 16)) (b := (lowz (h >>> (nI 22 &&& 31)) 6)) (by omega) ho (by omega) (by omega)
  refine e_aload_n C dL_law_1791 rfl ?_
  refine e_iload C dL_law_1792 rfl ?_
  refine e_iload C dL_law_1794 rfl ?_
  refine e_bipush (v := nI 18) C dL_law_1796 (by decide) ?_
  refine e_ishr C dL_law_1798 ?_
  refine e_bipush (v := nI 16) C dL_law_1799 (by decide) ?_
  refine f_callSr (As := [_, _]) C mi_yL_low b_st_yL_low b_ml_L_41 dL_law_1801 rfl (c_L_low (by decide) (by decide)) (by decide) (Nat.le_of_ble_eq_true rfl) ?_
  refine e_iload C dL_law_1804 rfl ?_
  refine e_bipush (v := nI 22) C dL_law_1806 (by decide) ?_
  refine e_ishr C dL_law_1808 ?_
  refine e_bipush (v := nI 6) C dL_law_1809 (by decide) ?_
  refine f_callSr (As := [_, _]) C mi_yL_low b_st_yL_low b_ml_L_41 dL_law_1811 rfl (c_L_low (by decide) (by decide)) (by decide) (Nat.le_of_ble_eq_true rfl) ?_
  refine f_callVi (As := [_, _, _]) (ci := 6) C mi_yX6_change mv_yX6_change b_ml_L_154 dL_law_1814 rfl (c_X6_change hC hI.1) (by decide) v0 rfl rfl (Nat.le_of_ble_eq_true rfl) (fun x_1814 m_1814 hc_1814 => ?_)
  obtain ⟨hx_1814, hC1, hF1⟩ := hc_1814
  have hZ1 := hZ.fr hF1
  refine e_aload C dL_law_1817 rfl ?_
  refine e_iconst (v := nI 4) C dL_law_1819 (by decide) ?_
  refine e_iload C dL_law_1820 rfl ?_
  refine f_iaddn C dL_law_1822 ?_
  refine f_iald C rfl v19 (by omega) (by decide) dL_law_1823 ?_
  rw [hx_1814, hfc, hZ1.s_opt hn ho]
  refine e_icmp_ne (tgt := 1831) C dL_law_1824 (by decide) (fun h_1824 => ?_) (fun h_1824 => ?_)
  · skip
    exact absurd rfl h_1824
  · skip
    refine e_iconst (v := nI 1) C dL_law_1827 (by decide) ?_
    refine e_goto (tgt := 1832) C dL_law_1828 (by decide) ?_
    refine f_istore (ls1 := [_, _, _, _, _, _, _, _, _, _, _, _, _, _, _, _, _, _, _]) C dL_law_1832 (by decide) rfl ?_
    refine e_aload C dL_law_1834 rfl ?_
    refine e_iconst (v := nI 4) C dL_law_1836 (by decide) ?_
    refine e_iload C dL_law_1837 rfl ?_
    refine f_iaddn C dL_law_1839 ?_
    refine e_iload C dL_law_1840 rfl ?_
    refine e_bipush (v := nI 18) C dL_law_1842 (by decide) ?_
    refine e_ishr C dL_law_1844 ?_
    refine e_bipush (v := nI 16) C dL_law_1845 (by decide) ?_
    refine f_callSr (As := [_, _]) C mi_yL_low b_st_yL_low b_ml_L_41 dL_law_1847 rfl (c_L_low (by decide) (by decide)) (by decide) (Nat.le_of_ble_eq_true rfl) ?_
    refine f_iast C rfl v19 (by omega) (by decide) dL_law_1850 ?_
    refine e_aload C dL_law_1851 rfl ?_
    refine e_bipush (v := nI 8) C dL_law_1853 (by decide) ?_
    refine e_iload C dL_law_1855 rfl ?_
    refine f_iaddn C dL_law_1857 ?_
    refine e_iload C dL_law_1858 rfl ?_
    refine e_bipush (v := nI 22) C dL_law_1860 (by decide) ?_
    refine e_ishr C dL_law_1862 ?_
    refine e_bipush (v := nI 6) C dL_law_1863 (by decide) ?_
    refine f_callSr (As := [_, _]) C mi_yL_low b_st_yL_low b_ml_L_41 dL_law_1865 rfl (c_L_low (by decide) (by decide)) (by decide) (Nat.le_of_ble_eq_true rfl) ?_
    refine f_iast C rfl v19 (by omega) (by decide) dL_law_1868 ?_
    exact kk _ _ c _ _ _ _ _ (hC1.frM ((FrM.rfl'.law (by decide)).law (by decide))) (by show LZ _ (fChange a.1 (nI n) (nI (lowz (h >>> (nI 18 &&& 31)) 16)) (nI (lowz (h >>> (nI 22 &&& 31)) 6))).2 c; rw [hfc]; exact (hZ1.ss' (w := 1) hn (by decide) ho).ss' (w := 2) hn (by decide) (by rw [sz_ss (by decide) (by decide), if_neg (by omega)]; exact ho)) (Good.chg ⟨c, hI⟩)
set_option maxRecDepth 100000 in
set_option maxHeartbeats 4000000 in
theorem la_step {E : EV} {X : CX} (C : CK E X RL cL_law 19 (some .boolean) 9) {e : Nat} {h : Int32} {kd n q p : Nat} (hn : n < 4) (hq : q < 12) (hp : p = 9 ∨ p < 5) {mem : MEM} {a : AS} {c : Nat} (hC : RC mem a) (hZ : LZ mem a.1 c) (hI : GoodC a.1 c) (he : e < 80) (hkd : kd < 24) {x14 x15 x16 x17 x18 : VV} (kk : ∀ (m : MEM) (a : AS) (c : Nat) (x14 x15 x16 x17 x18 : VV), RC m a → LZ m a.1 c → Good a.1 → G E X 19 1869 [rv (99, 0, 0), rv (0, 0, 0), rv (17, 0, 0), rv (18, 0, 0), rv (19, 0, 0), rv (20, 0, 0), rv (21, 0, 0), iv (nI e), iv h, iv (nI kd), iv (nI n), iv (nI q), iv (nI p), iv (nI 1), x14, x15, x16, x17, x18] [] m) : G E X 19 173 [rv (99, 0, 0), rv (0, 0, 0), rv (17, 0, 0), rv (18, 0, 0), rv (19, 0, 0), rv (20, 0, 0), rv (21, 0, 0), iv (nI e), iv h, iv (nI kd), iv (nI n), iv (nI q), iv (nI p), iv (nI 1), x14, x15, x16, x17, x18] [] mem := by
  have hc60 := hZ.c60
  refine e_iload C dL_law_173 rfl ?_
  refine e_iconst (v := nI 2) C dL_law_175 (by decide) ?_
  refine e_icmp_lt (tgt := 185) C dL_law_176 (by decide) (fun h_176 => ?_) (fun h_176 => ?_)
  · skip
    have nh_176 := xI_ltD (by omega) (by omega) h_176
    exact la_add C hn hq hp hC hZ hI kk
  · skip
    have nh_176 := xI_nltD (by omega) (by omega) h_176
    refine e_iload C dL_law_179 rfl ?_
    refine e_iconst (v := nI 2) C dL_law_181 (by decide) ?_
    refine e_icmp_ge (tgt := 372) C dL_law_182 (by decide) (fun h_182 => ?_) (fun h_182 => ?_)
    · skip
      have nh_182 := xI_leD (by omega) (by omega) h_182
      refine e_iload C dL_law_372 rfl ?_
      refine e_iconst (v := nI 4) C dL_law_374 (by decide) ?_
      refine e_icmp_lt (tgt := 384) C dL_law_375 (by decide) (fun h_375 => ?_) (fun h_375 => ?_)
      · skip
        have nh_375 := xI_ltD (by omega) (by omega) h_375
        exact la_open C hn hq hp hC hZ hI kk
      · skip
        have nh_375 := xI_nltD (by omega) (by omega) h_375
        refine e_iload C dL_law_378 rfl ?_
        refine e_iconst (v := nI 5) C dL_law_380 (by decide) ?_
        refine e_icmp_ge (tgt := 595) C dL_law_381 (by decide) (fun h_381 => ?_) (fun h_381 => ?_)
        · skip
          have nh_381 := xI_leD (by omega) (by omega) h_381
          refine e_iload C dL_law_595 rfl ?_
          refine e_iconst (v := nI 4) C dL_law_597 (by decide) ?_
          refine e_icmp_ne (tgt := 873) C dL_law_598 (by decide) (fun h_598 => ?_) (fun h_598 => ?_)
          · skip
            have nh_598 := xI_neD h_598
            refine e_iload C dL_law_873 rfl ?_
            refine e_iconst (v := nI 5) C dL_law_875 (by decide) ?_
            refine e_icmp_ne (tgt := 970) C dL_law_876 (by decide) (fun h_876 => ?_) (fun h_876 => ?_)
            · skip
              have nh_876 := xI_neD h_876
              refine e_iload C dL_law_970 rfl ?_
              refine e_bipush (v := nI 8) C dL_law_972 (by decide) ?_
              refine e_icmp_ge (tgt := 1075) C dL_law_974 (by decide) (fun h_974 => ?_) (fun h_974 => ?_)
              · skip
                have nh_974 := xI_leD (by omega) (by omega) h_974
                refine e_aload C dL_law_1075 rfl ?_
                refine e_iload C dL_law_1077 rfl ?_
                refine f_iald C rfl v19 (by omega) (by decide) dL_law_1079 ?_
                refine e_if_ge (tgt := 1128) C dL_law_1080 (by decide) (fun h_1080 => ?_) (fun h_1080 => ?_)
                · skip
                  have ho : sz a.1 n 0 = 1 := (hZ.s_ge hI.1 hn).mp h_1080
                  refine e_iload C dL_law_1128 rfl ?_
                  refine e_bipush (v := nI 15) C dL_law_1130 (by decide) ?_
                  refine e_icmp_ge (tgt := 1225) C dL_law_1132 (by decide) (fun h_1132 => ?_) (fun h_1132 => ?_)
                  · skip
                    have nh_1132 := xI_leD (by omega) (by omega) h_1132
                    refine e_iload C dL_law_1225 rfl ?_
                    refine e_bipush (v := nI 19) C dL_law_1227 (by decide) ?_
                    refine e_icmp_ge (tgt := 1396) C dL_law_1229 (by decide) (fun h_1229 => ?_) (fun h_1229 => ?_)
                    · skip
                      have nh_1229 := xI_leD (by omega) (by omega) h_1229
                      refine e_iload C dL_law_1396 rfl ?_
                      refine e_bipush (v := nI 21) C dL_law_1398 (by decide) ?_
                      refine e_icmp_ge (tgt := 1504) C dL_law_1400 (by decide) (fun h_1400 => ?_) (fun h_1400 => ?_)
                      · skip
                        have nh_1400 := xI_leD (by omega) (by omega) h_1400
                        refine e_iload C dL_law_1504 rfl ?_
                        refine e_bipush (v := nI 21) C dL_law_1506 (by decide) ?_
                        refine e_icmp_ne (tgt := 1676) C dL_law_1508 (by decide) (fun h_1508 => ?_) (fun h_1508 => ?_)
                        · skip
                          have nh_1508 := xI_neD h_1508
                          refine e_iload C dL_law_1676 rfl ?_
                          refine e_bipush (v := nI 22) C dL_law_1678 (by decide) ?_
                          refine e_icmp_ne (tgt := 1746) C dL_law_1680 (by decide) (fun h_1680 => ?_) (fun h_1680 => ?_)
                          · skip
                            have nh_1680 := xI_neD h_1680
                            refine e_iload C dL_law_1746 rfl ?_
                            refine e_bipush (v := nI 17) C dL_law_1748 (by decide) ?_
                            refine e_ishr C dL_law_1750 ?_
                            refine e_iconst (v := nI 2) C dL_law_1751 (by decide) ?_
                            refine f_callSi (As := [_, _]) C mi_yL_low b_st_yL_low b_ml_L_41 dL_law_1752 rfl (c_L_low_n (N := 2) (by omega) (by omega)) (by decide) (Nat.le_of_ble_eq_true rfl) (fun x_1752 m_1752 hc_1752 => ?_)
                            obtain ⟨⟨zk, hzk, hx_1752⟩, hm_1752⟩ := hc_1752
                            rw [hx_1752, hm_1752]
                            refine e_if_ne (tgt := 1791) C dL_law_1755 (by decide) (fun h_1755 => ?_) (fun h_1755 => ?_)
                            · skip
                              have nh_1755 := xI_neD (a := zk) (b := 0) h_1755
                              exact la_change C hn hq hp hC hZ hI ho kk
                            · skip
                              have nh_1755 := xI_inj (a := zk) (b := 0) (by omega) (by omega) h_1755
                              exact la_close C hn hq hp hC hZ hI ho kk
                          · skip
                            have nh_1680 := xI_inj (by omega) (by omega) h_1680
                            exact la_move C hn hq hp hC hZ hI ho kk
                        · skip
                          have nh_1508 := xI_inj (by omega) (by omega) h_1508
                          exact la_hand C hn hq hp hC hZ hI ho kk
                      · skip
                        have nh_1400 := xI_nleD (by omega) (by omega) h_1400
                        exact la_readAt C hn hq hp hC hZ hI ho kk
                    · skip
                      have nh_1229 := xI_nleD (by omega) (by omega) h_1229
                      exact la_read C hn hq hp hC hZ hI ho kk
                  · skip
                    have nh_1132 := xI_nleD (by omega) (by omega) h_1132
                    refine e_aload C dL_law_1135 rfl ?_
                    refine e_iconst (v := nI 0) C dL_law_1137 (by decide) ?_
                    refine f_iald C rfl v21 (by omega) (by decide) dL_law_1138 ?_
                    refine f_val (y := nI (c)) hZ.t0 ?_
                    refine e_bipush (v := nI 60) C dL_law_1139 (by decide) ?_
                    refine e_icmp_ge (tgt := 1225) C dL_law_1141 (by decide) (fun h_1141 => ?_) (fun h_1141 => ?_)
                    · skip
                      have nh_1141 := xI_leD (by omega) (by omega) h_1141
                      refine e_iload C dL_law_1225 rfl ?_
                      refine e_bipush (v := nI 19) C dL_law_1227 (by decide) ?_
                      refine e_icmp_ge (tgt := 1396) C dL_law_1229 (by decide) (fun h_1229 => ?_) (fun h_1229 => ?_)
                      · skip
                        have nh_1229 := xI_leD (by omega) (by omega) h_1229
                        refine e_iload C dL_law_1396 rfl ?_
                        refine e_bipush (v := nI 21) C dL_law_1398 (by decide) ?_
                        refine e_icmp_ge (tgt := 1504) C dL_law_1400 (by decide) (fun h_1400 => ?_) (fun h_1400 => ?_)
                        · skip
                          have nh_1400 := xI_leD (by omega) (by omega) h_1400
                          refine e_iload C dL_law_1504 rfl ?_
                          refine e_bipush (v := nI 21) C dL_law_1506 (by decide) ?_
                          refine e_icmp_ne (tgt := 1676) C dL_law_1508 (by decide) (fun h_1508 => ?_) (fun h_1508 => ?_)
                          · skip
                            have nh_1508 := xI_neD h_1508
                            refine e_iload C dL_law_1676 rfl ?_
                            refine e_bipush (v := nI 22) C dL_law_1678 (by decide) ?_
                            refine e_icmp_ne (tgt := 1746) C dL_law_1680 (by decide) (fun h_1680 => ?_) (fun h_1680 => ?_)
                            · skip
                              have nh_1680 := xI_neD h_1680
                              refine e_iload C dL_law_1746 rfl ?_
                              refine e_bipush (v := nI 17) C dL_law_1748 (by decide) ?_
                              refine e_ishr C dL_law_1750 ?_
                              refine e_iconst (v := nI 2) C dL_law_1751 (by decide) ?_
                              refine f_callSi (As := [_, _]) C mi_yL_low b_st_yL_low b_ml_L_41 dL_law_1752 rfl (c_L_low_n (N := 2) (by omega) (by omega)) (by decide) (Nat.le_of_ble_eq_true rfl) (fun x_1752 m_1752 hc_1752 => ?_)
                              obtain ⟨⟨zk, hzk, hx_1752⟩, hm_1752⟩ := hc_1752
                              rw [hx_1752, hm_1752]
                              refine e_if_ne (tgt := 1791) C dL_law_1755 (by decide) (fun h_1755 => ?_) (fun h_1755 => ?_)
                              · skip
                                have nh_1755 := xI_neD (a := zk) (b := 0) h_1755
                                exact la_change C hn hq hp hC hZ hI ho kk
                              · skip
                                have nh_1755 := xI_inj (a := zk) (b := 0) (by omega) (by omega) h_1755
                                exact la_close C hn hq hp hC hZ hI ho kk
                            · skip
                              have nh_1680 := xI_inj (by omega) (by omega) h_1680
                              exact la_move C hn hq hp hC hZ hI ho kk
                          · skip
                            have nh_1508 := xI_inj (by omega) (by omega) h_1508
                            exact la_hand C hn hq hp hC hZ hI ho kk
                        · skip
                          have nh_1400 := xI_nleD (by omega) (by omega) h_1400
                          exact la_readAt C hn hq hp hC hZ hI ho kk
                      · skip
                        have nh_1229 := xI_nleD (by omega) (by omega) h_1229
                        exact la_read C hn hq hp hC hZ hI ho kk
                    · skip
                      have nh_1141 := xI_nleD (by omega) (by omega) h_1141
                      exact la_write C hn hq hp hC hZ hI ho (by omega) kk
                · skip
                  exact la_none C hn hq hp hC hZ hI ((hZ.s_lt hI.1 hn).mp (Int32.not_le.mp h_1080)) kk
              · skip
                have nh_974 := xI_nleD (by omega) (by omega) h_974
                exact la_tick C hn hq hp hC hZ hI kk
            · skip
              have nh_876 := xI_inj (by omega) (by omega) h_876
              exact la_jump C hn hq hp hC hZ hI kk
          · skip
            have nh_598 := xI_inj (by omega) (by omega) h_598
            exact la_k4 C hn hq hp hC hZ hI kk
        · skip
          have nh_381 := xI_nleD (by omega) (by omega) h_381
          exact la_open C hn hq hp hC hZ hI kk
    · skip
      have nh_182 := xI_nleD (by omega) (by omega) h_182
      exact la_add C hn hq hp hC hZ hI kk
