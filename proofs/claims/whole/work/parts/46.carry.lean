abbrev rm_T_carry : Room := { frames := 2, cells := 0, slots := 0, locals := 43 }
set_option maxRecDepth 20000 in
set_option maxHeartbeats 4000000 in
theorem sg_T_carry_39 {p : Program} {l : Launch} {e : Env} {s : State} {m : MethodId} {args : Array Value} {below : List Frame} {meth : Method} {c : Code} {Q : State → Prop} {X : Xt} {G : Gc} {B : St} {Af : Nat → Prop} {i q : Nat} (hx : p.tables.exec = Jvm.exec) (hb : c.code = b_T_carry) (hts : ∀ w ∈ Cond.code y_T_carry b_T_carry 6 none :: WA, w.before args s = true) (hown : s.vm.findClass R_ClusterTool = some m.cls) (hml : c.maxLocals = 6) (hK : KK X s) (hi : i < sA_n B) (hq : q < 6) (w1 : sA_rt B i < 2) (w3 : sA_pl B i ≤ 5) (hR : rOk B) {ls : Array Slot} (hl : lv_has ls 6 [(3, .ref (gA_ad G (18 + 4 * i))), (2, .int (nI q)), (1, .int (nI i)), (0, .ref (gA_ad G 0))]) (kont : ∀ (H : Heap) (locs : List Loc), va_P X.1 classes (cw X (gU_ins G (ins1 (gA_ins G) (sA_pl B i))) B) H → va_D Af (cw X (gU_ins G (ins1 (gA_ins G) (sA_pl B i))) B) → va_S Af s.heap H locs → W p l e rm_T_carry s m args below meth c H locs 0 0 Q (F0 m 57 ls [])) : ∀ (H : Heap) (locs : List Loc), va_P X.1 classes (cw X G B) H → va_D Af (cw X G B) → va_S Af s.heap H locs → W p l e rm_T_carry s m args below meth c H locs 0 0 Q (F0 m 39 ls []) := by
  intro H locs hP hD hS
  refine lv_aload_n hx hb d_T_carry_39 rfl (lv_at hl 0 rfl) ?_
  refine va_getN (D := X.1) (ci := 5) (C := R_Wafer) (T := F_Wafer) (N := 10) hx hb hts hin_Wafer hown hK.1 hP (18 + 4 * i) (cw_w hi) rfl 4 (by decide) (va_Nw.use rfl (hK.2.1 _ (List.mem_of_getElem? (i := 12) rfl))) (fun _ h9 => h9) rfl d_T_carry_40 ?_
  refine lv_iconst (v := 5) hx hb d_T_carry_43 rfl ?_
  refine lv_icmp_eq (tgt := 57) hx hb d_T_carry_44 rfl (fun h44 => ?_) (fun h44 => ?_)
  ·
    have eI : ins1 (gA_ins G) (sA_pl B i) = gA_ins G := by unfold ins1; rw [if_pos (pl5 w3 h44)]
    exact kont H locs (by rw [eI]; exact hP) (by rw [eI]; exact hD) hS
  ·
    refine lv_aload_n hx hb d_T_carry_47 rfl (lv_at hl 3 rfl) ?_
    refine va_get (D := X.1) (ci := 0) (C := R_ClusterTool) (T := F_ClusterTool) (N := 8) hx hb hts hin_ClusterTool hown hK.1 hP 0 cw_0 rfl 5 (by decide) (hts _ (wd_1 90 rfl rfl)) (fun _ h9 => h9) rfl d_T_carry_48 ?_
    refine lv_aload_n hx hb d_T_carry_51 rfl (lv_at hl 0 rfl) ?_
    refine va_getN (D := X.1) (ci := 5) (C := R_Wafer) (T := F_Wafer) (N := 10) hx hb hts hin_Wafer hown hK.1 hP (18 + 4 * i) (cw_w hi) rfl 4 (by decide) (va_Nw.use rfl (hK.2.1 _ (List.mem_of_getElem? (i := 12) rfl))) (fun _ h9 => h9) rfl d_T_carry_52 ?_
    refine lv_iconst (v := (-1)) hx hb d_T_carry_55 rfl ?_
    refine va_iast hx hb hK.1 hP hD hS 6 0 cw_6 rfl (vp_in_nI (ne5 (by omega) h44) (by omega)) d_T_carry_56 (fun H locs hP hD hS => ?_)
    rw [nI_clamp (n := sA_pl B i) (by omega)] at hP hD
    replace hP := vx_P (cw_s_ins (X := X) (G := G) (A := B) (k := sA_pl B i) (v := (-1))) hP
    replace hD := vx_D (cw_s_ins (X := X) (G := G) (A := B) (k := sA_pl B i) (v := (-1))) hD
    have eI : ins1 (gA_ins G) (sA_pl B i) = upd (gA_ins G) (sA_pl B i) (-1) := by unfold ins1; rw [if_neg (show ¬ sA_pl B i = 5 from fun z => h44 (by rw [z]; rfl))]
    exact kont H locs (by rw [eI]; exact hP) (by rw [eI]; exact hD) hS
set_option maxRecDepth 20000 in
set_option maxHeartbeats 4000000 in
theorem sg_T_carry_57 {p : Program} {l : Launch} {e : Env} {s : State} {m : MethodId} {args : Array Value} {below : List Frame} {meth : Method} {c : Code} {Q : State → Prop} {X : Xt} {G : Gc} {B : St} {Af : Nat → Prop} {i q : Nat} (hx : p.tables.exec = Jvm.exec) (hb : c.code = b_T_carry) (hts : ∀ w ∈ Cond.code y_T_carry b_T_carry 6 none :: WA, w.before args s = true) (hown : s.vm.findClass R_ClusterTool = some m.cls) (hml : c.maxLocals = 6) (hK : KK X s) (hi : i < sA_n B) (hq : q < 6) (w1 : sA_rt B i < 2) (w3 : sA_pl B i ≤ 5) (hR : rOk B) {ls : Array Slot} (hl : lv_has ls 6 [(3, .ref (gA_ad G (18 + 4 * i))), (2, .int (nI q)), (1, .int (nI i)), (0, .ref (gA_ad G 0))]) (kont : ∀ (H : Heap) (locs : List Loc), va_P X.1 classes (cw X (gU_ins G (ins2 (gA_ins G) q i)) B) H → va_D Af (cw X (gU_ins G (ins2 (gA_ins G) q i)) B) → va_S Af s.heap H locs → W p l e rm_T_carry s m args below meth c H locs 0 0 Q (F0 m 69 ls [])) : ∀ (H : Heap) (locs : List Loc), va_P X.1 classes (cw X G B) H → va_D Af (cw X G B) → va_S Af s.heap H locs → W p l e rm_T_carry s m args below meth c H locs 0 0 Q (F0 m 57 ls []) := by
  intro H locs hP hD hS
  refine lv_iload_n hx hb d_T_carry_57 rfl (lv_at hl 1 rfl) ?_
  refine lv_iconst (v := 5) hx hb d_T_carry_58 rfl ?_
  refine lv_icmp_eq (tgt := 69) hx hb d_T_carry_59 rfl (fun h59 => ?_) (fun h59 => ?_)
  ·
    have eI : ins2 (gA_ins G) q i = gA_ins G := by unfold ins2; rw [if_pos (pl5 (by omega) h59)]
    exact kont H locs (by rw [eI]; exact hP) (by rw [eI]; exact hD) hS
  ·
    refine lv_aload_n hx hb d_T_carry_62 rfl (lv_at hl 3 rfl) ?_
    refine va_get (D := X.1) (ci := 0) (C := R_ClusterTool) (T := F_ClusterTool) (N := 8) hx hb hts hin_ClusterTool hown hK.1 hP 0 cw_0 rfl 5 (by decide) (hts _ (wd_1 90 rfl rfl)) (fun _ h9 => h9) rfl d_T_carry_63 ?_
    refine lv_iload_n hx hb d_T_carry_66 rfl (lv_at hl 1 rfl) ?_
    refine lv_iload_n hx hb d_T_carry_67 rfl (lv_at hl 2 rfl) ?_
    refine va_iast hx hb hK.1 hP hD hS 6 0 cw_6 rfl (vp_in_nI (ne5 hq h59) (by omega)) d_T_carry_68 (fun H locs hP hD hS => ?_)
    rw [nI_clamp (n := q) (by omega)] at hP hD
    replace hP := vx_P (cw_s_ins (X := X) (G := G) (A := B) (k := q) (v := nI i)) hP
    replace hD := vx_D (cw_s_ins (X := X) (G := G) (A := B) (k := q) (v := nI i)) hD
    have eI : ins2 (gA_ins G) q i = upd (gA_ins G) q (nI i) := by unfold ins2; rw [if_neg (show ¬ q = 5 from fun z => h59 (by rw [z]; rfl))]
    exact kont H locs (by rw [eI]; exact hP) (by rw [eI]; exact hD) hS
set_option maxRecDepth 20000 in
set_option maxHeartbeats 4000000 in
theorem sg_T_carry_69 {p : Program} {l : Launch} {e : Env} {s : State} {m : MethodId} {args : Array Value} {below : List Frame} {meth : Method} {c : Code} {Q : State → Prop} {X : Xt} {G : Gc} {B : St} {Af : Nat → Prop} {i q : Nat} (hx : p.tables.exec = Jvm.exec) (hb : c.code = b_T_carry) (hts : ∀ w ∈ Cond.code y_T_carry b_T_carry 6 none :: WA, w.before args s = true) (hown : s.vm.findClass R_ClusterTool = some m.cls) (hml : c.maxLocals = 6) (hK : KK X s) (hi : i < sA_n B) (hq : q < 6) (w1 : sA_rt B i < 2) (w3 : sA_pl B i ≤ 5) (hR : rOk B) {ls : Array Slot} (hl : lv_has ls 6 [(3, .ref (gA_ad G (18 + 4 * i))), (2, .int (nI q)), (1, .int (nI i)), (0, .ref (gA_ad G 0))]) (kont : ∀ (H : Heap) (locs : List Loc) (ls : Array Slot), va_P X.1 classes (cw X (arrG G i q) (plB B i q)) H → va_D Af (cw X (arrG G i q) (plB B i q)) → va_S Af s.heap H locs → lv_has ls 6 [(5, .ref (gA_ad G (8 + 4 * (sA_rt B i)))), (3, .ref (gA_ad G (18 + 4 * i))), (2, .int (nI q)), (1, .int (nI i)), (0, .ref (gA_ad G 0))] → W p l e rm_T_carry s m args below meth c H locs 0 0 Q (F0 m 87 ls [])) : ∀ (H : Heap) (locs : List Loc), va_P X.1 classes (cw X G B) H → va_D Af (cw X G B) → va_S Af s.heap H locs → W p l e rm_T_carry s m args below meth c H locs 0 0 Q (F0 m 69 ls []) := by
  intro H locs hP hD hS
  refine lv_aload_n hx hb d_T_carry_69 rfl (lv_at hl 0 rfl) ?_
  refine lv_iload_n hx hb d_T_carry_70 rfl (lv_at hl 1 rfl) ?_
  refine va_callv (va_runV (As := [.int (nI q)]) (rest := []) ⟨hx, hb, hml, hown, hts⟩ (c_W_arrive l X G B Af i hi q) (cwV 1 hts (gV (wd_2 31 rfl rfl) (wd_2 32 rfl rfl) (wd_2 33 rfl rfl) (wd_1 7 rfl rfl) (wd_2 34 rfl rfl)) rfl rfl rfl ⟨rfl, hd_W_arrive⟩ ⟨Nat.le_of_ble_eq_true rfl, Nat.le_of_ble_eq_true rfl⟩) (vx_preV (P := PW X Af G B) ⟨hP, hD⟩ hK (va_recv hK.1 hP (ci := 5) rfl (cw_w hi))) rfl rfl hl.1 rfl (lv_room (Nat.le_of_ble_eq_true rfl)) d_T_carry_71 ⟨Nat.zero_le _, Nat.zero_le _⟩) hS (fun q _ h => h) (fun q h => h) (fun u71 t71 H locs ht hvm hu71 hB hz hk hS => ?_)
  obtain ⟨hP, hD⟩ := hB
  rw [ht] at hP
  rw [arrive_eq (q := q) (by omega)] at hu71
  subst hu71
  have hP : va_P X.1 classes (cw X (arrG G i q) (plB B i q)) H := hP
  have hD : va_D Af (cw X (arrG G i q) (plB B i q)) := hD
  have hi2 : i < sA_n (plB B i q) := hi
  refine lv_aload_n hx hb d_T_carry_74 rfl (lv_at hl 3 rfl) ?_
  refine va_get (D := X.1) (ci := 0) (C := R_ClusterTool) (T := F_ClusterTool) (N := 8) hx hb hts hin_ClusterTool hown hK.1 hP 0 cw_0 rfl 0 (by decide) (hts _ (wd_1 85 rfl rfl)) (fun _ h9 => h9) rfl d_T_carry_75 ?_
  refine lv_aload_n hx hb d_T_carry_78 rfl (lv_at hl 0 rfl) ?_
  refine va_getN (D := X.1) (ci := 5) (C := R_Wafer) (T := F_Wafer) (N := 10) hx hb hts hin_Wafer hown hK.1 hP (18 + 4 * i) (cw_w hi2) rfl 0 (by decide) (va_Nw.use rfl (hK.2.1 _ (List.mem_of_getElem? (i := 8) rfl))) (fun _ h9 => h9) rfl d_T_carry_79 ?_
  refine va_csq (W.runV (As := [.int (nI (sA_rt B i))]) (rest := []) ⟨hx, hb, hml, hown, hts⟩ (c_Y_routeOf l X (arrG G i q) (plB B i q) (nI (sA_rt B i))) (cwV 1 hts (gV (wd_1 114 rfl rfl) (wd_1 115 rfl rfl) (wd_1 116 rfl rfl) (wd_1 2 rfl rfl) (wd_1 117 rfl rfl)) rfl rfl rfl ⟨rfl, hd_Y_routeOf⟩ ⟨Nat.le_of_ble_eq_true rfl, Nat.le_of_ble_eq_true rfl⟩) (vx_preV (P := PR X (arrG G i q) (plB B i q)) hP hK (va_recv hK.1 hP (ci := 1) rfl cw_1)) rfl rfl hl.1 rfl (lv_room (Nat.le_of_ble_eq_true rfl)) d_T_carry_82 ⟨Nat.zero_le _, Nat.zero_le _⟩) (fun r82 e82 => ?_)
  cases q82 : f_Y_routeOf (nI (sA_rt B i)) with
  | none =>
    have e82 : r82 = none := by rw [e82, q82]; rfl
    subst e82
    exact absurd (routeOf_nI _ w1) (by rw [q82]; exact fun z => by cases z)
  | some i82 =>
    have e82 : r82 = some (gA_ad G (8 + 4 * i82)) := by rw [e82, q82]; rfl
    subst e82
    have hli82 := routeOf_lt q82
    have er : i82 = sA_rt B i := Option.some.inj (q82.symm.trans (routeOf_nI _ w1))
    subst er
    refine lv_astore (lv' := [(5, .ref (gA_ad G (8 + 4 * (sA_rt B i)))), (3, .ref (gA_ad G (18 + 4 * i))), (2, .int (nI q)), (1, .int (nI i)), (0, .ref (gA_ad G 0))]) hx hb d_T_carry_85 hl (by decide) rfl (fun ls hl => ?_)
    exact kont H locs ls hP hD hS (lv_sub hl [0, 1, 2, 3, 4] rfl)
set_option maxRecDepth 20000 in
set_option maxHeartbeats 4000000 in
theorem sg_T_carry_87 {p : Program} {l : Launch} {e : Env} {s : State} {m : MethodId} {args : Array Value} {below : List Frame} {meth : Method} {c : Code} {Q : State → Prop} {X : Xt} {G : Gc} {B : St} {Af : Nat → Prop} {i q : Nat} (hx : p.tables.exec = Jvm.exec) (hb : c.code = b_T_carry) (hts : ∀ w ∈ Cond.code y_T_carry b_T_carry 6 none :: WA, w.before args s = true) (hown : s.vm.findClass R_ClusterTool = some m.cls) (hml : c.maxLocals = 6) (hK : KK X s) (hi : i < sA_n B) (hq : q < 6) (w1 : sA_rt B i < 2) (w3 : sA_pl B i ≤ 5) (hR : rOk B) {ls : Array Slot} (hp : sA_pl B i = q) (h4 : q < 4 → sA_sg B i < sA_len B (sA_rt B i)) (hl : lv_has ls 6 [(5, .ref (gA_ad G (8 + 4 * (sA_rt B i)))), (3, .ref (gA_ad G (18 + 4 * i))), (2, .int (nI q)), (1, .int (nI i)), (0, .ref (gA_ad G 0))]) (kont : ∀ (H : Heap) (locs : List Loc) (ls : Array Slot), va_P X.1 classes (cw X G (if q < 4 then begA B i q else B)) H → va_D Af (cw X G (if q < 4 then begA B i q else B)) → va_S Af s.heap H locs → W p l e rm_T_carry s m args below meth c H locs 0 0 Q (F0 m 114 ls [])) : ∀ (H : Heap) (locs : List Loc), va_P X.1 classes (cw X G B) H → va_D Af (cw X G B) → va_S Af s.heap H locs → W p l e rm_T_carry s m args below meth c H locs 0 0 Q (F0 m 87 ls []) := by
  intro H locs hP hD hS
  refine lv_iload_n hx hb d_T_carry_87 rfl (lv_at hl 2 rfl) ?_
  refine lv_iconst (v := 4) hx hb d_T_carry_88 rfl ?_
  refine lv_icmp_ge (tgt := 114) hx hb d_T_carry_89 rfl (fun h89 => ?_) (fun h89 => ?_)
  ·
    exact kont H locs ls (by rw [if_neg (ge4 hq h89)]; exact hP) (by rw [if_neg (ge4 hq h89)]; exact hD) hS
  ·
    refine lv_aload hx hb d_T_carry_92 (lv_at hl 0 rfl) ?_
    refine lv_ifnull hx hb d_T_carry_94 ?_
    have hq4 := lt4 hq h89
    have hsl := h4 hq4
    have wl := hR.1 (sA_rt B i)
    have hsg3 : sA_sg B i < 3 := by omega
    refine lv_aload_n hx hb d_T_carry_97 rfl (lv_at hl 1 rfl) ?_
    refine lv_aload hx hb d_T_carry_98 (lv_at hl 0 rfl) ?_
    refine lv_aload_n hx hb d_T_carry_100 rfl (lv_at hl 1 rfl) ?_
    refine va_getN (D := X.1) (ci := 5) (C := R_Wafer) (T := F_Wafer) (N := 10) hx hb hts hin_Wafer hown hK.1 hP (18 + 4 * i) (cw_w hi) rfl 5 (by decide) (va_Nw.use rfl (hK.2.1 _ (List.mem_of_getElem? (i := 13) rfl))) (fun _ h9 => h9) rfl d_T_carry_101 ?_
    refine vp_callSi (W.runV (As := [.int (nI (sA_sg B i))]) (rest := [.ref (gA_ad G (18 + 4 * i))]) ⟨hx, hb, hml, hown, hts⟩ (c_U_timeAt l X G B (sA_rt B i) w1 (nI (sA_sg B i)) hR) (cwV 1 hts (gV (wd_2 35 rfl rfl) (wd_2 36 rfl rfl) (wd_2 37 rfl rfl) (wd_1 3 rfl rfl) (wd_2 38 rfl rfl)) rfl rfl rfl ⟨rfl, hd_U_timeAt⟩ ⟨Nat.le_of_ble_eq_true rfl, Nat.le_of_ble_eq_true rfl⟩) (vx_preV (P := PR X G B) hP hK (va_recv hK.1 hP (ci := 4) rfl (cw_r w1))) rfl rfl hl.1 rfl (lv_room (Nat.le_of_ble_eq_true rfl)) d_T_carry_104 ⟨Nat.zero_le _, Nat.zero_le _⟩) (fun r104 e104 => ?_)
    subst e104
    rw [timeAt_nI hR hsl]
    refine lv_aload_n hx hb d_T_carry_107 rfl (lv_at hl 4 rfl) ?_
    refine va_get (D := X.1) (ci := 0) (C := R_ClusterTool) (T := F_ClusterTool) (N := 8) hx hb hts hin_ClusterTool hown hK.1 hP 0 cw_0 rfl 7 (by decide) (hts _ (wd_1 92 rfl rfl)) (fun _ h9 => h9) rfl d_T_carry_108 ?_
    refine va_callv (va_runV (As := [.int (nI (sA_tm B (sA_rt B i) (sA_sg B i))), .int (sA_ck B)]) (rest := []) ⟨hx, hb, hml, hown, hts⟩ (c_W_begin l X G B Af i hi (sA_tm B (sA_rt B i) (sA_sg B i)) (sA_ck B) (by omega)) (cwV 2 hts (gV (wd_2 39 rfl rfl) (wd_2 40 rfl rfl) (wd_2 41 rfl rfl) (wd_1 7 rfl rfl) (wd_2 42 rfl rfl)) rfl rfl rfl ⟨rfl, hd_W_begin⟩ ⟨Nat.le_of_ble_eq_true rfl, Nat.le_of_ble_eq_true rfl⟩) (vx_preV (P := PW X Af G B) ⟨hP, hD⟩ hK (va_recv hK.1 hP (ci := 5) rfl (cw_w hi))) rfl rfl hl.1 rfl (lv_room (Nat.le_of_ble_eq_true rfl)) d_T_carry_111 ⟨Nat.zero_le _, Nat.zero_le _⟩) hS (fun q _ h => h) (fun q h => h) (fun u111 t111 H locs ht hvm hu111 hB hz hk hS => ?_)
    obtain ⟨hP, hD⟩ := hB
    rw [ht] at hP
    rw [begin_eq (q := q) hsg3 hp] at hu111
    subst hu111
    replace hP := vx_P cw_beg hP
    replace hD := vx_D cw_beg hD
    exact kont H locs ls (by rw [if_pos (lt4 hq h89)]; exact hP) (by rw [if_pos (lt4 hq h89)]; exact hD) hS
set_option maxRecDepth 20000 in
set_option maxHeartbeats 4000000 in
theorem c_T_carry (l : Launch) (X : Xt) (G : Gc) (A : St) (Af : Nat → Prop) (i : Nat) (q : Nat) (hI : Inv A) (hi : i < sA_n A) (hq : q < 6) (h4 : q < 4 → sA_sg A i < sA_len A (sA_rt A i)) : Met l y_T_carry (Cond.code y_T_carry b_T_carry 6 none :: WA) rm_T_carry (va_Pc [.ref (gA_ad G 0), .int (nI i), .int (nI q)] (fun U => PW X Af G A U.heap ∧ KK X U)) (va_Qv (fun u => u = (carG G (sA_pl A i) i q, moveA A i q)) (atC X Af) Af) 0 0 Af := by
  refine vx_met (cc := b_T_carry) (maxL := 6) (ret := none) (by decide) rfl (Nat.le_of_ble_eq_true rfl) ?_
  intro p e s m below meth c ls hx hb hrt hts hown hlocks hname hml hB hl
  obtain ⟨hP, hK⟩ := hB
  have hown : s.vm.findClass R_ClusterTool = some m.cls := hown
  have hl : lv_has ls 6 [(0, .ref (gA_ad G 0)), (1, .int (nI i)), (2, .int (nI q))] := hl
  have hD : va_D Af (cw X G A) := hP.2
  have hP : va_P X.1 classes (cw X G A) s.heap := hP.1
  have hS : va_S Af s.heap s.heap [] := va_S.rf
  have hn := hI.1
  have hR := hI.2.1
  refine lv_aload_n hx hb d_T_carry_0 rfl (lv_at hl 0 rfl) ?_
  refine lv_iload_n hx hb d_T_carry_1 rfl (lv_at hl 1 rfl) ?_
  refine va_csq (W.runV (As := [.int (nI i)]) (rest := []) ⟨hx, hb, hml, hown, hts⟩ (c_T_waferOf l X G A (nI i) hn) (cwV 1 hts (gV (wd_1 180 rfl rfl) (wd_1 182 rfl rfl) (wd_s 0 rfl) (wd_1 1 rfl rfl) (wd_1 183 rfl rfl)) rfl rfl rfl ⟨rfl, hd_T_waferOf⟩ ⟨Nat.le_of_ble_eq_true rfl, Nat.le_of_ble_eq_true rfl⟩) (vx_preV (P := PR X G A) hP hK (va_recv hK.1 hP (ci := 0) rfl cw_0)) rfl rfl hl.1 rfl (lv_room (Nat.le_of_ble_eq_true rfl)) d_T_carry_2 ⟨Nat.zero_le _, Nat.zero_le _⟩) (fun r2 e2 => ?_)
  cases q2 : f_T_waferOf A (nI i) with
  | none =>
    have e2 : r2 = none := by rw [e2, q2]; rfl
    subst e2
    exact absurd (waferOf_nI hn hi) (by rw [q2]; exact fun z => by cases z)
  | some i2 =>
    have e2 : r2 = some (gA_ad G (18 + 4 * i2)) := by rw [e2, q2]; rfl
    subst e2
    have hli2 := waferOf_lt hn q2
    have ei : i = i2 := Option.some.inj ((waferOf_nI hn hi).symm.trans q2)
    subst ei
    obtain ⟨w1, w2, w3, w4, -⟩ := hI.2.2.1 i hi
    refine lv_astore_n (lv' := [(3, .ref (gA_ad G (18 + 4 * i))), (0, .ref (gA_ad G 0)), (1, .int (nI i)), (2, .int (nI q))]) hx hb d_T_carry_5 rfl hl (by decide) rfl (fun ls hl => ?_)
    refine lv_aload_n hx hb d_T_carry_6 rfl (lv_at hl 0 rfl) ?_
    refine lv_ifnonnull (tgt := 11) hx hb d_T_carry_7 rfl ?_
    refine lv_aload_n hx hb d_T_carry_11 rfl (lv_at hl 1 rfl) ?_
    refine lv_aload_n hx hb d_T_carry_12 rfl (lv_at hl 0 rfl) ?_
    refine va_getN (D := X.1) (ci := 5) (C := R_Wafer) (T := F_Wafer) (N := 10) hx hb hts hin_Wafer hown hK.1 hP (18 + 4 * i) (cw_w hli2) rfl 4 (by decide) (va_Nw.use rfl (hK.2.1 _ (List.mem_of_getElem? (i := 12) rfl))) (fun _ h9 => h9) rfl d_T_carry_13 ?_
    refine lv_iload_n hx hb d_T_carry_16 rfl (lv_at hl 3 rfl) ?_
    refine va_csq (W.runV (As := [.int (nI (sA_pl A i)), .int (nI q)]) (rest := []) ⟨hx, hb, hml, hown, hts⟩ (c_T_robotFor l X G A (nI (sA_pl A i)) (nI q)) (cwV 2 hts (gV (wd_2 17 rfl rfl) (wd_2 19 rfl rfl) (wd_s 7 rfl) (wd_1 1 rfl rfl) (wd_2 20 rfl rfl)) rfl rfl rfl ⟨rfl, hd_T_robotFor⟩ ⟨Nat.le_of_ble_eq_true rfl, Nat.le_of_ble_eq_true rfl⟩) (vx_preV (P := PR X G A) hP hK (va_recv hK.1 hP (ci := 0) rfl cw_0)) rfl rfl hl.1 rfl (lv_room (Nat.le_of_ble_eq_true rfl)) d_T_carry_17 ⟨Nat.zero_le _, Nat.zero_le _⟩) (fun r17 e17 => ?_)
    rcases robotFor_c (nI (sA_pl A i)) (nI q) with q17 | q17
    ·
      have e17 : r17 = some (gA_ad G 4) := by rw [e17, q17]; rfl
      subst e17
      refine lv_astore (lv' := [(4, .ref (gA_ad G 4)), (3, .ref (gA_ad G (18 + 4 * i))), (0, .ref (gA_ad G 0)), (1, .int (nI i)), (2, .int (nI q))]) hx hb d_T_carry_20 hl (by decide) rfl (fun ls hl => ?_)
      refine lv_aload hx hb d_T_carry_22 (lv_at hl 0 rfl) ?_
      refine lv_iconst (v := 1) hx hb d_T_carry_24 rfl ?_
      refine va_putN (D := X.1) (ci := 3) (v := .int (b2i true)) (ty := .boolean) (C := R_Robot) (T := F_Robot) (N := 2) hx hb hts hin_Robot t_Robot t_Robot_ok n_Robot hown hK.1 hP hD hS 4 cw_4 rfl 0 (by decide) (va_Nw.use rfl (hK.2.1 _ (List.mem_of_getElem? (i := 5) rfl))) (fun _ h9 => h9) rfl (by decide +kernel) (b2i_nar _) (b2i_fit _) (Nat.le_of_ble_eq_true rfl) d_T_carry_25 (fun H locs hP hD hS => ?_)
      replace hP := vx_P (cw_s_bb (X := X) (G := G) (A := A) (v := true)) hP
      replace hD := vx_D (cw_s_bb (X := X) (G := G) (A := A) (v := true)) hD
      refine lv_aload hx hb d_T_carry_28 (lv_at hl 0 rfl) ?_
      refine lv_dup hx hb d_T_carry_30 rfl ?_
      refine va_getN (D := X.1) (ci := 3) (C := R_Robot) (T := F_Robot) (N := 2) hx hb hts hin_Robot hown hK.1 hP 4 cw_4 rfl 1 (by decide) (va_Nw.use rfl (hK.2.1 _ (List.mem_of_getElem? (i := 6) rfl))) (fun _ h9 => h9) rfl d_T_carry_31 ?_
      refine lv_iconst (v := 1) hx hb d_T_carry_34 rfl ?_
      refine lv_iadd hx hb d_T_carry_35 ?_
      refine va_putN (D := X.1) (ci := 3) (v := .int ((sA_bm A) + 1)) (ty := .int) (C := R_Robot) (T := F_Robot) (N := 2) hx hb hts hin_Robot t_Robot t_Robot_ok n_Robot hown hK.1 hP hD hS 4 cw_4 rfl 1 (by decide) (va_Nw.use rfl (hK.2.1 _ (List.mem_of_getElem? (i := 6) rfl))) (fun _ h9 => h9) rfl (by decide +kernel) rfl rfl (Nat.le_of_ble_eq_true rfl) d_T_carry_36 (fun H locs hP hD hS => ?_)
      replace hP := vx_P (cw_s_bm (X := X) (G := G) (A := (sU_bb A true)) (v := ((sA_bm A) + 1))) hP
      replace hD := vx_D (cw_s_bm (X := X) (G := G) (A := (sU_bb A true)) (v := ((sA_bm A) + 1))) hD
      have eB : robB A i q = (sU_bm (sU_bb A true) ((sA_bm A) + 1)) := by unfold robB robA; rw [if_pos (rob_4 (by omega) hq q17)]
      replace hP : va_P X.1 classes (cw X G (robB A i q)) H := by rw [eB]; exact hP
      replace hD : va_D Af (cw X G (robB A i q)) := by rw [eB]; exact hD
      obtain ⟨f1, f2, f3, f4, f5, f6, f7, f8, f9, f10⟩ := robA_f A (backN (sA_pl A i) || backN q)
      clear eB
      generalize hBe : robB A i q = B at hP hD ⊢
      have hBe2 : robA A (backN (sA_pl A i) || backN q) = B := hBe
      rw [hBe2] at f1 f2 f3 f4 f5 f6 f7 f8 f9 f10
      have hRB : rOk B := by unfold rOk; rw [f5, f8, f6, f10, f9]; exact hR
      have g1 : sA_rt B i < 2 := by rw [f4]; exact w1
      have g2 : i < sA_n B := by rw [f1]; exact hi
      have g3 : sA_pl B i ≤ 5 := by rw [f2]; exact w3
      have g4 : q < 4 → sA_sg B i < sA_len B (sA_rt B i) := by rw [f3, f5, f4]; exact h4
      have hl3 := lv_sub hl [1, 4, 3, 2] rfl
      refine sg_T_carry_39 (G := G) (B := B) hx hb hts hown hml hK g2 hq g1 g3 hRB hl3 (fun H locs hP hD hS => ?_) H locs hP hD hS
      refine sg_T_carry_57 (G := gU_ins G (ins1 (gA_ins G) (sA_pl B i))) (B := B) hx hb hts hown hml hK g2 hq g1 g3 hRB hl3 (fun H locs hP hD hS => ?_) H locs hP hD hS
      refine sg_T_carry_69 (G := gU_ins (gU_ins G (ins1 (gA_ins G) (sA_pl B i))) (ins2 (ins1 (gA_ins G) (sA_pl B i)) q i)) (B := B) hx hb hts hown hml hK g2 hq g1 g3 hRB hl3 (fun H locs ls hP hD hS hl => ?_) H locs hP hD hS
      refine sg_T_carry_87 (G := arrG (gU_ins (gU_ins G (ins1 (gA_ins G) (sA_pl B i))) (ins2 (ins1 (gA_ins G) (sA_pl B i)) q i)) i q) (B := plB B i q) hx hb hts hown hml hK g2 hq g1 (by rw [show sA_pl (plB B i q) i = q from va_up_self _ _ _]; omega) hRB (va_up_self _ _ _) g4 hl (fun H locs ls hP hD hS => ?_) H locs hP hD hS
      have hE : (carG G (sA_pl A i) i q, moveA A i q) = (arrG (gU_ins (gU_ins G (ins1 (gA_ins G) (sA_pl B i))) (ins2 (ins1 (gA_ins G) (sA_pl B i)) q i)) i q, if q < 4 then begA (plB B i q) i q else plB B i q) := by unfold carG moveA mvA; rw [hBe, f2]
      exact W.vret hx hb hrt (fun t ht hW => ⟨⟨_, rfl, hE.symm, ⟨by rw [ht]; exact hP, hD⟩⟩, hS.F ht⟩) hS.2.2 d_T_carry_114
    ·
      have e17 : r17 = some (gA_ad G 3) := by rw [e17, q17]; rfl
      subst e17
      refine lv_astore (lv' := [(4, .ref (gA_ad G 3)), (3, .ref (gA_ad G (18 + 4 * i))), (0, .ref (gA_ad G 0)), (1, .int (nI i)), (2, .int (nI q))]) hx hb d_T_carry_20 hl (by decide) rfl (fun ls hl => ?_)
      refine lv_aload hx hb d_T_carry_22 (lv_at hl 0 rfl) ?_
      refine lv_iconst (v := 1) hx hb d_T_carry_24 rfl ?_
      refine va_putN (D := X.1) (ci := 3) (v := .int (b2i true)) (ty := .boolean) (C := R_Robot) (T := F_Robot) (N := 2) hx hb hts hin_Robot t_Robot t_Robot_ok n_Robot hown hK.1 hP hD hS 3 cw_3 rfl 0 (by decide) (va_Nw.use rfl (hK.2.1 _ (List.mem_of_getElem? (i := 5) rfl))) (fun _ h9 => h9) rfl (by decide +kernel) (b2i_nar _) (b2i_fit _) (Nat.le_of_ble_eq_true rfl) d_T_carry_25 (fun H locs hP hD hS => ?_)
      replace hP := vx_P (cw_s_fb (X := X) (G := G) (A := A) (v := true)) hP
      replace hD := vx_D (cw_s_fb (X := X) (G := G) (A := A) (v := true)) hD
      refine lv_aload hx hb d_T_carry_28 (lv_at hl 0 rfl) ?_
      refine lv_dup hx hb d_T_carry_30 rfl ?_
      refine va_getN (D := X.1) (ci := 3) (C := R_Robot) (T := F_Robot) (N := 2) hx hb hts hin_Robot hown hK.1 hP 3 cw_3 rfl 1 (by decide) (va_Nw.use rfl (hK.2.1 _ (List.mem_of_getElem? (i := 6) rfl))) (fun _ h9 => h9) rfl d_T_carry_31 ?_
      refine lv_iconst (v := 1) hx hb d_T_carry_34 rfl ?_
      refine lv_iadd hx hb d_T_carry_35 ?_
      refine va_putN (D := X.1) (ci := 3) (v := .int ((sA_fm A) + 1)) (ty := .int) (C := R_Robot) (T := F_Robot) (N := 2) hx hb hts hin_Robot t_Robot t_Robot_ok n_Robot hown hK.1 hP hD hS 3 cw_3 rfl 1 (by decide) (va_Nw.use rfl (hK.2.1 _ (List.mem_of_getElem? (i := 6) rfl))) (fun _ h9 => h9) rfl (by decide +kernel) rfl rfl (Nat.le_of_ble_eq_true rfl) d_T_carry_36 (fun H locs hP hD hS => ?_)
      replace hP := vx_P (cw_s_fm (X := X) (G := G) (A := (sU_fb A true)) (v := ((sA_fm A) + 1))) hP
      replace hD := vx_D (cw_s_fm (X := X) (G := G) (A := (sU_fb A true)) (v := ((sA_fm A) + 1))) hD
      have eB : robB A i q = (sU_fm (sU_fb A true) ((sA_fm A) + 1)) := by unfold robB robA; rw [if_neg (nt_of (rob_3 (by omega) hq q17))]
      replace hP : va_P X.1 classes (cw X G (robB A i q)) H := by rw [eB]; exact hP
      replace hD : va_D Af (cw X G (robB A i q)) := by rw [eB]; exact hD
      obtain ⟨f1, f2, f3, f4, f5, f6, f7, f8, f9, f10⟩ := robA_f A (backN (sA_pl A i) || backN q)
      clear eB
      generalize hBe : robB A i q = B at hP hD ⊢
      have hBe2 : robA A (backN (sA_pl A i) || backN q) = B := hBe
      rw [hBe2] at f1 f2 f3 f4 f5 f6 f7 f8 f9 f10
      have hRB : rOk B := by unfold rOk; rw [f5, f8, f6, f10, f9]; exact hR
      have g1 : sA_rt B i < 2 := by rw [f4]; exact w1
      have g2 : i < sA_n B := by rw [f1]; exact hi
      have g3 : sA_pl B i ≤ 5 := by rw [f2]; exact w3
      have g4 : q < 4 → sA_sg B i < sA_len B (sA_rt B i) := by rw [f3, f5, f4]; exact h4
      have hl3 := lv_sub hl [1, 4, 3, 2] rfl
      refine sg_T_carry_39 (G := G) (B := B) hx hb hts hown hml hK g2 hq g1 g3 hRB hl3 (fun H locs hP hD hS => ?_) H locs hP hD hS
      refine sg_T_carry_57 (G := gU_ins G (ins1 (gA_ins G) (sA_pl B i))) (B := B) hx hb hts hown hml hK g2 hq g1 g3 hRB hl3 (fun H locs hP hD hS => ?_) H locs hP hD hS
      refine sg_T_carry_69 (G := gU_ins (gU_ins G (ins1 (gA_ins G) (sA_pl B i))) (ins2 (ins1 (gA_ins G) (sA_pl B i)) q i)) (B := B) hx hb hts hown hml hK g2 hq g1 g3 hRB hl3 (fun H locs ls hP hD hS hl => ?_) H locs hP hD hS
      refine sg_T_carry_87 (G := arrG (gU_ins (gU_ins G (ins1 (gA_ins G) (sA_pl B i))) (ins2 (ins1 (gA_ins G) (sA_pl B i)) q i)) i q) (B := plB B i q) hx hb hts hown hml hK g2 hq g1 (by rw [show sA_pl (plB B i q) i = q from va_up_self _ _ _]; omega) hRB (va_up_self _ _ _) g4 hl (fun H locs ls hP hD hS => ?_) H locs hP hD hS
      have hE : (carG G (sA_pl A i) i q, moveA A i q) = (arrG (gU_ins (gU_ins G (ins1 (gA_ins G) (sA_pl B i))) (ins2 (ins1 (gA_ins G) (sA_pl B i)) q i)) i q, if q < 4 then begA (plB B i q) i q else plB B i q) := by unfold carG moveA mvA; rw [hBe, f2]
      exact W.vret hx hb hrt (fun t ht hW => ⟨⟨_, rfl, hE.symm, ⟨by rw [ht]; exact hP, hD⟩⟩, hS.F ht⟩) hS.2.2 d_T_carry_114
