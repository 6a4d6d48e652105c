abbrev rm_T_move : Room := { frames := 74, cells := 0, slots := 0, locals := 2248 }
set_option maxRecDepth 20000 in
set_option maxHeartbeats 4000000 in
theorem c_T_move (l : Launch) (X : Xt) (G : Gc) (A : St) (Af : Nat → Prop) (x : Int32) (y : Int32) (hI : Inv A) (hC : RC G A) : Met l y_T_move (Cond.code y_T_move b_T_move 4 (some .int) :: WA) rm_T_move (va_Pc [.ref (gA_ad G 0), .int x, .int y] (fun U => PW X Af G A U.heap ∧ KK X U)) (va_Qi (AP G (mayF A x y) (moveF A x y)) (atC X Af) Af) 0 0 Af := by
  refine vx_met (cc := b_T_move) (maxL := 4) (ret := (some .int)) (by decide) rfl (Nat.le_of_ble_eq_true rfl) ?_
  intro p e s m below meth c ls hx hb hrt hts hown hlocks hname hml hB hl
  obtain ⟨hP, hK⟩ := hB
  have hown : s.vm.findClass R_ClusterTool = some m.cls := hown
  have hl : lv_has ls 4 [(0, .ref (gA_ad G 0)), (1, .int x), (2, .int y)] := hl
  have hD : va_D Af (cw X G A) := hP.2
  have hP : va_P X.1 classes (cw X G A) s.heap := hP.1
  have hS : va_S Af s.heap s.heap [] := va_S.rf
  have hn := hI.1
  have hR := hI.2.1
  refine lv_aload_n hx hb d_T_move_0 rfl (lv_at hl 0 rfl) ?_
  refine lv_iload_n hx hb d_T_move_1 rfl (lv_at hl 1 rfl) ?_
  refine lv_iload_n hx hb d_T_move_2 rfl (lv_at hl 2 rfl) ?_
  refine va_calli (va_runV (As := [.int x, .int y]) (rest := []) ⟨hx, hb, hml, hown, hts⟩ (c_T_may l X G A Af x y hI hC) (cwV 2 hts (gV (wd_2 26 rfl rfl) (wd_1 177 rfl rfl) (wd_1 178 rfl rfl) (wd_1 1 rfl rfl) (wd_1 179 rfl rfl)) rfl rfl rfl ⟨rfl, hd_T_may⟩ ⟨Nat.le_of_ble_eq_true rfl, Nat.le_of_ble_eq_true rfl⟩) (vx_preV (P := PW X Af G A) ⟨hP, hD⟩ hK (va_recv hK.1 hP (ci := 0) rfl cw_0)) rfl rfl hl.1 rfl (lv_room (Nat.le_of_ble_eq_true rfl)) d_T_move_3 ⟨Nat.zero_le _, Nat.zero_le _⟩) hS (fun q _ h => h) (fun q h => h) (fun r3 u3 t3 H locs ht hvm hu3 hB hz hk hS => ?_)
  obtain ⟨hP, hD⟩ := hB
  rw [ht] at hP
  obtain ⟨e3, kn3, ps3, hC3, hu3⟩ := hu3
  subst e3
  subst hu3
  have hP : va_P X.1 classes (cw X (gU_ps (gU_kn G kn3) ps3) A) H := hP
  have hD : va_D Af (cw X (gU_ps (gU_kn G kn3) ps3) A) := hD
  refine lv_istore_n (lv' := [(3, .int (mayF A x y)), (0, .ref (gA_ad G 0)), (1, .int x), (2, .int y)]) hx hb d_T_move_6 rfl hl (by decide) rfl (fun ls hl => ?_)
  refine lv_iload_n hx hb d_T_move_7 rfl (lv_at hl 0 rfl) ?_
  refine lv_if_ne (tgt := 17) hx hb d_T_move_8 rfl (fun h8 => ?_) (fun h8 => ?_)
  ·
    refine lv_iload_n hx hb d_T_move_17 rfl (lv_at hl 0 rfl) ?_
    exact W.iret (v := mayF A x y) hx hb hrt (fun t ht hW => ⟨⟨_, ((gU_ps (gU_kn G kn3) ps3), A), rfl, ⟨rfl, (by rw [moveF, if_neg h8]), (by rw [moveF, if_neg h8]; exact hC3), rfl⟩, ⟨by rw [ht]; exact hP, hD⟩⟩, hS.F ht⟩) hS.2.2 d_T_move_18
  ·
    obtain ⟨i, q, hi, hq, rfl, rfl, hm0⟩ := mayF_0 hn h8
    refine lv_aload_n hx hb d_T_move_11 rfl (lv_at hl 1 rfl) ?_
    refine lv_iload_n hx hb d_T_move_12 rfl (lv_at hl 2 rfl) ?_
    refine lv_iload_n hx hb d_T_move_13 rfl (lv_at hl 3 rfl) ?_
    refine va_callv (va_runV (As := [.int (nI i), .int (nI q)]) (rest := []) ⟨hx, hb, hml, hown, hts⟩ (c_T_carry l X (gU_ps (gU_kn G kn3) ps3) A Af i q hI hi hq (fun h4 => lead_sg h4 (may_0 hm0).2.2.1)) (cwV 2 hts (gV (wd_2 27 rfl rfl) (wd_2 29 rfl rfl) (wd_s 8 rfl) (wd_1 1 rfl rfl) (wd_2 30 rfl rfl)) rfl rfl rfl ⟨rfl, hd_T_carry⟩ ⟨Nat.le_of_ble_eq_true rfl, Nat.le_of_ble_eq_true rfl⟩) (vx_preV (P := PW X Af (gU_ps (gU_kn G kn3) ps3) A) ⟨hP, hD⟩ hK (va_recv hK.1 hP (ci := 0) rfl cw_0)) rfl rfl hl.1 rfl (lv_room (Nat.le_of_ble_eq_true rfl)) d_T_move_14 ⟨Nat.zero_le _, Nat.zero_le _⟩) hS (fun q _ h => h) (fun q h => h) (fun u14 t14 H locs ht hvm hu14 hB hz hk hS => ?_)
    obtain ⟨hP, hD⟩ := hB
    rw [ht] at hP
    subst hu14
    have hP : va_P X.1 classes (cw X (carG (gU_ps (gU_kn G kn3) ps3) (sA_pl A i) i q) (moveA A i q)) H := hP
    have hD : va_D Af (cw X (carG (gU_ps (gU_kn G kn3) ps3) (sA_pl A i) i q) (moveA A i q)) := hD
    refine lv_iload_n hx hb d_T_move_17 rfl (lv_at hl 0 rfl) ?_
    exact W.iret (v := mayF A (nI i) (nI q)) hx hb hrt (fun t ht hW => ⟨⟨_, ((carG (gU_ps (gU_kn G kn3) ps3) (sA_pl A i) i q), (moveA A i q)), rfl, ⟨rfl, (moveF_at (by omega) hq h8).symm, (by rw [moveF_at (by omega) hq h8]; exact RC_move hI hC3 hi hq hm0), rfl⟩, ⟨by rw [ht]; exact hP, hD⟩⟩, hS.F ht⟩) hS.2.2 d_T_move_18
abbrev rm_T_safe : Room := { frames := 73, cells := 0, slots := 0, locals := 2225 }
set_option maxRecDepth 20000 in
set_option maxHeartbeats 4000000 in
theorem c_T_safe (l : Launch) (X : Xt) (G : Gc) (A : St) (Af : Nat → Prop) (hI : Inv A) (hC : RC G A) : Met l y_T_safe (Cond.code y_T_safe b_T_safe 1 (some .boolean) :: WA) rm_T_safe (va_Pc [.ref (gA_ad G 0)] (fun U => PW X Af G A U.heap ∧ KK X U)) (va_Qi (AP G (b2i (safeF A)) (A)) (atC X Af) Af) 0 0 Af := by
  refine vx_met (cc := b_T_safe) (maxL := 1) (ret := (some .boolean)) (by decide) rfl (Nat.le_of_ble_eq_true rfl) ?_
  intro p e s m below meth c ls hx hb hrt hts hown hlocks hname hml hB hl
  obtain ⟨hP, hK⟩ := hB
  have hown : s.vm.findClass R_ClusterTool = some m.cls := hown
  have hl : lv_has ls 1 [(0, .ref (gA_ad G 0))] := hl
  have hD : va_D Af (cw X G A) := hP.2
  have hP : va_P X.1 classes (cw X G A) s.heap := hP.1
  have hS : va_S Af s.heap s.heap [] := va_S.rf
  have hn := hI.1
  have hR := hI.2.1
  refine lv_aload_n hx hb d_T_safe_0 rfl (lv_at hl 0 rfl) ?_
  refine va_get (D := X.1) (ci := 0) (C := R_ClusterTool) (T := F_ClusterTool) (N := 8) hx hb hts hin_ClusterTool hown hK.1 hP 0 cw_0 rfl 1 (by decide) (hts _ (wd_1 86 rfl rfl)) (fun _ h9 => h9) rfl d_T_safe_1 ?_
  refine lv_aload_n hx hb d_T_safe_4 rfl (lv_at hl 0 rfl) ?_
  refine va_get (D := X.1) (ci := 0) (C := R_ClusterTool) (T := F_ClusterTool) (N := 8) hx hb hts hin_ClusterTool hown hK.1 hP 0 cw_0 rfl 0 (by decide) (hts _ (wd_1 85 rfl rfl)) (fun _ h9 => h9) rfl d_T_safe_5 ?_
  refine lv_aload_n hx hb d_T_safe_8 rfl (lv_at hl 0 rfl) ?_
  refine vp_callSi (W.runV (As := []) (rest := [.ref (gA_ad G 1), .ref (gA_ad G 2)]) ⟨hx, hb, hml, hown, hts⟩ (c_T_situation l X G A hI hC) (cwV 0 hts (gV (wd_1 221 rfl rfl) (wd_1 223 rfl rfl) (wd_s 4 rfl) (wd_1 1 rfl rfl) (wd_1 224 rfl rfl)) rfl rfl rfl ⟨rfl, hd_T_situation⟩ ⟨Nat.le_of_ble_eq_true rfl, Nat.le_of_ble_eq_true rfl⟩) (vx_preV (P := PR X G A) hP hK (va_recv hK.1 hP (ci := 0) rfl cw_0)) rfl rfl hl.1 rfl (lv_room (Nat.le_of_ble_eq_true rfl)) d_T_safe_9 ⟨Nat.zero_le _, Nat.zero_le _⟩) (fun r9 e9 => ?_)
  subst e9
  refine lv_iconst (v := 0) hx hb d_T_safe_12 rfl ?_
  have hph := phi_31 (okD_SA hI)
  refine va_calli (va_runVN (As := [.ref (gA_ad G 1), .int (nI (enc (SA A))), .int 0]) (rest := []) ⟨hx, hb, hml, hown, hts⟩ (c_E_all l X 34 G A Af (SA A) 0 hR hC.2.2.2.1 (SA_fit hI) (by omega) (by omega)) ⟨va_cnB 3 hts (gC (wd_1 239 rfl rfl) rfl) rfl rfl rfl (hK.2.1 _ (List.mem_of_getElem? (i := 18) rfl)) (hts _ (wd_1 4 rfl rfl)) hd_E_search ⟨Nat.le_of_ble_eq_true rfl, Nat.le_of_ble_eq_true rfl⟩, hts _ (wd_1 238 rfl rfl), hts _ (wd_s 5 rfl)⟩ (vx_preV (P := PW X Af G A) ⟨hP, hD⟩ hK (va_recv hK.1 hP (ci := 2) rfl cw_2)) rfl rfl hl.1 rfl (lv_room (Nat.le_of_ble_eq_true rfl)) d_T_safe_13 ⟨Nat.zero_le _, Nat.zero_le _⟩) hS (fun q _ h => h) (fun q h => h) (fun r13 u13 t13 H locs ht hvm hu13 hB hz hk hS => ?_)
  obtain ⟨hP, hD⟩ := hB
  rw [ht] at hP
  obtain ⟨e13, kn13, ps13, hm13, hz13, hu13⟩ := hu13
  subst e13
  subst hu13
  have hP : va_P X.1 classes (cw X (gU_ps (gU_kn G kn13) ps13) A) H := hP
  have hD : va_D Af (cw X (gU_ps (gU_kn G kn13) ps13) A) := hD
  have hC2 : RC (gU_ps (gU_kn G kn13) ps13) A := by
    rcases Nat.eq_zero_or_pos (sA_n A) with h0 | h0
    · obtain ⟨z1, z2⟩ := hz13 (SA_0 hI h0)
      rw [z1, z2]
      exact hC
    · exact RC_memo hC hm13 h0
  exact W.zret (v := b2i (canE (envA A) (SA A))) hx hb hrt (b2i_nar _) (fun t ht hW => ⟨⟨_, ((gU_ps (gU_kn G kn13) ps13), A), rfl, ⟨rfl, rfl, hC2, rfl⟩, ⟨by rw [ht]; exact hP, hD⟩⟩, hS.F ht⟩) hS.2.2 d_T_safe_16
abbrev rm_T_down : Room := { frames := 2, cells := 0, slots := 0, locals := 44 }
set_option maxRecDepth 20000 in
set_option maxHeartbeats 4000000 in
theorem c_T_down (l : Launch) (X : Xt) (G : Gc) (A : St) (Af : Nat → Prop) (x : Int32) (y : Int32) (hI : Inv A) (hC : RC G A) : Met l y_T_down (Cond.code y_T_down b_T_down 3 (some .boolean) :: WA) rm_T_down (va_Pc [.ref (gA_ad G 0), .int x, .int y] (fun U => PW X Af G A U.heap ∧ KK X U)) (va_Qi (AP G (b2i (downF A x y)) (downA A x y)) (atC X Af) Af) 0 0 Af := by
  refine vx_met (cc := b_T_down) (maxL := 3) (ret := (some .boolean)) (by decide) rfl (Nat.le_of_ble_eq_true rfl) ?_
  intro p e s m below meth c ls hx hb hrt hts hown hlocks hname hml hB hl
  obtain ⟨hP, hK⟩ := hB
  have hown : s.vm.findClass R_ClusterTool = some m.cls := hown
  have hl : lv_has ls 3 [(0, .ref (gA_ad G 0)), (1, .int x), (2, .int y)] := hl
  have hD : va_D Af (cw X G A) := hP.2
  have hP : va_P X.1 classes (cw X G A) s.heap := hP.1
  have hS : va_S Af s.heap s.heap [] := va_S.rf
  have hn := hI.1
  have hR := hI.2.1
  refine lv_iload_n hx hb d_T_down_0 rfl (lv_at hl 1 rfl) ?_
  refine lv_iconst (v := 0) hx hb d_T_down_1 rfl ?_
  refine lv_iconst (v := 3) hx hb d_T_down_2 rfl ?_
  refine vp_callSi (W.runS (As := [.int x, .int 0, .int 3]) (rest := []) ⟨hx, hb, hml, hown, hts⟩ (c_T_isWithin l X x 0 3) (va_cwS 3 hts (gT (wd_1 121 rfl rfl) (wd_1 119 rfl rfl) (wd_1 1 rfl rfl) (wd_1 120 rfl rfl)) rfl rfl rfl hd_T_isWithin ⟨Nat.le_of_ble_eq_true rfl, Nat.le_of_ble_eq_true rfl⟩) (vx_preS (P := fun _ => True) trivial hK) rfl rfl hl.1 rfl (lv_room (Nat.le_of_ble_eq_true rfl)) d_T_down_3 ⟨Nat.zero_le _, Nat.zero_le _⟩) (fun r3 e3 => ?_)
  subst e3
  refine lv_if_eq (tgt := 21) hx hb d_T_down_6 rfl (fun h6 => ?_) (fun h6 => ?_)
  ·
    have h6 := b2i_f h6
    refine lv_iconst (v := 0) hx hb d_T_down_21 rfl ?_
    exact W.zret (v := b2i false) hx hb hrt (b2i_nar _) (fun t ht hW => ⟨⟨_, (G, A), rfl, ⟨(downF_bad h6), (downA_bad h6).symm, (by rw [downA_bad h6]; exact hC), rfl⟩, ⟨by rw [ht]; exact hP, hD⟩⟩, hS.F ht⟩) hS.2.2 d_T_down_22
  ·
    have h6 := b2i_t h6
    obtain ⟨q, hq, rfl⟩ := within_3 h6
    refine lv_aload_n hx hb d_T_down_9 rfl (lv_at hl 0 rfl) ?_
    refine va_get (D := X.1) (ci := 0) (C := R_ClusterTool) (T := F_ClusterTool) (N := 8) hx hb hts hin_ClusterTool hown hK.1 hP 0 cw_0 rfl 0 (by decide) (hts _ (wd_1 85 rfl rfl)) (fun _ h9 => h9) rfl d_T_down_10 ?_
    refine lv_iload_n hx hb d_T_down_13 rfl (lv_at hl 1 rfl) ?_
    refine vp_callSi (W.runV (As := [.int (nI q)]) (rest := []) ⟨hx, hb, hml, hown, hts⟩ (c_Y_isDown l X G A (nI q)) (cwV 1 hts (gV (wd_1 225 rfl rfl) (wd_1 190 rfl rfl) (wd_1 191 rfl rfl) (wd_1 2 rfl rfl) (wd_1 192 rfl rfl)) rfl rfl rfl ⟨rfl, hd_Y_isDown⟩ ⟨Nat.le_of_ble_eq_true rfl, Nat.le_of_ble_eq_true rfl⟩) (vx_preV (P := PR X G A) hP hK (va_recv hK.1 hP (ci := 1) rfl cw_1)) rfl rfl hl.1 rfl (lv_room (Nat.le_of_ble_eq_true rfl)) d_T_down_14 ⟨Nat.zero_le _, Nat.zero_le _⟩) (fun r14 e14 => ?_)
    subst e14
    refine lv_iload_n hx hb d_T_down_17 rfl (lv_at hl 2 rfl) ?_
    refine lv_icmp_ne (tgt := 23) hx hb d_T_down_18 rfl (fun h18 => ?_) (fun h18 => ?_)
    ·
      refine lv_aload_n hx hb d_T_down_23 rfl (lv_at hl 0 rfl) ?_
      refine va_get (D := X.1) (ci := 0) (C := R_ClusterTool) (T := F_ClusterTool) (N := 8) hx hb hts hin_ClusterTool hown hK.1 hP 0 cw_0 rfl 0 (by decide) (hts _ (wd_1 85 rfl rfl)) (fun _ h9 => h9) rfl d_T_down_24 ?_
      refine lv_iload_n hx hb d_T_down_27 rfl (lv_at hl 1 rfl) ?_
      refine va_callv (va_runV (As := [.int (nI q)]) (rest := []) ⟨hx, hb, hml, hown, hts⟩ (c_Y_turn l X G A Af q hR.2.2 hq) (cwV 1 hts (gV (wd_2 94 rfl rfl) (wd_2 95 rfl rfl) (wd_2 96 rfl rfl) (wd_1 2 rfl rfl) (wd_2 97 rfl rfl)) rfl rfl rfl ⟨rfl, hd_Y_turn⟩ ⟨Nat.le_of_ble_eq_true rfl, Nat.le_of_ble_eq_true rfl⟩) (vx_preV (P := PW X Af G A) ⟨hP, hD⟩ hK (va_recv hK.1 hP (ci := 1) rfl cw_1)) rfl rfl hl.1 rfl (lv_room (Nat.le_of_ble_eq_true rfl)) d_T_down_28 ⟨Nat.zero_le _, Nat.zero_le _⟩) hS (fun q _ h => h) (fun q h => h) (fun u28 t28 H locs ht hvm hu28 hB hz hk hS => ?_)
      obtain ⟨hP, hD⟩ := hB
      rw [ht] at hP
      unfold g_Y_turn at hu28
      subst hu28
      have hP : va_P X.1 classes (cw X G (sU_dn A (sA_dn A ^^^ 2 ^ q))) H := hP
      have hD : va_D Af (cw X G (sU_dn A (sA_dn A ^^^ 2 ^ q))) := hD
      refine lv_aload_n hx hb d_T_down_31 rfl (lv_at hl 0 rfl) ?_
      refine va_get (D := X.1) (ci := 0) (C := R_ClusterTool) (T := F_ClusterTool) (N := 8) hx hb hts hin_ClusterTool hown hK.1 hP 0 cw_0 rfl 1 (by decide) (hts _ (wd_1 86 rfl rfl)) (fun _ h9 => h9) rfl d_T_down_32 ?_
      refine va_callv (va_runV (As := []) (rest := []) ⟨hx, hb, hml, hown, hts⟩ (c_E_forget l X G (sU_dn A (sA_dn A ^^^ 2 ^ q)) Af) (cwV 0 hts (gV (wd_2 98 rfl rfl) (wd_2 99 rfl rfl) (wd_2 100 rfl rfl) (wd_1 4 rfl rfl) (wd_2 101 rfl rfl)) rfl rfl rfl ⟨rfl, hd_E_forget⟩ ⟨Nat.le_of_ble_eq_true rfl, Nat.le_of_ble_eq_true rfl⟩) (vx_preV (P := PW X Af G (sU_dn A (sA_dn A ^^^ 2 ^ q))) ⟨hP, hD⟩ hK (va_recv hK.1 hP (ci := 2) rfl cw_2)) rfl rfl hl.1 rfl (lv_room (Nat.le_of_ble_eq_true rfl)) d_T_down_35 ⟨Nat.zero_le _, Nat.zero_le _⟩) hS (fun q _ h => h) (fun q h => h) (fun u35 t35 H locs ht hvm hu35 hB hz hk hS => ?_)
      obtain ⟨hP, hD⟩ := hB
      rw [ht] at hP
      obtain ⟨fk35, fp35, hk35, hp35, hu35⟩ := hu35
      subst hu35
      have hP : va_P X.1 classes (cw X (gU_ps (gU_kn G fk35) fp35) (sU_dn A (sA_dn A ^^^ 2 ^ q))) H := hP
      have hD : va_D Af (cw X (gU_ps (gU_kn G fk35) fp35) (sU_dn A (sA_dn A ^^^ 2 ^ q))) := hD
      refine lv_iconst (v := 1) hx hb d_T_down_38 rfl ?_
      exact W.zret (v := b2i true) hx hb hrt (b2i_nar _) (fun t ht hW => ⟨⟨_, ((gU_ps (gU_kn G fk35) fp35), (sU_dn A (sA_dn A ^^^ 2 ^ q))), rfl, ⟨(downF_ok hR.2.2 hq h18), (downA_ok hR.2.2 hq h18).symm, (by rw [downA_ok hR.2.2 hq h18]; exact RC_down hC hk35 hp35), rfl⟩, ⟨by rw [ht]; exact hP, hD⟩⟩, hS.F ht⟩) hS.2.2 d_T_down_39
    ·
      refine lv_iconst (v := 0) hx hb d_T_down_21 rfl ?_
      exact W.zret (v := b2i false) hx hb hrt (b2i_nar _) (fun t ht hW => ⟨⟨_, (G, A), rfl, ⟨(downF_same hR.2.2 hq h18), (downA_same hR.2.2 hq h18).symm, (by rw [downA_same hR.2.2 hq h18]; exact hC), rfl⟩, ⟨by rw [ht]; exact hP, hD⟩⟩, hS.F ht⟩) hS.2.2 d_T_down_22
