abbrev rm_T_may : Room := { frames := 73, cells := 0, slots := 0, locals := 2225 }
set_option maxRecDepth 20000 in
set_option maxHeartbeats 4000000 in
theorem c_T_may (l : Launch) (X : Xt) (G : Gc) (A : St) (Af : Nat → Prop) (x : Int32) (y : Int32) (hI : Inv A) (hC : RC G A) : Met l y_T_may (Cond.code y_T_may b_T_may 4 (some .int) :: WA) rm_T_may (va_Pc [.ref (gA_ad G 0), .int x, .int y] (fun U => PW X Af G A U.heap ∧ KK X U)) (va_Qi (fun ans u => ans = mayF A x y ∧ ∃ kn ps, RC (gU_ps (gU_kn G kn) ps) A ∧ u = (gU_ps (gU_kn G kn) ps, A)) (atC X Af) Af) 0 0 Af := by
  refine vx_met (cc := b_T_may) (maxL := 4) (ret := (some .int)) (by decide) rfl (Nat.le_of_ble_eq_true rfl) ?_
  intro p e s m below meth c ls hx hb hrt hts hown hlocks hname hml hB hl
  obtain ⟨hP, hK⟩ := hB
  have hown : s.vm.findClass R_ClusterTool = some m.cls := hown
  have hl : lv_has ls 4 [(0, .ref (gA_ad G 0)), (1, .int x), (2, .int y)] := hl
  have hD : va_D Af (cw X G A) := hP.2
  have hP : va_P X.1 classes (cw X G A) s.heap := hP.1
  have hS : va_S Af s.heap s.heap [] := va_S.rf
  have hn := hI.1
  have hR := hI.2.1
  refine lv_aload_n hx hb d_T_may_0 rfl (lv_at hl 0 rfl) ?_
  refine lv_iload_n hx hb d_T_may_1 rfl (lv_at hl 1 rfl) ?_
  refine va_csq (W.runV (As := [.int x]) (rest := []) ⟨hx, hb, hml, hown, hts⟩ (c_T_waferOf l X G A x hn) (cwV 1 hts (gV (wd_1 180 rfl rfl) (wd_1 182 rfl rfl) (wd_s 0 rfl) (wd_1 1 rfl rfl) (wd_1 183 rfl rfl)) rfl rfl rfl ⟨rfl, hd_T_waferOf⟩ ⟨Nat.le_of_ble_eq_true rfl, Nat.le_of_ble_eq_true rfl⟩) (vx_preV (P := PR X G A) hP hK (va_recv hK.1 hP (ci := 0) rfl cw_0)) rfl rfl hl.1 rfl (lv_room (Nat.le_of_ble_eq_true rfl)) d_T_may_2 ⟨Nat.zero_le _, Nat.zero_le _⟩) (fun r2 e2 => ?_)
  cases q2 : f_T_waferOf A x with
  | none =>
    have e2 : r2 = none := by rw [e2, q2]; rfl
    subst e2
    refine lv_astore_nN (lv' := [(3, .null), (0, .ref (gA_ad G 0)), (1, .int x), (2, .int y)]) hx hb d_T_may_5 rfl hl (by decide) rfl (fun ls hl => ?_)
    refine lv_aload_nN hx hb d_T_may_6 rfl (lv_at hl 0 rfl) ?_
    refine lv_ifnullN (tgt := 19) hx hb d_T_may_7 rfl ?_
    refine lv_iconst (v := (-1)) hx hb d_T_may_19 rfl ?_
    exact W.iret (v := (-1)) hx hb hrt (fun t ht hW => ⟨⟨_, ((gU_ps (gU_kn G (gA_kn G)) (gA_ps G)), A), rfl, ⟨mayF_none hn q2, (gA_kn G), (gA_ps G), hC, rfl⟩, ⟨by rw [ht]; exact hP, hD⟩⟩, hS.F ht⟩) hS.2.2 d_T_may_20
  | some i2 =>
    have e2 : r2 = some (gA_ad G (18 + 4 * i2)) := by rw [e2, q2]; rfl
    subst e2
    have hli2 := waferOf_lt hn q2
    refine lv_astore_n (lv' := [(3, .ref (gA_ad G (18 + 4 * i2))), (0, .ref (gA_ad G 0)), (1, .int x), (2, .int y)]) hx hb d_T_may_5 rfl hl (by decide) rfl (fun ls hl => ?_)
    refine lv_aload_n hx hb d_T_may_6 rfl (lv_at hl 0 rfl) ?_
    refine lv_ifnull hx hb d_T_may_7 ?_
    refine lv_iload_n hx hb d_T_may_10 rfl (lv_at hl 3 rfl) ?_
    refine lv_iconst (v := 0) hx hb d_T_may_11 rfl ?_
    refine lv_iconst (v := 5) hx hb d_T_may_12 rfl ?_
    refine vp_callSi (W.runS (As := [.int y, .int 0, .int 5]) (rest := []) ⟨hx, hb, hml, hown, hts⟩ (c_T_isWithin l X y 0 5) (va_cwS 3 hts (gT (wd_1 121 rfl rfl) (wd_1 119 rfl rfl) (wd_1 1 rfl rfl) (wd_1 120 rfl rfl)) rfl rfl rfl hd_T_isWithin ⟨Nat.le_of_ble_eq_true rfl, Nat.le_of_ble_eq_true rfl⟩) (vx_preS (P := fun _ => True) trivial hK) rfl rfl hl.1 rfl (lv_room (Nat.le_of_ble_eq_true rfl)) d_T_may_13 ⟨Nat.zero_le _, Nat.zero_le _⟩) (fun r13 e13 => ?_)
    subst e13
    refine lv_if_ne (tgt := 21) hx hb d_T_may_16 rfl (fun h16 => ?_) (fun h16 => ?_)
    ·
      have h16 := b2i_t h16
      obtain ⟨q, hq, rfl⟩ := within_q h16
      obtain ⟨w1, w2, w3, w4, -⟩ := hI.2.2.1 i2 hli2
      have wl := hR.1 (sA_rt A i2)
      refine lv_aload_n hx hb d_T_may_21 rfl (lv_at hl 0 rfl) ?_
      refine va_getN (D := X.1) (ci := 5) (C := R_Wafer) (T := F_Wafer) (N := 10) hx hb hts hin_Wafer hown hK.1 hP (18 + 4 * i2) (cw_w hli2) rfl 8 (by decide) (va_Nw.use rfl (hK.2.1 _ (List.mem_of_getElem? (i := 16) rfl))) (fun _ h9 => h9) rfl d_T_may_22 ?_
      refine lv_if_ne (tgt := 35) hx hb d_T_may_25 rfl (fun h25 => ?_) (fun h25 => ?_)
      ·
        have h25 := b2i_t h25
        refine lv_iconst (v := 1) hx hb d_T_may_35 rfl ?_
        exact W.iret (v := 1) hx hb hrt (fun t ht hW => ⟨⟨_, ((gU_ps (gU_kn G (gA_kn G)) (gA_ps G)), A), rfl, ⟨by rw [mayF_at hn q2 hq, mayN, if_pos (Or.inr (by rw [← hC.2.1 i2 hli2]; exact h25))], (gA_kn G), (gA_ps G), hC, rfl⟩, ⟨by rw [ht]; exact hP, hD⟩⟩, hS.F ht⟩) hS.2.2 d_T_may_36
      ·
        have h25 := b2i_f h25
        refine lv_aload_n hx hb d_T_may_28 rfl (lv_at hl 0 rfl) ?_
        refine va_getN (D := X.1) (ci := 5) (C := R_Wafer) (T := F_Wafer) (N := 10) hx hb hts hin_Wafer hown hK.1 hP (18 + 4 * i2) (cw_w hli2) rfl 6 (by decide) (va_Nw.use rfl (hK.2.1 _ (List.mem_of_getElem? (i := 14) rfl))) (fun _ h9 => h9) rfl d_T_may_29 ?_
        refine lv_if_le (tgt := 37) hx hb d_T_may_32 rfl (fun h32 => ?_) (fun h32 => ?_)
        ·
          have hun : ¬ (0 < sA_lf A i2 ∨ fin A i2 = true) := by
            rw [← hC.2.1 i2 hli2, h25, lf_0 h32 (by omega)]
            simp
          refine lv_aload_n hx hb d_T_may_37 rfl (lv_at hl 1 rfl) ?_
          refine va_get (D := X.1) (ci := 0) (C := R_ClusterTool) (T := F_ClusterTool) (N := 8) hx hb hts hin_ClusterTool hown hK.1 hP 0 cw_0 rfl 0 (by decide) (hts _ (wd_1 85 rfl rfl)) (fun _ h9 => h9) rfl d_T_may_38 ?_
          refine lv_aload_n hx hb d_T_may_41 rfl (lv_at hl 0 rfl) ?_
          refine va_getN (D := X.1) (ci := 5) (C := R_Wafer) (T := F_Wafer) (N := 10) hx hb hts hin_Wafer hown hK.1 hP (18 + 4 * i2) (cw_w hli2) rfl 0 (by decide) (va_Nw.use rfl (hK.2.1 _ (List.mem_of_getElem? (i := 8) rfl))) (fun _ h9 => h9) rfl d_T_may_42 ?_
          refine lv_aload_n hx hb d_T_may_45 rfl (lv_at hl 0 rfl) ?_
          refine va_getN (D := X.1) (ci := 5) (C := R_Wafer) (T := F_Wafer) (N := 10) hx hb hts hin_Wafer hown hK.1 hP (18 + 4 * i2) (cw_w hli2) rfl 5 (by decide) (va_Nw.use rfl (hK.2.1 _ (List.mem_of_getElem? (i := 13) rfl))) (fun _ h9 => h9) rfl d_T_may_46 ?_
          refine lv_aload_n hx hb d_T_may_49 rfl (lv_at hl 0 rfl) ?_
          refine va_getN (D := X.1) (ci := 5) (C := R_Wafer) (T := F_Wafer) (N := 10) hx hb hts hin_Wafer hown hK.1 hP (18 + 4 * i2) (cw_w hli2) rfl 4 (by decide) (va_Nw.use rfl (hK.2.1 _ (List.mem_of_getElem? (i := 12) rfl))) (fun _ h9 => h9) rfl d_T_may_50 ?_
          refine lv_iload_n hx hb d_T_may_53 rfl (lv_at hl 3 rfl) ?_
          refine vp_callSi (W.runV (As := [.int (nI (sA_rt A i2)), .int (nI (sA_sg A i2)), .int (nI (sA_pl A i2)), .int (nI q)]) (rest := []) ⟨hx, hb, hml, hown, hts⟩ (c_Y_leads l X G A (nI (sA_rt A i2)) (nI (sA_sg A i2)) (nI (sA_pl A i2)) (nI q) hR) (cwV 4 hts (gV (wd_1 184 rfl rfl) (wd_1 185 rfl rfl) (wd_1 186 rfl rfl) (wd_1 2 rfl rfl) (wd_1 187 rfl rfl)) rfl rfl rfl ⟨rfl, hd_Y_leads⟩ ⟨Nat.le_of_ble_eq_true rfl, Nat.le_of_ble_eq_true rfl⟩) (vx_preV (P := PR X G A) hP hK (va_recv hK.1 hP (ci := 1) rfl cw_1)) rfl rfl hl.1 rfl (lv_room (Nat.le_of_ble_eq_true rfl)) d_T_may_54 ⟨Nat.zero_le _, Nat.zero_le _⟩) (fun r54 e54 => ?_)
          subst e54
          rw [leads_nI hR w1 (by omega) (by omega) hq]
          refine lv_if_ne (tgt := 62) hx hb d_T_may_57 rfl (fun h57 => ?_) (fun h57 => ?_)
          ·
            have h57 := b2i_t h57
            refine lv_aload_n hx hb d_T_may_62 rfl (lv_at hl 1 rfl) ?_
            refine lv_aload_n hx hb d_T_may_63 rfl (lv_at hl 0 rfl) ?_
            refine lv_iload_n hx hb d_T_may_64 rfl (lv_at hl 3 rfl) ?_
            refine vp_callSi (W.runV (As := [.ref (gA_ad G (18 + 4 * i2)), .int (nI q)]) (rest := []) ⟨hx, hb, hml, hown, hts⟩ (c_T_isTaken l X G A i2 hli2 q hq) (cwV 2 hts (gV (wd_1 213 rfl rfl) (wd_1 215 rfl rfl) (wd_s 2 rfl) (wd_1 1 rfl rfl) (wd_1 216 rfl rfl)) rfl rfl rfl ⟨rfl, hd_T_isTaken⟩ ⟨Nat.le_of_ble_eq_true rfl, Nat.le_of_ble_eq_true rfl⟩) (vx_preV (P := PR X G A) hP hK (va_recv hK.1 hP (ci := 0) rfl cw_0)) rfl rfl hl.1 rfl (lv_room (Nat.le_of_ble_eq_true rfl)) d_T_may_65 ⟨Nat.zero_le _, Nat.zero_le _⟩) (fun r65 e65 => ?_)
            subst e65
            refine lv_if_eq (tgt := 73) hx hb d_T_may_68 rfl (fun h68 => ?_) (fun h68 => ?_)
            ·
              have h68 := b2i_f h68
              have htk : q = sA_pl A i2 ∨ inP A q = -1 := by
                rw [taken_iff hC w3 hq] at h68
                simp only [decide_eq_false_iff_not, not_and, ne_eq, Classical.not_not] at h68
                by_cases e1 : q = sA_pl A i2
                · exact Or.inl e1
                · exact Or.inr (h68 e1)
              refine lv_aload_n hx hb d_T_may_73 rfl (lv_at hl 1 rfl) ?_
              refine va_get (D := X.1) (ci := 0) (C := R_ClusterTool) (T := F_ClusterTool) (N := 8) hx hb hts hin_ClusterTool hown hK.1 hP 0 cw_0 rfl 1 (by decide) (hts _ (wd_1 86 rfl rfl)) (fun _ h9 => h9) rfl d_T_may_74 ?_
              refine lv_aload_n hx hb d_T_may_77 rfl (lv_at hl 1 rfl) ?_
              refine va_get (D := X.1) (ci := 0) (C := R_ClusterTool) (T := F_ClusterTool) (N := 8) hx hb hts hin_ClusterTool hown hK.1 hP 0 cw_0 rfl 0 (by decide) (hts _ (wd_1 85 rfl rfl)) (fun _ h9 => h9) rfl d_T_may_78 ?_
              refine lv_aload_n hx hb d_T_may_81 rfl (lv_at hl 1 rfl) ?_
              refine lv_aload_n hx hb d_T_may_82 rfl (lv_at hl 0 rfl) ?_
              refine lv_iload_n hx hb d_T_may_83 rfl (lv_at hl 3 rfl) ?_
              refine vp_callSi (W.runV (As := [.ref (gA_ad G (18 + 4 * i2)), .int (nI q)]) (rest := [.ref (gA_ad G 1), .ref (gA_ad G 2)]) ⟨hx, hb, hml, hown, hts⟩ (c_T_situationAfter l X G A i2 hli2 (nI q) hI hC) (cwV 2 hts (gV (wd_1 217 rfl rfl) (wd_1 219 rfl rfl) (wd_s 3 rfl) (wd_1 1 rfl rfl) (wd_1 220 rfl rfl)) rfl rfl rfl ⟨rfl, hd_T_situationAfter⟩ ⟨Nat.le_of_ble_eq_true rfl, Nat.le_of_ble_eq_true rfl⟩) (vx_preV (P := PR X G A) hP hK (va_recv hK.1 hP (ci := 0) rfl cw_0)) rfl rfl hl.1 rfl (lv_room (Nat.le_of_ble_eq_true rfl)) d_T_may_84 ⟨Nat.zero_le _, Nat.zero_le _⟩) (fun r84 e84 => ?_)
              subst e84
              rw [sitAfter_nI hI hli2 hq h57 htk]
              have hg3 : q < 4 → sA_sg A i2 < 3 := fun h4 => mskN_pos (lead_q4 h57 h4) (env_ok hR)
              have hph := phi_31 (okD_mov (p := sA_pl A i2) (q := q) (okD_SA hI) w1 (by omega : sA_sg A i2 < 4) hg3)
              refine lv_iconst (v := 0) hx hb d_T_may_87 rfl ?_
              refine va_calli (va_runVN (As := [.ref (gA_ad G 1), .int (nI (enc (movS (SA A) (sA_rt A i2) (sA_sg A i2) (sA_pl A i2) q))), .int 0]) (rest := []) ⟨hx, hb, hml, hown, hts⟩ (c_E_all l X 34 G A Af (movS (SA A) (sA_rt A i2) (sA_sg A i2) (sA_pl A i2) q) 0 hR hC.2.2.2.1 (fit_mov (SA_fit hI) hq w1 (by omega) hg3) (by omega) (by omega)) ⟨va_cnB 3 hts (gC (wd_1 239 rfl rfl) rfl) rfl rfl rfl (hK.2.1 _ (List.mem_of_getElem? (i := 18) rfl)) (hts _ (wd_1 4 rfl rfl)) hd_E_search ⟨Nat.le_of_ble_eq_true rfl, Nat.le_of_ble_eq_true rfl⟩, hts _ (wd_1 238 rfl rfl), hts _ (wd_s 5 rfl)⟩ (vx_preV (P := PW X Af G A) ⟨hP, hD⟩ hK (va_recv hK.1 hP (ci := 2) rfl cw_2)) rfl rfl hl.1 rfl (lv_room (Nat.le_of_ble_eq_true rfl)) d_T_may_88 ⟨Nat.zero_le _, Nat.zero_le _⟩) hS (fun q _ h => h) (fun q h => h) (fun r88 u88 t88 H locs ht hvm hu88 hB hz hk hS => ?_)
              obtain ⟨hP, hD⟩ := hB
              rw [ht] at hP
              obtain ⟨e88, kn88, ps88, hm88, hz88, hu88⟩ := hu88
              subst e88
              subst hu88
              have hP : va_P X.1 classes (cw X (gU_ps (gU_kn G kn88) ps88) A) H := hP
              have hD : va_D Af (cw X (gU_ps (gU_kn G kn88) ps88) A) := hD
              refine lv_if_ne (tgt := 96) hx hb d_T_may_91 rfl (fun h91 => ?_) (fun h91 => ?_)
              ·
                have h91 := b2i_t h91
                refine lv_aload_n hx hb d_T_may_96 rfl (lv_at hl 1 rfl) ?_
                refine lv_aload_n hx hb d_T_may_97 rfl (lv_at hl 0 rfl) ?_
                refine va_getN (D := X.1) (ci := 5) (C := R_Wafer) (T := F_Wafer) (N := 10) hx hb hts hin_Wafer hown hK.1 hP (18 + 4 * i2) (cw_w hli2) rfl 4 (by decide) (va_Nw.use rfl (hK.2.1 _ (List.mem_of_getElem? (i := 12) rfl))) (fun _ h9 => h9) rfl d_T_may_98 ?_
                refine lv_iload_n hx hb d_T_may_101 rfl (lv_at hl 3 rfl) ?_
                refine va_csq (W.runV (As := [.int (nI (sA_pl A i2)), .int (nI q)]) (rest := []) ⟨hx, hb, hml, hown, hts⟩ (c_T_robotFor l X (gU_ps (gU_kn G kn88) ps88) A (nI (sA_pl A i2)) (nI q)) (cwV 2 hts (gV (wd_2 17 rfl rfl) (wd_2 19 rfl rfl) (wd_s 7 rfl) (wd_1 1 rfl rfl) (wd_2 20 rfl rfl)) rfl rfl rfl ⟨rfl, hd_T_robotFor⟩ ⟨Nat.le_of_ble_eq_true rfl, Nat.le_of_ble_eq_true rfl⟩) (vx_preV (P := PR X (gU_ps (gU_kn G kn88) ps88) A) hP hK (va_recv hK.1 hP (ci := 0) rfl cw_0)) rfl rfl hl.1 rfl (lv_room (Nat.le_of_ble_eq_true rfl)) d_T_may_102 ⟨Nat.zero_le _, Nat.zero_le _⟩) (fun r102 e102 => ?_)
                rcases robotFor_c (nI (sA_pl A i2)) (nI q) with q102 | q102
                ·
                  have e102 : r102 = some (gA_ad G 4) := by rw [e102, q102]; rfl
                  subst e102
                  refine va_getN (D := X.1) (ci := 3) (C := R_Robot) (T := F_Robot) (N := 2) hx hb hts hin_Robot hown hK.1 hP 4 cw_4 rfl 0 (by decide) (va_Nw.use rfl (hK.2.1 _ (List.mem_of_getElem? (i := 5) rfl))) (fun _ h9 => h9) rfl d_T_may_105 ?_
                  refine lv_if_eq (tgt := 115) hx hb d_T_may_108 rfl (fun h108 => ?_) (fun h108 => ?_)
                  ·
                    have h108 := b2i_f h108
                    refine lv_iconst (v := 0) hx hb d_T_may_115 rfl ?_
                    exact W.iret (v := 0) hx hb hrt (fun t ht hW => ⟨⟨_, ((gU_ps (gU_kn G (kn88)) (ps88)), A), rfl, ⟨by rw [mayF_at hn q2 hq, mayN, if_neg hun, if_neg (show ¬ leadN _ _ _ _ = false by rw [h57]; decide), if_neg (show ¬ (q ≠ sA_pl A i2 ∧ inP A q ≠ -1) by rw [taken_iff hC (by omega) hq] at h68; simpa using h68), if_neg (show ¬ canE (envA A) (toS (envA A) (sitAft A i2 q)) = false by rw [sitAft_mov (by omega) hq (lead_dn (env_ok hR) h57).1 (lead_dn (env_ok hR) h57).2, h91]; decide), busyF, if_pos (rob_4 (by omega) hq q102), if_neg (nt_of h108)], kn88, ps88, RC_memo hC hm88 (by omega), rfl⟩, ⟨by rw [ht]; exact hP, hD⟩⟩, hS.F ht⟩) hS.2.2 d_T_may_116
                  ·
                    have h108 := b2i_t h108
                    refine lv_iconst (v := 5) hx hb d_T_may_111 rfl ?_
                    refine lv_goto (tgt := 116) hx hb d_T_may_112 rfl ?_
                    exact W.iret (v := 5) hx hb hrt (fun t ht hW => ⟨⟨_, ((gU_ps (gU_kn G (kn88)) (ps88)), A), rfl, ⟨by rw [mayF_at hn q2 hq, mayN, if_neg hun, if_neg (show ¬ leadN _ _ _ _ = false by rw [h57]; decide), if_neg (show ¬ (q ≠ sA_pl A i2 ∧ inP A q ≠ -1) by rw [taken_iff hC (by omega) hq] at h68; simpa using h68), if_neg (show ¬ canE (envA A) (toS (envA A) (sitAft A i2 q)) = false by rw [sitAft_mov (by omega) hq (lead_dn (env_ok hR) h57).1 (lead_dn (env_ok hR) h57).2, h91]; decide), busyF, if_pos (rob_4 (by omega) hq q102), if_pos h108], kn88, ps88, RC_memo hC hm88 (by omega), rfl⟩, ⟨by rw [ht]; exact hP, hD⟩⟩, hS.F ht⟩) hS.2.2 d_T_may_116
                ·
                  have e102 : r102 = some (gA_ad G 3) := by rw [e102, q102]; rfl
                  subst e102
                  refine va_getN (D := X.1) (ci := 3) (C := R_Robot) (T := F_Robot) (N := 2) hx hb hts hin_Robot hown hK.1 hP 3 cw_3 rfl 0 (by decide) (va_Nw.use rfl (hK.2.1 _ (List.mem_of_getElem? (i := 5) rfl))) (fun _ h9 => h9) rfl d_T_may_105 ?_
                  refine lv_if_eq (tgt := 115) hx hb d_T_may_108 rfl (fun h108 => ?_) (fun h108 => ?_)
                  ·
                    have h108 := b2i_f h108
                    refine lv_iconst (v := 0) hx hb d_T_may_115 rfl ?_
                    exact W.iret (v := 0) hx hb hrt (fun t ht hW => ⟨⟨_, ((gU_ps (gU_kn G (kn88)) (ps88)), A), rfl, ⟨by rw [mayF_at hn q2 hq, mayN, if_neg hun, if_neg (show ¬ leadN _ _ _ _ = false by rw [h57]; decide), if_neg (show ¬ (q ≠ sA_pl A i2 ∧ inP A q ≠ -1) by rw [taken_iff hC (by omega) hq] at h68; simpa using h68), if_neg (show ¬ canE (envA A) (toS (envA A) (sitAft A i2 q)) = false by rw [sitAft_mov (by omega) hq (lead_dn (env_ok hR) h57).1 (lead_dn (env_ok hR) h57).2, h91]; decide), busyF, if_neg (nt_of (rob_3 (by omega) hq q102)), if_neg (nt_of h108)], kn88, ps88, RC_memo hC hm88 (by omega), rfl⟩, ⟨by rw [ht]; exact hP, hD⟩⟩, hS.F ht⟩) hS.2.2 d_T_may_116
                  ·
                    have h108 := b2i_t h108
                    refine lv_iconst (v := 5) hx hb d_T_may_111 rfl ?_
                    refine lv_goto (tgt := 116) hx hb d_T_may_112 rfl ?_
                    exact W.iret (v := 5) hx hb hrt (fun t ht hW => ⟨⟨_, ((gU_ps (gU_kn G (kn88)) (ps88)), A), rfl, ⟨by rw [mayF_at hn q2 hq, mayN, if_neg hun, if_neg (show ¬ leadN _ _ _ _ = false by rw [h57]; decide), if_neg (show ¬ (q ≠ sA_pl A i2 ∧ inP A q ≠ -1) by rw [taken_iff hC (by omega) hq] at h68; simpa using h68), if_neg (show ¬ canE (envA A) (toS (envA A) (sitAft A i2 q)) = false by rw [sitAft_mov (by omega) hq (lead_dn (env_ok hR) h57).1 (lead_dn (env_ok hR) h57).2, h91]; decide), busyF, if_neg (nt_of (rob_3 (by omega) hq q102)), if_pos h108], kn88, ps88, RC_memo hC hm88 (by omega), rfl⟩, ⟨by rw [ht]; exact hP, hD⟩⟩, hS.F ht⟩) hS.2.2 d_T_may_116
              ·
                have h91 := b2i_f h91
                refine lv_iconst (v := 4) hx hb d_T_may_94 rfl ?_
                exact W.iret (v := 4) hx hb hrt (fun t ht hW => ⟨⟨_, ((gU_ps (gU_kn G (kn88)) (ps88)), A), rfl, ⟨by rw [mayF_at hn q2 hq, mayN, if_neg hun, if_neg (show ¬ leadN _ _ _ _ = false by rw [h57]; decide), if_neg (show ¬ (q ≠ sA_pl A i2 ∧ inP A q ≠ -1) by rw [taken_iff hC (by omega) hq] at h68; simpa using h68), if_pos (show canE (envA A) (toS (envA A) (sitAft A i2 q)) = false by rw [sitAft_mov (by omega) hq (lead_dn (env_ok hR) h57).1 (lead_dn (env_ok hR) h57).2, h91])], kn88, ps88, RC_memo hC hm88 (by omega), rfl⟩, ⟨by rw [ht]; exact hP, hD⟩⟩, hS.F ht⟩) hS.2.2 d_T_may_95
            ·
              have h68 := b2i_t h68
              refine lv_iconst (v := 3) hx hb d_T_may_71 rfl ?_
              exact W.iret (v := 3) hx hb hrt (fun t ht hW => ⟨⟨_, ((gU_ps (gU_kn G (gA_kn G)) (gA_ps G)), A), rfl, ⟨by rw [mayF_at hn q2 hq, mayN, if_neg hun, if_neg (show ¬ leadN _ _ _ _ = false by rw [h57]; decide), if_pos (show q ≠ sA_pl A i2 ∧ inP A q ≠ -1 by rw [taken_iff hC (by omega) hq] at h68; simpa using h68)], (gA_kn G), (gA_ps G), hC, rfl⟩, ⟨by rw [ht]; exact hP, hD⟩⟩, hS.F ht⟩) hS.2.2 d_T_may_72
          ·
            have h57 := b2i_f h57
            refine lv_iconst (v := 2) hx hb d_T_may_60 rfl ?_
            exact W.iret (v := 2) hx hb hrt (fun t ht hW => ⟨⟨_, ((gU_ps (gU_kn G (gA_kn G)) (gA_ps G)), A), rfl, ⟨by rw [mayF_at hn q2 hq, mayN, if_neg hun, if_pos h57], (gA_kn G), (gA_ps G), hC, rfl⟩, ⟨by rw [ht]; exact hP, hD⟩⟩, hS.F ht⟩) hS.2.2 d_T_may_61
        ·
          refine lv_iconst (v := 1) hx hb d_T_may_35 rfl ?_
          exact W.iret (v := 1) hx hb hrt (fun t ht hW => ⟨⟨_, ((gU_ps (gU_kn G (gA_kn G)) (gA_ps G)), A), rfl, ⟨by rw [mayF_at hn q2 hq, mayN, if_pos (Or.inl (lf_pos h32))], (gA_kn G), (gA_ps G), hC, rfl⟩, ⟨by rw [ht]; exact hP, hD⟩⟩, hS.F ht⟩) hS.2.2 d_T_may_36
    ·
      have h16 := b2i_f h16
      refine lv_iconst (v := (-1)) hx hb d_T_may_19 rfl ?_
      exact W.iret (v := (-1)) hx hb hrt (fun t ht hW => ⟨⟨_, ((gU_ps (gU_kn G (gA_kn G)) (gA_ps G)), A), rfl, ⟨mayF_bad hn q2 h16, (gA_kn G), (gA_ps G), hC, rfl⟩, ⟨by rw [ht]; exact hP, hD⟩⟩, hS.F ht⟩) hS.2.2 d_T_may_20
