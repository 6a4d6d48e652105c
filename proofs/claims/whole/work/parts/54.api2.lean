abbrev rm_T_visit : Room := { frames := 2, cells := 0, slots := 0, locals := 43 }
set_option maxRecDepth 20000 in
set_option maxHeartbeats 4000000 in
theorem c_T_visit (l : Launch) (X : Xt) (G : Gc) (A : St) (Af : Nat → Prop) (x : Int32) (y : Int32) (z : Int32) (k : Int32) (hI : Inv A) (hC : RC G A) : Met l y_T_visit (Cond.code y_T_visit b_T_visit 6 (some .int) :: WA) rm_T_visit (va_Pc [.ref (gA_ad G 0), .int x, .int y, .int z, .int k] (fun U => PW X Af G A U.heap ∧ KK X U)) (va_Qi (AP G (visitF A x y z k) (visitA A x y z k)) (atC X Af) Af) 0 0 Af := by
  refine vx_met (cc := b_T_visit) (maxL := 6) (ret := (some .int)) (by decide) rfl (Nat.le_of_ble_eq_true rfl) ?_
  intro p e s m below meth c ls hx hb hrt hts hown hlocks hname hml hB hl
  obtain ⟨hP, hK⟩ := hB
  have hown : s.vm.findClass R_ClusterTool = some m.cls := hown
  have hl : lv_has ls 6 [(0, .ref (gA_ad G 0)), (1, .int x), (2, .int y), (3, .int z), (4, .int k)] := hl
  have hD : va_D Af (cw X G A) := hP.2
  have hP : va_P X.1 classes (cw X G A) s.heap := hP.1
  have hS : va_S Af s.heap s.heap [] := va_S.rf
  have hn := hI.1
  have hR := hI.2.1
  refine lv_aload_n hx hb d_T_visit_0 rfl (lv_at hl 0 rfl) ?_
  refine va_get (D := X.1) (ci := 0) (C := R_ClusterTool) (T := F_ClusterTool) (N := 8) hx hb hts hin_ClusterTool hown hK.1 hP 0 cw_0 rfl 0 (by decide) (hts _ (wd_1 85 rfl rfl)) (fun _ h9 => h9) rfl d_T_visit_1 ?_
  refine lv_iload_n hx hb d_T_visit_4 rfl (lv_at hl 1 rfl) ?_
  refine va_csq (W.runV (As := [.int x]) (rest := []) ⟨hx, hb, hml, hown, hts⟩ (c_Y_routeOf l X G A x) (cwV 1 hts (gV (wd_1 114 rfl rfl) (wd_1 115 rfl rfl) (wd_1 116 rfl rfl) (wd_1 2 rfl rfl) (wd_1 117 rfl rfl)) rfl rfl rfl ⟨rfl, hd_Y_routeOf⟩ ⟨Nat.le_of_ble_eq_true rfl, Nat.le_of_ble_eq_true rfl⟩) (vx_preV (P := PR X G A) hP hK (va_recv hK.1 hP (ci := 1) rfl cw_1)) rfl rfl hl.1 rfl (lv_room (Nat.le_of_ble_eq_true rfl)) d_T_visit_5 ⟨Nat.zero_le _, Nat.zero_le _⟩) (fun r5 e5 => ?_)
  cases q5 : f_Y_routeOf x with
  | none =>
    have e5 : r5 = none := by rw [e5, q5]; rfl
    subst e5
    refine lv_astoreN (lv' := [(5, .null), (0, .ref (gA_ad G 0)), (1, .int x), (2, .int y), (3, .int z), (4, .int k)]) hx hb d_T_visit_8 hl (by decide) rfl (fun ls hl => ?_)
    refine lv_aloadN hx hb d_T_visit_10 (lv_at hl 0 rfl) ?_
    refine lv_ifnullN (tgt := 31) hx hb d_T_visit_12 rfl ?_
    refine lv_iconst (v := (-1)) hx hb d_T_visit_31 rfl ?_
    have hvo := visit_none (A := A) (x := x) (y := y) (z := z) (k := k) q5
    exact W.iret (v := (-1)) hx hb hrt (fun t ht hW => ⟨⟨_, (G, A), rfl, ⟨hvo.1, hvo.2.symm, (by rw [hvo.2]; exact hC), rfl⟩, ⟨by rw [ht]; exact hP, hD⟩⟩, hS.F ht⟩) hS.2.2 d_T_visit_32
  | some i5 =>
    have e5 : r5 = some (gA_ad G (8 + 4 * i5)) := by rw [e5, q5]; rfl
    subst e5
    have hli5 := routeOf_lt q5
    refine lv_astore (lv' := [(5, .ref (gA_ad G (8 + 4 * i5))), (0, .ref (gA_ad G 0)), (1, .int x), (2, .int y), (3, .int z), (4, .int k)]) hx hb d_T_visit_8 hl (by decide) rfl (fun ls hl => ?_)
    refine lv_aload hx hb d_T_visit_10 (lv_at hl 0 rfl) ?_
    refine lv_ifnull hx hb d_T_visit_12 ?_
    refine lv_aload_n hx hb d_T_visit_15 rfl (lv_at hl 1 rfl) ?_
    refine va_get (D := X.1) (ci := 0) (C := R_ClusterTool) (T := F_ClusterTool) (N := 8) hx hb hts hin_ClusterTool hown hK.1 hP 0 cw_0 rfl 6 (by decide) (hts _ (wd_1 91 rfl rfl)) (fun _ h9 => h9) rfl d_T_visit_16 ?_
    refine lv_if_gt (tgt := 31) hx hb d_T_visit_19 rfl (fun h19 => ?_) (fun h19 => ?_)
    ·
      refine lv_iconst (v := (-1)) hx hb d_T_visit_31 rfl ?_
      have hvo := visit_bad (A := A) (x := x) (y := y) (z := z) (k := k) q5 (fun z => n_pos h19 z.1)
      exact W.iret (v := (-1)) hx hb hrt (fun t ht hW => ⟨⟨_, (G, A), rfl, ⟨hvo.1, hvo.2.symm, (by rw [hvo.2]; exact hC), rfl⟩, ⟨by rw [ht]; exact hP, hD⟩⟩, hS.F ht⟩) hS.2.2 d_T_visit_32
    ·
      refine lv_aload hx hb d_T_visit_22 (lv_at hl 0 rfl) ?_
      refine va_getN (D := X.1) (ci := 4) (C := R_Route) (T := F_Route) (N := 4) hx hb hts hin_Route hown hK.1 hP (8 + 4 * i5) (cw_r hli5) rfl 3 (by decide) (va_Nw.use rfl (hK.2.1 _ (List.mem_of_getElem? (i := 2) rfl))) (fun _ h9 => h9) rfl d_T_visit_24 ?_
      refine lv_iconst (v := 3) hx hb d_T_visit_27 rfl ?_
      refine lv_icmp_ne (tgt := 33) hx hb d_T_visit_28 rfl (fun h28 => ?_) (fun h28 => ?_)
      ·
        refine lv_iload_n hx hb d_T_visit_33 rfl (lv_at hl 3 rfl) ?_
        refine lv_iconst (v := 1) hx hb d_T_visit_34 rfl ?_
        refine lv_bipush (v := 15) hx hb d_T_visit_35 rfl ?_
        refine vp_callSi (W.runS (As := [.int y, .int 1, .int 15]) (rest := []) ⟨hx, hb, hml, hown, hts⟩ (c_T_isWithin l X y 1 15) (va_cwS 3 hts (gT (wd_1 121 rfl rfl) (wd_1 119 rfl rfl) (wd_1 1 rfl rfl) (wd_1 120 rfl rfl)) rfl rfl rfl hd_T_isWithin ⟨Nat.le_of_ble_eq_true rfl, Nat.le_of_ble_eq_true rfl⟩) (vx_preS (P := fun _ => True) trivial hK) rfl rfl hl.1 rfl (lv_room (Nat.le_of_ble_eq_true rfl)) d_T_visit_37 ⟨Nat.zero_le _, Nat.zero_le _⟩) (fun r37 e37 => ?_)
        subst e37
        refine lv_if_eq (tgt := 64) hx hb d_T_visit_40 rfl (fun h40 => ?_) (fun h40 => ?_)
        ·
          have h40 := b2i_f h40
          refine lv_iconst (v := (-1)) hx hb d_T_visit_64 rfl ?_
          have hvo := visit_bad (A := A) (x := x) (y := y) (z := z) (k := k) q5 (fun z => not_within h40 z.2.2.1)
          exact W.iret (v := (-1)) hx hb hrt (fun t ht hW => ⟨⟨_, (G, A), rfl, ⟨hvo.1, hvo.2.symm, (by rw [hvo.2]; exact hC), rfl⟩, ⟨by rw [ht]; exact hP, hD⟩⟩, hS.F ht⟩) hS.2.2 d_T_visit_65
        ·
          have h40 := b2i_t h40
          refine lv_iload_n hx hb d_T_visit_43 rfl (lv_at hl 4 rfl) ?_
          refine lv_iconst (v := 1) hx hb d_T_visit_44 rfl ?_
          refine lv_bipush (v := 100) hx hb d_T_visit_45 rfl ?_
          refine vp_callSi (W.runS (As := [.int z, .int 1, .int 100]) (rest := []) ⟨hx, hb, hml, hown, hts⟩ (c_T_isWithin l X z 1 100) (va_cwS 3 hts (gT (wd_1 121 rfl rfl) (wd_1 119 rfl rfl) (wd_1 1 rfl rfl) (wd_1 120 rfl rfl)) rfl rfl rfl hd_T_isWithin ⟨Nat.le_of_ble_eq_true rfl, Nat.le_of_ble_eq_true rfl⟩) (vx_preS (P := fun _ => True) trivial hK) rfl rfl hl.1 rfl (lv_room (Nat.le_of_ble_eq_true rfl)) d_T_visit_47 ⟨Nat.zero_le _, Nat.zero_le _⟩) (fun r47 e47 => ?_)
          subst e47
          refine lv_if_eq (tgt := 64) hx hb d_T_visit_50 rfl (fun h50 => ?_) (fun h50 => ?_)
          ·
            have h50 := b2i_f h50
            refine lv_iconst (v := (-1)) hx hb d_T_visit_64 rfl ?_
            have hvo := visit_bad (A := A) (x := x) (y := y) (z := z) (k := k) q5 (fun z => not_within h50 z.2.2.2.1)
            exact W.iret (v := (-1)) hx hb hrt (fun t ht hW => ⟨⟨_, (G, A), rfl, ⟨hvo.1, hvo.2.symm, (by rw [hvo.2]; exact hC), rfl⟩, ⟨by rw [ht]; exact hP, hD⟩⟩, hS.F ht⟩) hS.2.2 d_T_visit_65
          ·
            have h50 := b2i_t h50
            refine lv_iload hx hb d_T_visit_53 (lv_at hl 5 rfl) ?_
            refine lv_iconst (v := 0) hx hb d_T_visit_55 rfl ?_
            refine lv_bipush (v := 100) hx hb d_T_visit_56 rfl ?_
            refine vp_callSi (W.runS (As := [.int k, .int 0, .int 100]) (rest := []) ⟨hx, hb, hml, hown, hts⟩ (c_T_isWithin l X k 0 100) (va_cwS 3 hts (gT (wd_1 121 rfl rfl) (wd_1 119 rfl rfl) (wd_1 1 rfl rfl) (wd_1 120 rfl rfl)) rfl rfl rfl hd_T_isWithin ⟨Nat.le_of_ble_eq_true rfl, Nat.le_of_ble_eq_true rfl⟩) (vx_preS (P := fun _ => True) trivial hK) rfl rfl hl.1 rfl (lv_room (Nat.le_of_ble_eq_true rfl)) d_T_visit_58 ⟨Nat.zero_le _, Nat.zero_le _⟩) (fun r58 e58 => ?_)
            subst e58
            refine lv_if_ne (tgt := 66) hx hb d_T_visit_61 rfl (fun h61 => ?_) (fun h61 => ?_)
            ·
              have h61 := b2i_t h61
              have h0 := n_zero h19 (by omega)
              have h3 : sA_len A i5 ≠ 3 := fun z => h28 (by rw [z]; rfl)
              obtain ⟨a, ha1, ha2, rfl⟩ := within_n (m := 1) (n := 15) h40 rfl rfl
              obtain ⟨b, hb1, hb2, rfl⟩ := within_n (m := 1) (n := 100) h50 rfl rfl
              obtain ⟨d, hd1, hd2, rfl⟩ := within_n (m := 0) (n := 100) h61 rfl rfl
              refine lv_aload hx hb d_T_visit_66 (lv_at hl 0 rfl) ?_
              refine lv_iload_n hx hb d_T_visit_68 rfl (lv_at hl 3 rfl) ?_
              refine lv_iload_n hx hb d_T_visit_69 rfl (lv_at hl 4 rfl) ?_
              refine lv_iload hx hb d_T_visit_70 (lv_at hl 5 rfl) ?_
              refine va_callv (va_runV (As := [.int (nI a), .int (nI b), .int (nI d)]) (rest := []) ⟨hx, hb, hml, hown, hts⟩ (c_U_append l X G A Af i5 hli5 a b d hR) (cwV 3 hts (gV (wd_1 122 rfl rfl) (wd_1 123 rfl rfl) (wd_1 124 rfl rfl) (wd_1 3 rfl rfl) (wd_1 125 rfl rfl)) rfl rfl rfl ⟨rfl, hd_U_append⟩ ⟨Nat.le_of_ble_eq_true rfl, Nat.le_of_ble_eq_true rfl⟩) (vx_preV (P := PW X Af G A) ⟨hP, hD⟩ hK (va_recv hK.1 hP (ci := 4) rfl (cw_r hli5))) rfl rfl hl.1 rfl (lv_room (Nat.le_of_ble_eq_true rfl)) d_T_visit_72 ⟨Nat.zero_le _, Nat.zero_le _⟩) hS (fun q _ h => h) (fun q h => h) (fun u72 t72 H locs ht hvm hu72 hB hz hk hS => ?_)
              obtain ⟨hP, hD⟩ := hB
              rw [ht] at hP
              rw [append_eq (by have := hR.1 i5; omega)] at hu72
              subst hu72
              have hP : va_P X.1 classes (cw X G (appA A i5 a b d)) H := hP
              have hD : va_D Af (cw X G (appA A i5 a b d)) := hD
              refine lv_aload hx hb d_T_visit_75 (lv_at hl 0 rfl) ?_
              refine va_getN (D := X.1) (ci := 4) (C := R_Route) (T := F_Route) (N := 4) hx hb hts hin_Route hown hK.1 hP (8 + 4 * i5) (cw_r hli5) rfl 3 (by decide) (va_Nw.use rfl (hK.2.1 _ (List.mem_of_getElem? (i := 2) rfl))) (fun _ h9 => h9) rfl d_T_visit_77 ?_
              have hvo := visit_ok (A := A) q5 h0 h3 ⟨ha1, ha2⟩ ⟨hb1, hb2⟩ hd2
              exact W.iret (v := nI (sA_len (appA A i5 a b d) i5)) hx hb hrt (fun t ht hW => ⟨⟨_, (G, (appA A i5 a b d)), rfl, ⟨(by rw [← hvo.1, len_app]), hvo.2.symm, (by rw [hvo.2]; exact RC_app hC h0), rfl⟩, ⟨by rw [ht]; exact hP, hD⟩⟩, hS.F ht⟩) hS.2.2 d_T_visit_80
            ·
              have h61 := b2i_f h61
              refine lv_iconst (v := (-1)) hx hb d_T_visit_64 rfl ?_
              have hvo := visit_bad (A := A) (x := x) (y := y) (z := z) (k := k) q5 (fun z => not_within h61 z.2.2.2.2)
              exact W.iret (v := (-1)) hx hb hrt (fun t ht hW => ⟨⟨_, (G, A), rfl, ⟨hvo.1, hvo.2.symm, (by rw [hvo.2]; exact hC), rfl⟩, ⟨by rw [ht]; exact hP, hD⟩⟩, hS.F ht⟩) hS.2.2 d_T_visit_65
      ·
        refine lv_iconst (v := (-1)) hx hb d_T_visit_31 rfl ?_
        have hvo := visit_bad (A := A) (x := x) (y := y) (z := z) (k := k) q5 (fun z => z.2.1 (pl3 (by have := hR.1 i5; omega) h28))
        exact W.iret (v := (-1)) hx hb hrt (fun t ht hW => ⟨⟨_, (G, A), rfl, ⟨hvo.1, hvo.2.symm, (by rw [hvo.2]; exact hC), rfl⟩, ⟨by rw [ht]; exact hP, hD⟩⟩, hS.F ht⟩) hS.2.2 d_T_visit_32
abbrev rm_T_count : Room := { frames := 3, cells := 0, slots := 0, locals := 66 }
set_option maxRecDepth 20000 in
set_option maxHeartbeats 4000000 in
theorem c_T_count (l : Launch) (X : Xt) (G : Gc) (A : St) (x : Int32) (hI : Inv A) (hC : RC G A) : Met l y_T_count (Cond.code y_T_count b_T_count 2 (some .int) :: WA) rm_T_count (va_Pc [.ref (gA_ad G 0), .int x] (fun U => PR X G A U.heap ∧ KK X U)) (vp_Si (fun ans => ans = countF A x)) 0 0 (fun _ => False) := by
  refine vx_met (cc := b_T_count) (maxL := 2) (ret := (some .int)) (by decide) rfl (Nat.le_of_ble_eq_true rfl) ?_
  intro p e s m below meth c ls hx hb hrt hts hown hlocks hname hml hB hl
  obtain ⟨hP, hK⟩ := hB
  have hown : s.vm.findClass R_ClusterTool = some m.cls := hown
  have hl : lv_has ls 2 [(0, .ref (gA_ad G 0)), (1, .int x)] := hl
  have hP : va_P X.1 classes (cw X G A) s.heap := hP
  have hn := hI.1
  have hR := hI.2.1
  refine lv_iload_n hx hb d_T_count_0 rfl (lv_at hl 1 rfl) ?_
  rcases sw6 x with rfl | rfl | rfl | rfl | rfl | rfl | hsw
  ·
    refine lv_tableIn (tgt := 40) hx hb d_T_count_1 (by decide) (by decide) rfl rfl ?_
    refine lv_aload_n hx hb d_T_count_40 rfl (lv_at hl 0 rfl) ?_
    refine va_get (D := X.1) (ci := 0) (C := R_ClusterTool) (T := F_ClusterTool) (N := 8) hx hb hts hin_ClusterTool hown hK.1 hP 0 cw_0 rfl 6 (by decide) (hts _ (wd_1 91 rfl rfl)) (fun _ h9 => h9) rfl d_T_count_41 ?_
    exact W.iret (v := nI (sA_n A)) hx hb hrt (fun t ht hW => ⟨_, rfl, rfl, ht⟩) (fun q h => by cases h) d_T_count_44
  ·
    refine lv_tableIn (tgt := 45) hx hb d_T_count_1 (by decide) (by decide) rfl rfl ?_
    refine lv_aload_n hx hb d_T_count_45 rfl (lv_at hl 0 rfl) ?_
    refine vp_callSi (W.runV (As := []) (rest := []) ⟨hx, hb, hml, hown, hts⟩ (c_T_countFinished l X G A hn) (cwV 0 hts (gV (wd_2 140 rfl rfl) (wd_2 142 rfl rfl) (wd_s 11 rfl) (wd_1 1 rfl rfl) (wd_2 143 rfl rfl)) rfl rfl rfl ⟨rfl, hd_T_countFinished⟩ ⟨Nat.le_of_ble_eq_true rfl, Nat.le_of_ble_eq_true rfl⟩) (vx_preV (P := PR X G A) hP hK (va_recv hK.1 hP (ci := 0) rfl cw_0)) rfl rfl hl.1 rfl (lv_room (Nat.le_of_ble_eq_true rfl)) d_T_count_46 ⟨Nat.zero_le _, Nat.zero_le _⟩) (fun r46 e46 => ?_)
    subst e46
    exact W.iret (v := f_T_countFinished G A) hx hb hrt (fun t ht hW => ⟨_, rfl, (congrArg nI (cnt_congr (fun i hi => hC.2.1 i hi))), ht⟩) (fun q h => by cases h) d_T_count_49
  ·
    refine lv_tableIn (tgt := 50) hx hb d_T_count_1 (by decide) (by decide) rfl rfl ?_
    refine lv_aload_n hx hb d_T_count_50 rfl (lv_at hl 0 rfl) ?_
    refine vp_callSi (W.runV (As := []) (rest := []) ⟨hx, hb, hml, hown, hts⟩ (c_T_countLate l X G A hn) (cwV 0 hts (gV (wd_2 144 rfl rfl) (wd_2 146 rfl rfl) (wd_s 12 rfl) (wd_1 1 rfl rfl) (wd_2 147 rfl rfl)) rfl rfl rfl ⟨rfl, hd_T_countLate⟩ ⟨Nat.le_of_ble_eq_true rfl, Nat.le_of_ble_eq_true rfl⟩) (vx_preV (P := PR X G A) hP hK (va_recv hK.1 hP (ci := 0) rfl cw_0)) rfl rfl hl.1 rfl (lv_room (Nat.le_of_ble_eq_true rfl)) d_T_count_51 ⟨Nat.zero_le _, Nat.zero_le _⟩) (fun r51 e51 => ?_)
    subst e51
    exact W.iret (v := f_T_countLate A) hx hb hrt (fun t ht hW => ⟨_, rfl, rfl, ht⟩) (fun q h => by cases h) d_T_count_54
  ·
    refine lv_tableIn (tgt := 55) hx hb d_T_count_1 (by decide) (by decide) rfl rfl ?_
    refine lv_aload_n hx hb d_T_count_55 rfl (lv_at hl 0 rfl) ?_
    refine va_get (D := X.1) (ci := 0) (C := R_ClusterTool) (T := F_ClusterTool) (N := 8) hx hb hts hin_ClusterTool hown hK.1 hP 0 cw_0 rfl 2 (by decide) (hts _ (wd_1 87 rfl rfl)) (fun _ h9 => h9) rfl d_T_count_56 ?_
    refine va_getN (D := X.1) (ci := 3) (C := R_Robot) (T := F_Robot) (N := 2) hx hb hts hin_Robot hown hK.1 hP 3 cw_3 rfl 1 (by decide) (va_Nw.use rfl (hK.2.1 _ (List.mem_of_getElem? (i := 6) rfl))) (fun _ h9 => h9) rfl d_T_count_59 ?_
    exact W.iret (v := sA_fm A) hx hb hrt (fun t ht hW => ⟨_, rfl, rfl, ht⟩) (fun q h => by cases h) d_T_count_62
  ·
    refine lv_tableIn (tgt := 63) hx hb d_T_count_1 (by decide) (by decide) rfl rfl ?_
    refine lv_aload_n hx hb d_T_count_63 rfl (lv_at hl 0 rfl) ?_
    refine va_get (D := X.1) (ci := 0) (C := R_ClusterTool) (T := F_ClusterTool) (N := 8) hx hb hts hin_ClusterTool hown hK.1 hP 0 cw_0 rfl 3 (by decide) (hts _ (wd_1 88 rfl rfl)) (fun _ h9 => h9) rfl d_T_count_64 ?_
    refine va_getN (D := X.1) (ci := 3) (C := R_Robot) (T := F_Robot) (N := 2) hx hb hts hin_Robot hown hK.1 hP 4 cw_4 rfl 1 (by decide) (va_Nw.use rfl (hK.2.1 _ (List.mem_of_getElem? (i := 6) rfl))) (fun _ h9 => h9) rfl d_T_count_67 ?_
    exact W.iret (v := sA_bm A) hx hb hrt (fun t ht hW => ⟨_, rfl, rfl, ht⟩) (fun q h => by cases h) d_T_count_70
  ·
    refine lv_tableIn (tgt := 71) hx hb d_T_count_1 (by decide) (by decide) rfl rfl ?_
    refine lv_aload_n hx hb d_T_count_71 rfl (lv_at hl 0 rfl) ?_
    refine va_get (D := X.1) (ci := 0) (C := R_ClusterTool) (T := F_ClusterTool) (N := 8) hx hb hts hin_ClusterTool hown hK.1 hP 0 cw_0 rfl 7 (by decide) (hts _ (wd_1 92 rfl rfl)) (fun _ h9 => h9) rfl d_T_count_72 ?_
    exact W.iret (v := sA_ck A) hx hb hrt (fun t ht hW => ⟨_, rfl, rfl, ht⟩) (fun q h => by cases h) d_T_count_75
  ·
    refine lv_tableOut (tgt := 76) hx hb d_T_count_1 hsw rfl ?_
    refine lv_iconst (v := (-1)) hx hb d_T_count_76 rfl ?_
    exact W.iret (v := (-1)) hx hb hrt (fun t ht hW => ⟨_, rfl, (countF_out hsw), ht⟩) (fun q h => by cases h) d_T_count_77
