abbrev rm_T_tick : Room := { frames := 3, cells := 0, slots := 0, locals := 65 }
set_option maxRecDepth 20000 in
set_option maxHeartbeats 4000000 in
theorem lp_T_tick {p : Program} {l : Launch} {e : Env} {s : State} {m : MethodId} {args : Array Value} {below : List Frame} {meth : Method} {c : Code} {Q : State → Prop} {X : Xt} {G : Gc} {A : St} {Af : Nat → Prop} {a : Nat} (hx : p.tables.exec = Jvm.exec) (hb : c.code = b_T_tick) (hts : ∀ w ∈ Cond.code y_T_tick b_T_tick 5 (some .int) :: WA, w.before args s = true) (hown : s.vm.findClass R_ClusterTool = some m.cls) (hml : c.maxLocals = 5) (hK : KK X s) (hI : Inv A) (hC : RC G A) (hBd : snB A) (ha2 : a ≤ 200)
    (kont : ∀ (H : Heap) (locs : List Loc) (ls : Array Slot), va_P X.1 classes (cw X (gU_wt G (Fw G A a 4)) (mk4 A (tkLf A a) (sA_sn A) (tkEn A a) (tkLa A a) (sA_ck A))) H → va_D Af (cw X (gU_wt G (Fw G A a 4)) (mk4 A (tkLf A a) (sA_sn A) (tkEn A a) (tkLa A a) (sA_ck A))) → va_S Af s.heap H locs → lv_has ls 5 [(2, .int (nI (becF A a))), (1, .int (nI a)), (0, .ref (gA_ad G 0))] → W p l e rm_T_tick s m args below meth c H locs 0 0 Q (F0 m 88 ls [])) :
    ∀ (r h : Nat) (H : Heap) (locs : List Loc) (ls : Array Slot), h + r = 4 → va_P X.1 classes (cw X (gU_wt G (Fw G A a h)) (mk4 A (F1 A a h) (sA_sn A) (F3 A a h) (F4 A a h) (sA_ck A))) H → va_D Af (cw X (gU_wt G (Fw G A a h)) (mk4 A (F1 A a h) (sA_sn A) (F3 A a h) (F4 A a h) (sA_ck A))) → va_S Af s.heap H locs → lv_has ls 5 [(3, .int (nI h)), (2, .int (nI (cntT A a h))), (1, .int (nI a)), (0, .ref (gA_ad G 0))] → W p l e rm_T_tick s m args below meth c H locs 0 0 Q (F0 m 17 ls []) := by
  have hn := hI.1
  have hR := hI.2.1
  intro r
  induction r with
  | zero =>
    intro h H locs ls hh hP hD hS hl
    have hh : h = 4 := by omega
    subst hh
    refine lv_iload_n hx hb d_T_tick_17 rfl (lv_at hl 0 rfl) ?_
    refine lv_iconst (v := 4) hx hb d_T_tick_18 rfl ?_
    refine lv_icmp_ge (tgt := 88) hx hb d_T_tick_19 rfl (fun h19 => ?_) (fun h19 => ?_)
    ·
      obtain ⟨e1, e3, e4⟩ := F_4 (G := G) (A := A) (a := a)
      rw [e1, e3, e4] at hP hD
      rw [bec_4] at hl
      exact kont H locs ls hP hD hS (lv_sub hl [1, 2, 3] rfl)
    ·
      exact absurd (by decide) h19
  | succ r ih =>
    intro h H locs ls hh hP hD hS hl
    have hh4 : h < 4 := by omega
    refine lv_iload_n hx hb d_T_tick_17 rfl (lv_at hl 0 rfl) ?_
    refine lv_iconst (v := 4) hx hb d_T_tick_18 rfl ?_
    refine lv_icmp_ge (tgt := 88) hx hb d_T_tick_19 rfl (fun h19 => ?_) (fun h19 => ?_)
    ·
      exact absurd h19 (nI_ge (a := h) (b := 4) hh4 (by omega))
    ·
      refine lv_aload_n hx hb d_T_tick_22 rfl (lv_at hl 3 rfl) ?_
      refine lv_aload_n hx hb d_T_tick_23 rfl (lv_at hl 3 rfl) ?_
      refine va_get (D := X.1) (ci := 0) (C := R_ClusterTool) (T := F_ClusterTool) (N := 8) hx hb hts hin_ClusterTool hown hK.1 hP 0 cw_0 rfl 5 (by decide) (hts _ (wd_1 90 rfl rfl)) (fun _ h9 => h9) rfl d_T_tick_24 ?_
      refine lv_iload_n hx hb d_T_tick_27 rfl (lv_at hl 0 rfl) ?_
      refine va_iald hx hb hK.1 hP 6 0 cw_6 rfl (vp_in_nI (n := h) (by omega) (by omega)) d_T_tick_28 ?_
      rw [nI_clamp (n := h) (by omega)]
      refine va_csq (W.runV (As := [.int (gA_ins G h)]) (rest := []) ⟨hx, hb, hml, hown, hts⟩ (c_T_waferOf l X (gU_wt G (Fw G A a h)) (mk4 A (F1 A a h) (sA_sn A) (F3 A a h) (F4 A a h) (sA_ck A)) (gA_ins G h) (show sA_n A ≤ 25 from hn)) (cwV 1 hts (gV (wd_1 180 rfl rfl) (wd_1 182 rfl rfl) (wd_s 0 rfl) (wd_1 1 rfl rfl) (wd_1 183 rfl rfl)) rfl rfl rfl ⟨rfl, hd_T_waferOf⟩ ⟨Nat.le_of_ble_eq_true rfl, Nat.le_of_ble_eq_true rfl⟩) (vx_preV (P := PR X (gU_wt G (Fw G A a h)) (mk4 A (F1 A a h) (sA_sn A) (F3 A a h) (F4 A a h) (sA_ck A))) hP hK (va_recv hK.1 hP (ci := 0) rfl cw_0)) rfl rfl hl.1 rfl (lv_room (Nat.le_of_ble_eq_true rfl)) d_T_tick_29 ⟨Nat.zero_le _, Nat.zero_le _⟩) (fun r29 e29 => ?_)
      cases q29 : f_T_waferOf (mk4 A (F1 A a h) (sA_sn A) (F3 A a h) (F4 A a h) (sA_ck A)) (gA_ins G h) with
      | none =>
        have e29 : r29 = none := by rw [e29, q29]; rfl
        subst e29
        have hq0 : f_T_waferOf A (gA_ins G h) = none := q29
        refine lv_astoreN (lv' := [(4, .null), (3, .int (nI h)), (2, .int (nI (cntT A a h))), (1, .int (nI a)), (0, .ref (gA_ad G 0))]) hx hb d_T_tick_32 hl (by decide) rfl (fun ls hl => ?_)
        refine lv_aloadN hx hb d_T_tick_34 (lv_at hl 0 rfl) ?_
        refine lv_ifnullN (tgt := 82) hx hb d_T_tick_36 rfl ?_
        refine lv_iinc (k := 1) (v := (nI h + 1)) (lv' := [(3, .int (nI h + 1)), (4, .null), (2, .int (nI (cntT A a h))), (1, .int (nI a)), (0, .ref (gA_ad G 0))]) hx hb d_T_tick_82 hl rfl rfl (by decide) rfl (fun ls hl => ?_)
        refine lv_goto (tgt := 17) hx hb d_T_tick_85 rfl ?_
        have hno : ∀ j, sA_pl A j = h → act A j = false := by
          intro j hj
          cases hb : act A j with
          | false => rfl
          | true =>
            have h3 := act_iff.mp hb
            have h4 := inP_at hI.2.2.2.1 h3.1 (by omega)
            rw [hj, ← hC.1 h (by omega)] at h4
            rw [h4, waferOf_nI hn h3.1] at hq0
            cases hq0
        obtain ⟨e1, e3, e4, ew⟩ := F_same (G := G) (a := a) hno
        rw [← e1, ← e3, ← e4, ← ew] at hP hD
        exact ih (h + 1) H locs ls (by omega) hP hD hS (by rw [cntT_same (G := G) hno, ← nI_1]; exact lv_sub hl [0, 2, 3, 4] rfl)
      | some i29 =>
        have e29 : r29 = some (gA_ad G (18 + 4 * i29)) := by rw [e29, q29]; rfl
        subst e29
        have hli29 := waferOf_lt hn q29
        obtain ⟨hj1, hj2, hj3, hj4⟩ := SA_some hI hC (by omega) (show f_T_waferOf A (gA_ins G h) = some i29 from q29)
        have hwk := hI.2.2.1 i29 hj1
        refine lv_astore (lv' := [(4, .ref (gA_ad G (18 + 4 * i29))), (3, .int (nI h)), (2, .int (nI (cntT A a h))), (1, .int (nI a)), (0, .ref (gA_ad G 0))]) hx hb d_T_tick_32 hl (by decide) rfl (fun ls hl => ?_)
        refine lv_aload hx hb d_T_tick_34 (lv_at hl 0 rfl) ?_
        refine lv_ifnull hx hb d_T_tick_36 ?_
        refine lv_aload_n hx hb d_T_tick_39 rfl (lv_at hl 4 rfl) ?_
        refine va_get (D := X.1) (ci := 0) (C := R_ClusterTool) (T := F_ClusterTool) (N := 8) hx hb hts hin_ClusterTool hown hK.1 hP 0 cw_0 rfl 0 (by decide) (hts _ (wd_1 85 rfl rfl)) (fun _ h9 => h9) rfl d_T_tick_40 ?_
        refine lv_iload_n hx hb d_T_tick_43 rfl (lv_at hl 1 rfl) ?_
        refine vp_callSi (W.runV (As := [.int (nI h)]) (rest := []) ⟨hx, hb, hml, hown, hts⟩ (c_Y_isDown l X (gU_wt G (Fw G A a h)) (mk4 A (F1 A a h) (sA_sn A) (F3 A a h) (F4 A a h) (sA_ck A)) (nI h)) (cwV 1 hts (gV (wd_1 225 rfl rfl) (wd_1 190 rfl rfl) (wd_1 191 rfl rfl) (wd_1 2 rfl rfl) (wd_1 192 rfl rfl)) rfl rfl rfl ⟨rfl, hd_Y_isDown⟩ ⟨Nat.le_of_ble_eq_true rfl, Nat.le_of_ble_eq_true rfl⟩) (vx_preV (P := PR X (gU_wt G (Fw G A a h)) (mk4 A (F1 A a h) (sA_sn A) (F3 A a h) (F4 A a h) (sA_ck A))) hP hK (va_recv hK.1 hP (ci := 1) rfl cw_1)) rfl rfl hl.1 rfl (lv_room (Nat.le_of_ble_eq_true rfl)) d_T_tick_44 ⟨Nat.zero_le _, Nat.zero_le _⟩) (fun r44 e44 => ?_)
        subst e44
        refine lv_if_ne (tgt := 82) hx hb d_T_tick_47 rfl (fun h47 => ?_) (fun h47 => ?_)
        ·
          have h47 := b2i_t h47
          refine lv_iinc (k := 1) (v := (nI h + 1)) (lv' := [(3, .int (nI h + 1)), (4, .ref (gA_ad G (18 + 4 * i29))), (2, .int (nI (cntT A a h))), (1, .int (nI a)), (0, .ref (gA_ad G 0))]) hx hb d_T_tick_82 hl rfl rfl (by decide) rfl (fun ls hl => ?_)
          refine lv_goto (tgt := 17) hx hb d_T_tick_85 rfl ?_
          have hno : ∀ j, sA_pl A j = h → act A j = false := by
            intro j hj
            cases hb : act A j with
            | false => rfl
            | true =>
              have h3 := (act_iff.mp hb).2.2
              rw [hj, ← down_nI hR.2.2 (show h < 6 by omega)] at h3
              have h47 : f_Y_isDown A (nI h) = true := h47
              rw [h47] at h3
              cases h3
          obtain ⟨e1, e3, e4, ew⟩ := F_same (G := G) (a := a) hno
          rw [← e1, ← e3, ← e4, ← ew] at hP hD
          exact ih (h + 1) H locs ls (by omega) hP hD hS (by rw [cntT_same (G := G) hno, ← nI_1]; exact lv_sub hl [0, 2, 3, 4] rfl)
        ·
          have h47 := b2i_f h47
          have hact : act A i29 = true := act_iff.mpr ⟨hj1, by omega, by rw [hj2, ← down_nI hR.2.2 (show h < 6 by omega)]; exact h47⟩
          refine lv_aload hx hb d_T_tick_50 (lv_at hl 0 rfl) ?_
          refine lv_iload_n hx hb d_T_tick_52 rfl (lv_at hl 3 rfl) ?_
          refine lv_aload_n hx hb d_T_tick_53 rfl (lv_at hl 4 rfl) ?_
          refine va_get (D := X.1) (ci := 0) (C := R_ClusterTool) (T := F_ClusterTool) (N := 8) hx hb hts hin_ClusterTool hown hK.1 hP 0 cw_0 rfl 7 (by decide) (hts _ (wd_1 92 rfl rfl)) (fun _ h9 => h9) rfl d_T_tick_54 ?_
          refine va_callv (va_runV (As := [.int (nI a), .int (sA_ck A)]) (rest := []) ⟨hx, hb, hml, hown, hts⟩ (c_W_spend l X (gU_wt G (Fw G A a h)) (mk4 A (F1 A a h) (sA_sn A) (F3 A a h) (F4 A a h) (sA_ck A)) Af i29 hli29 a (sA_ck A) (show sA_sg A i29 ≤ 3 by have := hR.1 (sA_rt A i29); have := hwk.2.1; omega) (show F1 A a h i29 ≤ 100 by unfold F1; rw [if_neg (by omega)]; exact hwk.2.2.2.1) ha2) (cwV 2 hts (gV (wd_2 79 rfl rfl) (wd_2 80 rfl rfl) (wd_2 81 rfl rfl) (wd_1 7 rfl rfl) (wd_2 82 rfl rfl)) rfl rfl rfl ⟨rfl, hd_W_spend⟩ ⟨Nat.le_of_ble_eq_true rfl, Nat.le_of_ble_eq_true rfl⟩) (vx_preV (P := PW X Af (gU_wt G (Fw G A a h)) (mk4 A (F1 A a h) (sA_sn A) (F3 A a h) (F4 A a h) (sA_ck A))) ⟨hP, hD⟩ hK (va_recv hK.1 hP (ci := 5) rfl (cw_w hli29))) rfl rfl hl.1 rfl (lv_room (Nat.le_of_ble_eq_true rfl)) d_T_tick_57 ⟨Nat.zero_le _, Nat.zero_le _⟩) hS (fun q _ h => h) (fun q h => h) (fun u57 t57 H locs ht hvm hu57 hB hz hk hS => ?_)
          obtain ⟨hP, hD⟩ := hB
          rw [ht] at hP
          replace hu57 := hu57.trans (spend_eq (G := G) hI hact hj2 ha2)
          subst hu57
          have hP : va_P X.1 classes (cw X (gU_wt G (Fw G A a (h + 1))) (mk4 A (F1 A a (h + 1)) (sA_sn A) (F3 A a (h + 1)) (F4 A a h) (sA_ck A))) H := hP
          have hD : va_D Af (cw X (gU_wt G (Fw G A a (h + 1))) (mk4 A (F1 A a (h + 1)) (sA_sn A) (F3 A a (h + 1)) (F4 A a h) (sA_ck A))) := hD
          refine lv_iload_n hx hb d_T_tick_60 rfl (lv_at hl 2 rfl) ?_
          refine lv_aload hx hb d_T_tick_61 (lv_at hl 0 rfl) ?_
          refine lv_aload_n hx hb d_T_tick_63 rfl (lv_at hl 4 rfl) ?_
          refine lv_aload hx hb d_T_tick_64 (lv_at hl 0 rfl) ?_
          refine vp_callSi (W.runV (As := [.ref (gA_ad G (18 + 4 * i29))]) (rest := [.ref (gA_ad G (18 + 4 * i29)), .int (nI (cntT A a h))]) ⟨hx, hb, hml, hown, hts⟩ (c_T_limitOf l X (gU_wt G (Fw G A a (h + 1))) (mk4 A (F1 A a (h + 1)) (sA_sn A) (F3 A a (h + 1)) (F4 A a h) (sA_ck A)) i29 hli29 (show rOk A from hR)) (cwV 1 hts (gV (wd_2 59 rfl rfl) (wd_2 61 rfl rfl) (wd_s 10 rfl) (wd_1 1 rfl rfl) (wd_2 62 rfl rfl)) rfl rfl rfl ⟨rfl, hd_T_limitOf⟩ ⟨Nat.le_of_ble_eq_true rfl, Nat.le_of_ble_eq_true rfl⟩) (vx_preV (P := PR X (gU_wt G (Fw G A a (h + 1))) (mk4 A (F1 A a (h + 1)) (sA_sn A) (F3 A a (h + 1)) (F4 A a h) (sA_ck A))) hP hK (va_recv hK.1 hP (ci := 0) rfl cw_0)) rfl rfl hl.1 rfl (lv_room (Nat.le_of_ble_eq_true rfl)) d_T_tick_66 ⟨Nat.zero_le _, Nat.zero_le _⟩) (fun r66 e66 => ?_)
          subst e66
          refine lv_topi (fun z66 ez => ?_)
          have ez : z66 = nI (lmt A i29) := ez.trans (limitOf_nI (A := A) hI hj1 (by omega))
          subst ez
          refine va_calli (va_runV (As := [.int (nI (lmt A i29))]) (rest := [.int (nI (cntT A a h))]) ⟨hx, hb, hml, hown, hts⟩ (c_W_turnsLate l X (gU_wt G (Fw G A a (h + 1))) (mk4 A (F1 A a (h + 1)) (sA_sn A) (F3 A a (h + 1)) (F4 A a h) (sA_ck A)) Af i29 hli29 (nI (lmt A i29))) (cwV 1 hts (gV (wd_2 86 rfl rfl) (wd_2 87 rfl rfl) (wd_2 88 rfl rfl) (wd_1 7 rfl rfl) (wd_2 89 rfl rfl)) rfl rfl rfl ⟨rfl, hd_W_turnsLate⟩ ⟨Nat.le_of_ble_eq_true rfl, Nat.le_of_ble_eq_true rfl⟩) (vx_preV (P := PW X Af (gU_wt G (Fw G A a (h + 1))) (mk4 A (F1 A a (h + 1)) (sA_sn A) (F3 A a (h + 1)) (F4 A a h) (sA_ck A))) ⟨hP, hD⟩ hK (va_recv hK.1 hP (ci := 5) rfl (cw_w hli29))) rfl rfl hl.1 rfl (lv_room (Nat.le_of_ble_eq_true rfl)) d_T_tick_69 ⟨Nat.zero_le _, Nat.zero_le _⟩) hS (fun q _ h => h) (fun q h => h) (fun r69 u69 t69 H locs ht hvm hu69 hB hz hk hS => ?_)
          obtain ⟨hP, hD⟩ := hB
          rw [ht] at hP
          obtain ⟨t1, t2⟩ := turn_eq (G := G) (a := a) hI hC hBd hact hj2 ha2
          obtain ⟨e69, hu69⟩ := hu69
          replace e69 := e69.trans (congrArg b2i t1)
          replace hu69 := hu69.trans t2
          subst e69
          subst hu69
          have hP : va_P X.1 classes (cw X (gU_wt G (Fw G A a (h + 1))) (mk4 A (F1 A a (h + 1)) (sA_sn A) (F3 A a (h + 1)) (F4 A a (h + 1)) (sA_ck A))) H := hP
          have hD : va_D Af (cw X (gU_wt G (Fw G A a (h + 1))) (mk4 A (F1 A a (h + 1)) (sA_sn A) (F3 A a (h + 1)) (F4 A a (h + 1)) (sA_ck A))) := hD
          refine lv_if_eq (tgt := 79) hx hb d_T_tick_72 rfl (fun h72 => ?_) (fun h72 => ?_)
          ·
            have h72 := b2i_f h72
            refine lv_iconst (v := 0) hx hb d_T_tick_79 rfl ?_
            refine lv_iadd hx hb d_T_tick_80 ?_
            refine lv_istore_n (lv' := [(2, .int ((nI (cntT A a h)) + 0)), (4, .ref (gA_ad G (18 + 4 * i29))), (3, .int (nI h)), (1, .int (nI a)), (0, .ref (gA_ad G 0))]) hx hb d_T_tick_81 rfl hl (by decide) rfl (fun ls hl => ?_)
            refine lv_iinc (k := 2) (v := (nI h + 1)) (lv' := [(3, .int (nI h + 1)), (2, .int ((nI (cntT A a h)) + 0)), (4, .ref (gA_ad G (18 + 4 * i29))), (1, .int (nI a)), (0, .ref (gA_ad G 0))]) hx hb d_T_tick_82 hl rfl rfl (by decide) rfl (fun ls hl => ?_)
            refine lv_goto (tgt := 17) hx hb d_T_tick_85 rfl ?_
            exact ih (h + 1) H locs ls (by omega) hP hD hS (by rw [(show nI (cntT A a (h + 1)) = nI (cntT A a h) + 0 by rw [cntT_step (G := G) hI hact hj2, if_neg (nt_of h72)]; rw [Int32.add_zero, Nat.add_zero]), ← nI_1]; exact lv_sub hl [0, 1, 3, 4] rfl)
          ·
            have h72 := b2i_t h72
            refine lv_iconst (v := 1) hx hb d_T_tick_75 rfl ?_
            refine lv_goto (tgt := 80) hx hb d_T_tick_76 rfl ?_
            refine lv_iadd hx hb d_T_tick_80 ?_
            refine lv_istore_n (lv' := [(2, .int ((nI (cntT A a h)) + 1)), (4, .ref (gA_ad G (18 + 4 * i29))), (3, .int (nI h)), (1, .int (nI a)), (0, .ref (gA_ad G 0))]) hx hb d_T_tick_81 rfl hl (by decide) rfl (fun ls hl => ?_)
            refine lv_iinc (k := 2) (v := (nI h + 1)) (lv' := [(3, .int (nI h + 1)), (2, .int ((nI (cntT A a h)) + 1)), (4, .ref (gA_ad G (18 + 4 * i29))), (1, .int (nI a)), (0, .ref (gA_ad G 0))]) hx hb d_T_tick_82 hl rfl rfl (by decide) rfl (fun ls hl => ?_)
            refine lv_goto (tgt := 17) hx hb d_T_tick_85 rfl ?_
            exact ih (h + 1) H locs ls (by omega) hP hD hS (by rw [(show nI (cntT A a (h + 1)) = nI (cntT A a h) + 1 by rw [cntT_step (G := G) hI hact hj2, if_pos h72]; rw [nI_1]), ← nI_1]; exact lv_sub hl [0, 1, 3, 4] rfl)
set_option maxRecDepth 20000 in
set_option maxHeartbeats 4000000 in
theorem c_T_tick (l : Launch) (X : Xt) (G : Gc) (A : St) (Af : Nat → Prop) (x : Int32) (hI : Inv A) (hC : RC G A) (hBd : snB A) : Met l y_T_tick (Cond.code y_T_tick b_T_tick 5 (some .int) :: WA) rm_T_tick (va_Pc [.ref (gA_ad G 0), .int x] (fun U => PW X Af G A U.heap ∧ KK X U)) (va_Qi (AP G (tickI A x) (tickS A x)) (atC X Af) Af) 0 0 Af := by
  refine vx_met (cc := b_T_tick) (maxL := 5) (ret := (some .int)) (by decide) rfl (Nat.le_of_ble_eq_true rfl) ?_
  intro p e s m below meth c ls hx hb hrt hts hown hlocks hname hml hB hl
  obtain ⟨hP, hK⟩ := hB
  have hown : s.vm.findClass R_ClusterTool = some m.cls := hown
  have hl : lv_has ls 5 [(0, .ref (gA_ad G 0)), (1, .int x)] := hl
  have hD : va_D Af (cw X G A) := hP.2
  have hP : va_P X.1 classes (cw X G A) s.heap := hP.1
  have hS : va_S Af s.heap s.heap [] := va_S.rf
  have hn := hI.1
  have hR := hI.2.1
  refine lv_iload_n hx hb d_T_tick_0 rfl (lv_at hl 1 rfl) ?_
  refine lv_iconst (v := 0) hx hb d_T_tick_1 rfl ?_
  refine lv_sipush (v := 200) hx hb d_T_tick_2 rfl ?_
  refine vp_callSi (W.runS (As := [.int x, .int 0, .int 200]) (rest := []) ⟨hx, hb, hml, hown, hts⟩ (c_T_isWithin l X x 0 200) (va_cwS 3 hts (gT (wd_1 121 rfl rfl) (wd_1 119 rfl rfl) (wd_1 1 rfl rfl) (wd_1 120 rfl rfl)) rfl rfl rfl hd_T_isWithin ⟨Nat.le_of_ble_eq_true rfl, Nat.le_of_ble_eq_true rfl⟩) (vx_preS (P := fun _ => True) trivial hK) rfl rfl hl.1 rfl (lv_room (Nat.le_of_ble_eq_true rfl)) d_T_tick_5 ⟨Nat.zero_le _, Nat.zero_le _⟩) (fun r5 e5 => ?_)
  subst e5
  refine lv_if_ne (tgt := 13) hx hb d_T_tick_8 rfl (fun h8 => ?_) (fun h8 => ?_)
  ·
    have h8 := b2i_t h8
    obtain ⟨a, -, ha2, rfl⟩ := within_n (m := 0) (n := 200) h8 rfl rfl
    refine lv_iconst (v := 0) hx hb d_T_tick_13 rfl ?_
    refine lv_istore_n (lv' := [(2, .int 0), (0, .ref (gA_ad G 0)), (1, .int (nI a))]) hx hb d_T_tick_14 rfl hl (by decide) rfl (fun ls hl => ?_)
    refine lv_iconst (v := 0) hx hb d_T_tick_15 rfl ?_
    refine lv_istore_n (lv' := [(3, .int 0), (2, .int 0), (0, .ref (gA_ad G 0)), (1, .int (nI a))]) hx hb d_T_tick_16 rfl hl (by decide) rfl (fun ls hl => ?_)
    have c0 : cntT A a 0 = 0 := by
      unfold cntT
      rw [F_0.2.2]
      exact cnt_none (fun i hi => by cases sA_la A i <;> rfl)
    replace hP := vx_P (show cw X G A = cw X (gU_wt G (Fw G A a 0)) (mk4 A (F1 A a 0) (sA_sn A) (F3 A a 0) (F4 A a 0) (sA_ck A)) by rw [F_0.1, F_0.2.1, F_0.2.2, Fw_0, mk4_id]) hP
    replace hD := vx_D (show cw X G A = cw X (gU_wt G (Fw G A a 0)) (mk4 A (F1 A a 0) (sA_sn A) (F3 A a 0) (F4 A a 0) (sA_ck A)) by rw [F_0.1, F_0.2.1, F_0.2.2, Fw_0, mk4_id]) hD
    refine lp_T_tick (G := G) (A := A) (a := a) hx hb hts hown hml hK hI hC hBd ha2 (fun H locs ls hP hD hS hl => ?_) 4 0 _ _ ls (by omega) hP hD hS (by rw [c0]; exact lv_sub hl [0, 1, 3, 2] rfl)
    replace hP := vx_P (cw_mk4 (g2 := tkSn A a)) hP
    replace hD := vx_D (cw_mk4 (g2 := tkSn A a)) hD
    refine lv_aload_n hx hb d_T_tick_88 rfl (lv_at hl 2 rfl) ?_
    refine lv_dup hx hb d_T_tick_89 rfl ?_
    refine va_get (D := X.1) (ci := 0) (C := R_ClusterTool) (T := F_ClusterTool) (N := 8) hx hb hts hin_ClusterTool hown hK.1 hP 0 cw_0 rfl 7 (by decide) (hts _ (wd_1 92 rfl rfl)) (fun _ h9 => h9) rfl d_T_tick_90 ?_
    refine lv_iload_n hx hb d_T_tick_93 rfl (lv_at hl 1 rfl) ?_
    refine lv_iadd hx hb d_T_tick_94 ?_
    refine va_put (D := X.1) (ci := 0) (v := .int (sA_ck A + nI a)) (ty := .int) (C := R_ClusterTool) (T := F_ClusterTool) (N := 8) hx hb hts hin_ClusterTool t_ClusterTool t_ClusterTool_ok n_ClusterTool hown hK.1 hP hD hS 0 cw_0 rfl 7 (by decide) (hts _ (wd_1 92 rfl rfl)) (fun _ h9 => h9) rfl (by decide +kernel) rfl rfl (Nat.le_of_ble_eq_true rfl) d_T_tick_95 (fun H locs hP hD hS => ?_)
    replace hP := vx_P (cw_s_ck (X := X) (G := (gU_wt G (Fw G A a 4))) (A := (mk4 A (tkLf A a) (tkSn A a) (tkEn A a) (tkLa A a) (sA_ck A))) (v := (sA_ck A + nI a))) hP
    replace hD := vx_D (cw_s_ck (X := X) (G := (gU_wt G (Fw G A a 4))) (A := (mk4 A (tkLf A a) (tkSn A a) (tkEn A a) (tkLa A a) (sA_ck A))) (v := (sA_ck A + nI a))) hD
    have hP : va_P X.1 classes (cw X (gU_wt G (Fw G A a 4)) (tickT A a)) H := hP
    have hD : va_D Af (cw X (gU_wt G (Fw G A a 4)) (tickT A a)) := hD
    refine lv_iload_n hx hb d_T_tick_98 rfl (lv_at hl 1 rfl) ?_
    refine lv_if_le (tgt := 118) hx hb d_T_tick_99 rfl (fun h99 => ?_) (fun h99 => ?_)
    ·
      refine lv_iload_n hx hb d_T_tick_118 rfl (lv_at hl 0 rfl) ?_
      have eT : tickS A (nI a) = (tickT A a) := by rw [(tick_at ha2).2, tickF, if_neg (show ¬ 0 < a from fun z => nI_nle z (by omega) h99)]
      exact W.iret (v := nI (becF A a)) hx hb hrt (fun t ht hW => ⟨⟨_, ((gU_wt G (Fw G A a 4)), (tickT A a)), rfl, ⟨(tick_at ha2).1.symm, eT.symm, (by rw [eT]; exact RC_tick hC ⟨rfl, rfl, rfl, rfl, rfl, rfl⟩), rfl⟩, ⟨by rw [ht]; exact hP, hD⟩⟩, hS.F ht⟩) hS.2.2 d_T_tick_119
    ·
      refine lv_aload_n hx hb d_T_tick_102 rfl (lv_at hl 2 rfl) ?_
      refine va_get (D := X.1) (ci := 0) (C := R_ClusterTool) (T := F_ClusterTool) (N := 8) hx hb hts hin_ClusterTool hown hK.1 hP 0 cw_0 rfl 2 (by decide) (hts _ (wd_1 87 rfl rfl)) (fun _ h9 => h9) rfl d_T_tick_103 ?_
      refine lv_iconst (v := 0) hx hb d_T_tick_106 rfl ?_
      refine va_putN (D := X.1) (ci := 3) (v := .int (b2i false)) (ty := .boolean) (C := R_Robot) (T := F_Robot) (N := 2) hx hb hts hin_Robot t_Robot t_Robot_ok n_Robot hown hK.1 hP hD hS 3 cw_3 rfl 0 (by decide) (va_Nw.use rfl (hK.2.1 _ (List.mem_of_getElem? (i := 5) rfl))) (fun _ h9 => h9) rfl (by decide +kernel) (b2i_nar _) (b2i_fit _) (Nat.le_of_ble_eq_true rfl) d_T_tick_107 (fun H locs hP hD hS => ?_)
      replace hP := vx_P (cw_s_fb (X := X) (G := (gU_wt G (Fw G A a 4))) (A := (tickT A a)) (v := false)) hP
      replace hD := vx_D (cw_s_fb (X := X) (G := (gU_wt G (Fw G A a 4))) (A := (tickT A a)) (v := false)) hD
      refine lv_aload_n hx hb d_T_tick_110 rfl (lv_at hl 2 rfl) ?_
      refine va_get (D := X.1) (ci := 0) (C := R_ClusterTool) (T := F_ClusterTool) (N := 8) hx hb hts hin_ClusterTool hown hK.1 hP 0 cw_0 rfl 3 (by decide) (hts _ (wd_1 88 rfl rfl)) (fun _ h9 => h9) rfl d_T_tick_111 ?_
      refine lv_iconst (v := 0) hx hb d_T_tick_114 rfl ?_
      refine va_putN (D := X.1) (ci := 3) (v := .int (b2i false)) (ty := .boolean) (C := R_Robot) (T := F_Robot) (N := 2) hx hb hts hin_Robot t_Robot t_Robot_ok n_Robot hown hK.1 hP hD hS 4 cw_4 rfl 0 (by decide) (va_Nw.use rfl (hK.2.1 _ (List.mem_of_getElem? (i := 5) rfl))) (fun _ h9 => h9) rfl (by decide +kernel) (b2i_nar _) (b2i_fit _) (Nat.le_of_ble_eq_true rfl) d_T_tick_115 (fun H locs hP hD hS => ?_)
      replace hP := vx_P (cw_s_bb (X := X) (G := (gU_wt G (Fw G A a 4))) (A := (sU_fb (tickT A a) false)) (v := false)) hP
      replace hD := vx_D (cw_s_bb (X := X) (G := (gU_wt G (Fw G A a 4))) (A := (sU_fb (tickT A a) false)) (v := false)) hD
      refine lv_iload_n hx hb d_T_tick_118 rfl (lv_at hl 0 rfl) ?_
      have eT : tickS A (nI a) = (sU_bb (sU_fb (tickT A a) false) false) := by rw [(tick_at ha2).2, tickF, if_pos (lf_pos h99)]
      exact W.iret (v := nI (becF A a)) hx hb hrt (fun t ht hW => ⟨⟨_, ((gU_wt G (Fw G A a 4)), (sU_bb (sU_fb (tickT A a) false) false)), rfl, ⟨(tick_at ha2).1.symm, eT.symm, (by rw [eT]; exact RC_tick hC ⟨rfl, rfl, rfl, rfl, rfl, rfl⟩), rfl⟩, ⟨by rw [ht]; exact hP, hD⟩⟩, hS.F ht⟩) hS.2.2 d_T_tick_119
  ·
    have h8 := b2i_f h8
    refine lv_iconst (v := (-1)) hx hb d_T_tick_11 rfl ?_
    exact W.iret (v := (-1)) hx hb hrt (fun t ht hW => ⟨⟨_, (G, A), rfl, ⟨(tick_bad h8).1.symm, (tick_bad h8).2.symm, (by rw [(tick_bad h8).2]; exact hC), rfl⟩, ⟨by rw [ht]; exact hP, hD⟩⟩, hS.F ht⟩) hS.2.2 d_T_tick_12
