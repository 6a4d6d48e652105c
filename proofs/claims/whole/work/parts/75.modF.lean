abbrev rm_M_may : Room := { frames := 5, cells := 0, slots := 0, locals := 119 }
set_option maxRecDepth 20000 in
set_option maxHeartbeats 4000000 in
theorem c_M_may (l : Launch) (X : Xt) (G : Gr) (A : St) (Af : Nat → Prop) (x : Int32) (y : Int32) (hI : Inv A) (hRR : RR G A) : Met l y_M_may (Cond.code y_M_may b_M_may 7 (some .int) :: WA) rm_M_may (va_Pc [.ref (rA_ad G 0), .int x, .int y] (fun U => QW X Af G A U.heap ∧ KK X U)) (va_Qi (MR G A (mayF A x y)) (atR X Af) Af) 0 0 Af := by
  refine vx_met (cc := b_M_may) (maxL := 7) (ret := (some .int)) (by decide) rfl (Nat.le_of_ble_eq_true rfl) ?_
  intro p e s m below meth c ls hx hb hrt hts hown hlocks hname hml hB hl
  obtain ⟨hP, hK⟩ := hB
  have hown : s.vm.findClass R_Model = some m.cls := hown
  have hl : lv_has ls 7 [(0, .ref (rA_ad G 0)), (1, .int x), (2, .int y)] := hl
  have hD : va_D Af (rw_ X G A) := hP.2
  have hP : va_P X.1 classes (rw_ X G A) s.heap := hP.1
  have hS : va_S Af s.heap s.heap [] := va_S.rf
  have hn := hI.1
  have hR := hI.2.1
  refine lv_aload_n hx hb d_M_may_0 rfl (lv_at hl 0 rfl) ?_
  refine lv_iload_n hx hb d_M_may_1 rfl (lv_at hl 1 rfl) ?_
  refine vp_callSi (W.runV (As := [.int x]) (rest := []) ⟨hx, hb, hml, hown, hts⟩ (c_M_isWafer l X G A x) (cwV 1 hts (gV (wd_3 54 rfl rfl) (wd_3 56 rfl rfl) (wd_s 21 rfl) (wd_1 6 rfl rfl) (wd_3 57 rfl rfl)) rfl rfl rfl ⟨rfl, hd_M_isWafer⟩ ⟨Nat.le_of_ble_eq_true rfl, Nat.le_of_ble_eq_true rfl⟩) (vx_preV (P := QR X G A) hP hK (va_recv hK.1 hP (ci := 6) rfl rw_0)) rfl rfl hl.1 rfl (lv_room (Nat.le_of_ble_eq_true rfl)) d_M_may_2 ⟨Nat.zero_le _, Nat.zero_le _⟩) (fun r2 e2 => ?_)
  subst e2
  refine lv_if_eq (tgt := 17) hx hb d_M_may_5 rfl (fun h5 => ?_) (fun h5 => ?_)
  ·
    have h5 := b2i_f h5
    refine lv_iconst (v := (-1)) hx hb d_M_may_17 rfl ?_
    exact W.iret (v := (-1)) hx hb hrt (fun t ht hW => ⟨⟨_, ((rU_st (rU_tu (rU_tr (rU_kn G (rA_kn G)) (rA_tr G)) (rA_tu G)) (rA_st G)), A), rfl, ⟨(mayF_n1 (isWafer_no hn h5)).symm, (rA_kn G), (rA_tr G), (rA_tu G), (rA_st G), hRR, rfl⟩, ⟨by rw [ht]; exact hP, hD⟩⟩, hS.F ht⟩) hS.2.2 d_M_may_18
  ·
    have h5 := b2i_t h5
    obtain ⟨i, hi, rfl⟩ := isWafer_x hn h5
    obtain ⟨w1, w2, w3, w4, w5, -⟩ := hI.2.2.1 i hi
    have wl := hR.1 (sA_rt A i)
    refine lv_iload_n hx hb d_M_may_8 rfl (lv_at hl 2 rfl) ?_
    refine lv_if_lt (tgt := 17) hx hb d_M_may_9 rfl (fun h9 => ?_) (fun h9 => ?_)
    ·
      refine lv_iconst (v := (-1)) hx hb d_M_may_17 rfl ?_
      exact W.iret (v := (-1)) hx hb hrt (fun t ht hW => ⟨⟨_, ((rU_st (rU_tu (rU_tr (rU_kn G (rA_kn G)) (rA_tr G)) (rA_tu G)) (rA_st G)), A), rfl, ⟨(mayF_n2 hn hi (pidx_no1 h9)).symm, (rA_kn G), (rA_tr G), (rA_tu G), (rA_st G), hRR, rfl⟩, ⟨by rw [ht]; exact hP, hD⟩⟩, hS.F ht⟩) hS.2.2 d_M_may_18
    ·
      refine lv_iload_n hx hb d_M_may_12 rfl (lv_at hl 2 rfl) ?_
      refine lv_iconst (v := 5) hx hb d_M_may_13 rfl ?_
      refine lv_icmp_le (tgt := 19) hx hb d_M_may_14 rfl (fun h14 => ?_) (fun h14 => ?_)
      ·
        obtain ⟨q, hq, rfl⟩ := pidx_yes h9 h14
        refine lv_aload_n hx hb d_M_may_19 rfl (lv_at hl 0 rfl) ?_
        refine va_get (D := X.1) (ci := 6) (C := R_Model) (T := F_Model) (N := 24) hx hb hts hin_Model hown hK.1 hP 0 rw_0 rfl 7 (by decide) (hts _ (wd_2 161 rfl rfl)) (fun _ h9 => h9) rfl d_M_may_20 ?_
        refine lv_iload_n hx hb d_M_may_23 rfl (lv_at hl 1 rfl) ?_
        refine va_iald hx hb hK.1 hP 7 0 rw_7 rfl (vp_in_nI (n := i) (by omega) (by omega)) d_M_may_24 ?_
        rw [nI_clamp (n := i) (by omega)]
        refine lv_istore_n (lv' := [(3, .int (nI (sA_pl A i))), (0, .ref (rA_ad G 0)), (1, .int (nI i)), (2, .int (nI q))]) hx hb d_M_may_25 rfl hl (by decide) rfl (fun ls hl => ?_)
        refine lv_aload_n hx hb d_M_may_26 rfl (lv_at hl 1 rfl) ?_
        refine va_get (D := X.1) (ci := 6) (C := R_Model) (T := F_Model) (N := 24) hx hb hts hin_Model hown hK.1 hP 0 rw_0 rfl 8 (by decide) (hts _ (wd_2 162 rfl rfl)) (fun _ h9 => h9) rfl d_M_may_27 ?_
        refine lv_iload_n hx hb d_M_may_30 rfl (lv_at hl 2 rfl) ?_
        refine va_iald hx hb hK.1 hP 8 0 rw_8 rfl (vp_in_nI (n := i) (by omega) (by omega)) d_M_may_31 ?_
        rw [nI_clamp (n := i) (by omega)]
        refine lv_if_gt (tgt := 43) hx hb d_M_may_32 rfl (fun h32 => ?_) (fun h32 => ?_)
        ·
          refine lv_iconst (v := 1) hx hb d_M_may_43 rfl ?_
          exact W.iret (v := 1) hx hb hrt (fun t ht hW => ⟨⟨_, ((rU_st (rU_tu (rU_tr (rU_kn G (rA_kn G)) (rA_tr G)) (rA_tu G)) (rA_st G)), A), rfl, ⟨by rw [mayF_nI hI hi hq, mayN, if_pos (Or.inl (ltL h32))], (rA_kn G), (rA_tr G), (rA_tu G), (rA_st G), hRR, rfl⟩, ⟨by rw [ht]; exact hP, hD⟩⟩, hS.F ht⟩) hS.2.2 d_M_may_44
        ·
          refine lv_aload_n hx hb d_M_may_35 rfl (lv_at hl 1 rfl) ?_
          refine lv_iload_n hx hb d_M_may_36 rfl (lv_at hl 2 rfl) ?_
          refine vp_callSi (W.runV (As := [.int (nI i)]) (rest := []) ⟨hx, hb, hml, hown, hts⟩ (c_M_isFinished l X G A i hI hi) (cwV 1 hts (gV (wd_3 58 rfl rfl) (wd_3 60 rfl rfl) (wd_s 22 rfl) (wd_1 6 rfl rfl) (wd_3 61 rfl rfl)) rfl rfl rfl ⟨rfl, hd_M_isFinished⟩ ⟨Nat.le_of_ble_eq_true rfl, Nat.le_of_ble_eq_true rfl⟩) (vx_preV (P := QR X G A) hP hK (va_recv hK.1 hP (ci := 6) rfl rw_0)) rfl rfl hl.1 rfl (lv_room (Nat.le_of_ble_eq_true rfl)) d_M_may_37 ⟨Nat.zero_le _, Nat.zero_le _⟩) (fun r37 e37 => ?_)
          subst e37
          rw [isFin_eq hI hi]
          refine lv_if_eq (tgt := 45) hx hb d_M_may_40 rfl (fun h40 => ?_) (fun h40 => ?_)
          ·
            have h40 := b2i_f h40
            have hun : ¬ (0 < sA_lf A i ∨ fin A i = true) := by
              rw [h40, nleL h32 (by omega)]
              simp
            refine lv_aload_n hx hb d_M_may_45 rfl (lv_at hl 1 rfl) ?_
            refine lv_aload_n hx hb d_M_may_46 rfl (lv_at hl 1 rfl) ?_
            refine va_get (D := X.1) (ci := 6) (C := R_Model) (T := F_Model) (N := 24) hx hb hts hin_Model hown hK.1 hP 0 rw_0 rfl 5 (by decide) (hts _ (wd_2 159 rfl rfl)) (fun _ h9 => h9) rfl d_M_may_47 ?_
            refine lv_iload_n hx hb d_M_may_50 rfl (lv_at hl 2 rfl) ?_
            refine va_iald hx hb hK.1 hP 5 0 rw_5 rfl (vp_in_nI (n := i) (by omega) (by omega)) d_M_may_51 ?_
            rw [nI_clamp (n := i) (by omega)]
            refine lv_aload_n hx hb d_M_may_52 rfl (lv_at hl 1 rfl) ?_
            refine va_get (D := X.1) (ci := 6) (C := R_Model) (T := F_Model) (N := 24) hx hb hts hin_Model hown hK.1 hP 0 rw_0 rfl 6 (by decide) (hts _ (wd_2 160 rfl rfl)) (fun _ h9 => h9) rfl d_M_may_53 ?_
            refine lv_iload_n hx hb d_M_may_56 rfl (lv_at hl 2 rfl) ?_
            refine va_iald hx hb hK.1 hP 6 0 rw_6 rfl (vp_in_nI (n := i) (by omega) (by omega)) d_M_may_57 ?_
            rw [nI_clamp (n := i) (by omega)]
            refine lv_iload_n hx hb d_M_may_58 rfl (lv_at hl 0 rfl) ?_
            refine lv_iload_n hx hb d_M_may_59 rfl (lv_at hl 3 rfl) ?_
            refine vp_callSi (W.runV (As := [.int (nI (sA_rt A i)), .int (nI (sA_sg A i)), .int (nI (sA_pl A i)), .int (nI q)]) (rest := []) ⟨hx, hb, hml, hown, hts⟩ (c_M_isWay l X G A (sA_rt A i) (sA_sg A i) (sA_pl A i) q hR w1 w2 (by omega) hq) (cwV 4 hts (gV (wd_3 37 rfl rfl) (wd_3 39 rfl rfl) (wd_s 20 rfl) (wd_1 6 rfl rfl) (wd_3 40 rfl rfl)) rfl rfl rfl ⟨rfl, hd_M_isWay⟩ ⟨Nat.le_of_ble_eq_true rfl, Nat.le_of_ble_eq_true rfl⟩) (vx_preV (P := QR X G A) hP hK (va_recv hK.1 hP (ci := 6) rfl rw_0)) rfl rfl hl.1 rfl (lv_room (Nat.le_of_ble_eq_true rfl)) d_M_may_60 ⟨Nat.zero_le _, Nat.zero_le _⟩) (fun r60 e60 => ?_)
            subst e60
            rw [way_eq hR w2 (by omega) hq]
            refine lv_if_ne (tgt := 68) hx hb d_M_may_63 rfl (fun h63 => ?_) (fun h63 => ?_)
            ·
              have h63 := b2i_t h63
              refine lv_aload_n hx hb d_M_may_68 rfl (lv_at hl 1 rfl) ?_
              refine lv_iload_n hx hb d_M_may_69 rfl (lv_at hl 3 rfl) ?_
              refine vp_callSi (W.runV (As := [.int (nI q)]) (rest := []) ⟨hx, hb, hml, hown, hts⟩ (c_M_inPlace l X G A q hI hq) (cwV 1 hts (gV (wd_3 62 rfl rfl) (wd_3 64 rfl rfl) (wd_s 23 rfl) (wd_1 6 rfl rfl) (wd_3 65 rfl rfl)) rfl rfl rfl ⟨rfl, hd_M_inPlace⟩ ⟨Nat.le_of_ble_eq_true rfl, Nat.le_of_ble_eq_true rfl⟩) (vx_preV (P := QR X G A) hP hK (va_recv hK.1 hP (ci := 6) rfl rw_0)) rfl rfl hl.1 rfl (lv_room (Nat.le_of_ble_eq_true rfl)) d_M_may_70 ⟨Nat.zero_le _, Nat.zero_le _⟩) (fun r70 e70 => ?_)
              subst e70
              refine lv_istore (lv' := [(4, .int (inP A q)), (3, .int (nI (sA_pl A i))), (0, .ref (rA_ad G 0)), (1, .int (nI i)), (2, .int (nI q))]) hx hb d_M_may_73 hl (by decide) rfl (fun ls hl => ?_)
              refine lv_iload hx hb d_M_may_75 (lv_at hl 0 rfl) ?_
              refine lv_if_lt (tgt := 88) hx hb d_M_may_77 rfl (fun h77 => ?_) (fun h77 => ?_)
              ·
                have htk := tak_no hI hi hq (Or.inl h77)
                refine lv_aload_n hx hb d_M_may_88 rfl (lv_at hl 2 rfl) ?_
                refine lv_iload_n hx hb d_M_may_89 rfl (lv_at hl 3 rfl) ?_
                refine vp_callSi (W.runV (As := [.int (nI i)]) (rest := []) ⟨hx, hb, hml, hown, hts⟩ (c_M_digitOf l X G A i hI hi) (cwV 1 hts (gV (wd_3 10 rfl rfl) (wd_3 12 rfl rfl) (wd_s 14 rfl) (wd_1 6 rfl rfl) (wd_3 13 rfl rfl)) rfl rfl rfl ⟨rfl, hd_M_digitOf⟩ ⟨Nat.le_of_ble_eq_true rfl, Nat.le_of_ble_eq_true rfl⟩) (vx_preV (P := QR X G A) hP hK (va_recv hK.1 hP (ci := 6) rfl rw_0)) rfl rfl hl.1 rfl (lv_room (Nat.le_of_ble_eq_true rfl)) d_M_may_90 ⟨Nat.zero_le _, Nat.zero_le _⟩) (fun r90 e90 => ?_)
                subst e90
                refine lv_istore (lv' := [(5, .int (f_M_digitOf A i)), (4, .int (inP A q)), (3, .int (nI (sA_pl A i))), (0, .ref (rA_ad G 0)), (1, .int (nI i)), (2, .int (nI q))]) hx hb d_M_may_93 hl (by decide) rfl (fun ls hl => ?_)
                refine lv_aload_n hx hb d_M_may_95 rfl (lv_at hl 3 rfl) ?_
                refine vp_callSi (W.runV (As := []) (rest := []) ⟨hx, hb, hml, hown, hts⟩ (c_M_situation l X G A hI) (cwV 0 hts (gV (wd_3 3 rfl rfl) (wd_3 5 rfl rfl) (wd_s 13 rfl) (wd_1 6 rfl rfl) (wd_3 6 rfl rfl)) rfl rfl rfl ⟨rfl, hd_M_situation⟩ ⟨Nat.le_of_ble_eq_true rfl, Nat.le_of_ble_eq_true rfl⟩) (vx_preV (P := QR X G A) hP hK (va_recv hK.1 hP (ci := 6) rfl rw_0)) rfl rfl hl.1 rfl (lv_room (Nat.le_of_ble_eq_true rfl)) d_M_may_96 ⟨Nat.zero_le _, Nat.zero_le _⟩) (fun r96 e96 => ?_)
                subst e96
                refine lv_iload_n hx hb d_M_may_99 rfl (lv_at hl 2 rfl) ?_
                refine lv_iconst (v := 5) hx hb d_M_may_100 rfl ?_
                refine lv_icmp_ge (tgt := 114) hx hb d_M_may_101 rfl (fun h101 => ?_) (fun h101 => ?_)
                ·
                  refine lv_iconst (v := 0) hx hb d_M_may_114 rfl ?_
                  refine lv_isub hx hb d_M_may_115 ?_
                  refine lv_istore (lv' := [(6, .int ((f_M_situation A) - 0)), (5, .int (f_M_digitOf A i)), (4, .int (inP A q)), (3, .int (nI (sA_pl A i))), (0, .ref (rA_ad G 0)), (1, .int (nI i)), (2, .int (nI q))]) hx hb d_M_may_116 hl (by decide) rfl (fun ls hl => ?_)
                  rw [sit1_b (ge5 (by omega) h101)] at hl
                  refine lv_iload_n hx hb d_M_may_118 rfl (lv_at hl 6 rfl) ?_
                  refine lv_iconst (v := 5) hx hb d_M_may_119 rfl ?_
                  refine lv_icmp_ne (tgt := 128) hx hb d_M_may_120 rfl (fun h120 => ?_) (fun h120 => ?_)
                  ·
                    refine lv_iload hx hb d_M_may_128 (lv_at hl 0 rfl) ?_
                    refine lv_iload_n hx hb d_M_may_130 rfl (lv_at hl 6 rfl) ?_
                    refine vp_callSi (W.runS (As := [.int (nI q)]) (rest := [.int (nI (enc9 (sit1 A i)))]) ⟨hx, hb, hml, hown, hts⟩ (c_M_power l X q (by omega)) (va_cwS 1 hts (gT (wd_3 7 rfl rfl) (wd_3 8 rfl rfl) (wd_1 6 rfl rfl) (wd_3 9 rfl rfl)) rfl rfl rfl hd_M_power ⟨Nat.le_of_ble_eq_true rfl, Nat.le_of_ble_eq_true rfl⟩) (vx_preS (P := fun _ => True) trivial hK) rfl rfl hl.1 rfl (lv_room (Nat.le_of_ble_eq_true rfl)) d_M_may_131 ⟨Nat.zero_le _, Nat.zero_le _⟩) (fun r131 e131 => ?_)
                    subst e131
                    refine lv_iload_n hx hb d_M_may_134 rfl (lv_at hl 6 rfl) ?_
                    refine lv_iconst (v := 4) hx hb d_M_may_135 rfl ?_
                    refine lv_icmp_ge (tgt := 146) hx hb d_M_may_136 rfl (fun h136 => ?_) (fun h136 => ?_)
                    ·
                      refine lv_iload hx hb d_M_may_146 (lv_at hl 1 rfl) ?_
                      refine lv_imul hx hb d_M_may_148 ?_
                      refine lv_iadd hx hb d_M_may_149 ?_
                      refine lv_istore (lv' := [(6, .int ((nI (enc9 (sit1 A i))) + ((f_M_power q) * (f_M_digitOf A i)))), (5, .int (f_M_digitOf A i)), (4, .int (inP A q)), (3, .int (nI (sA_pl A i))), (0, .ref (rA_ad G 0)), (1, .int (nI i)), (2, .int (nI q))]) hx hb d_M_may_150 hl (by decide) rfl (fun ls hl => ?_)
                      rw [code_4 hI hi hq (fun z => h120 (by rw [z]; rfl)) (ge4 hq h136) htk] at hl
                      obtain ⟨hd9, hlt9⟩ := sitAft_d hI hi hq h63
                      refine lv_aload_n hx hb d_M_may_152 rfl (lv_at hl 4 rfl) ?_
                      refine lv_iload hx hb d_M_may_153 (lv_at hl 0 rfl) ?_
                      refine va_calli (va_runV (As := [.int (nI (enc9 (sitAft A i q)))]) (rest := []) ⟨hx, hb, hml, hown, hts⟩ (c_M_canBeEmptied l X G A Af (enc9 (sitAft A i q)) hR hRR hlt9 (by rw [hd9]; exact ok9_sitAft hI hi hq h63)) (cwV 1 hts (gV (wd_3 14 rfl rfl) (wd_3 16 rfl rfl) (wd_s 15 rfl) (wd_1 6 rfl rfl) (wd_3 17 rfl rfl)) rfl rfl rfl ⟨rfl, hd_M_canBeEmptied⟩ ⟨Nat.le_of_ble_eq_true rfl, Nat.le_of_ble_eq_true rfl⟩) (vx_preV (P := QW X Af G A) ⟨hP, hD⟩ hK (va_recv hK.1 hP (ci := 6) rfl rw_0)) rfl rfl hl.1 rfl (lv_room (Nat.le_of_ble_eq_true rfl)) d_M_may_155 ⟨Nat.zero_le _, Nat.zero_le _⟩) hS (fun q _ h => h) (fun q h => h) (fun r155 u155 t155 H locs ht hvm hu155 hB hz hk hS => ?_)
                      obtain ⟨hP, hD⟩ := hB
                      rw [ht] at hP
                      obtain ⟨e155, kn155, tr155, tu155, hki155, hu155⟩ := hu155
                      subst e155
                      subst hu155
                      have hP : va_P X.1 classes (rw_ X (rU_st (rU_tu (rU_tr (rU_kn G kn155) tr155) tu155) false) A) H := hP
                      have hD : va_D Af (rw_ X (rU_st (rU_tu (rU_tr (rU_kn G kn155) tr155) tu155) false) A) := hD
                      refine lv_if_ne (tgt := 163) hx hb d_M_may_158 rfl (fun h158 => ?_) (fun h158 => ?_)
                      ·
                        have h158 := b2i_t h158
                        refine lv_iload_n hx hb d_M_may_163 rfl (lv_at hl 3 rfl) ?_
                        refine lv_iload_n hx hb d_M_may_164 rfl (lv_at hl 6 rfl) ?_
                        refine vp_callSi (W.runS (As := [.int (nI (sA_pl A i)), .int (nI q)]) (rest := []) ⟨hx, hb, hml, hown, hts⟩ (c_M_byFront l X (nI (sA_pl A i)) (nI q)) (va_cwS 2 hts (gT (wd_3 66 rfl rfl) (wd_3 67 rfl rfl) (wd_1 6 rfl rfl) (wd_3 68 rfl rfl)) rfl rfl rfl hd_M_byFront ⟨Nat.le_of_ble_eq_true rfl, Nat.le_of_ble_eq_true rfl⟩) (vx_preS (P := fun _ => True) trivial hK) rfl rfl hl.1 rfl (lv_room (Nat.le_of_ble_eq_true rfl)) d_M_may_165 ⟨Nat.zero_le _, Nat.zero_le _⟩) (fun r165 e165 => ?_)
                        subst e165
                        rw [front_nI _ (by omega) _ hq]
                        refine lv_if_eq (tgt := 181) hx hb d_M_may_168 rfl (fun h168 => ?_) (fun h168 => ?_)
                        ·
                          have h168 := b2i_f h168
                          refine lv_aload_n hx hb d_M_may_181 rfl (lv_at hl 4 rfl) ?_
                          refine va_get (D := X.1) (ci := 6) (C := R_Model) (T := F_Model) (N := 24) hx hb hts hin_Model hown hK.1 hP 0 rw_0 rfl 17 (by decide) (hts _ (wd_2 171 rfl rfl)) (fun _ h9 => h9) rfl d_M_may_182 ?_
                          refine lv_if_eq (tgt := 192) hx hb d_M_may_185 rfl (fun h185 => ?_) (fun h185 => ?_)
                          ·
                            have h185 := b2i_f h185
                            refine lv_iconst (v := 0) hx hb d_M_may_192 rfl ?_
                            exact W.iret (v := 0) hx hb hrt (fun t ht hW => ⟨⟨_, ((rU_st (rU_tu (rU_tr (rU_kn G kn155) tr155) tu155) false), A), rfl, ⟨by rw [mayF_nI hI hi hq, mayN, if_neg hun, if_neg (show ¬ leadN _ _ _ _ = false by rw [h63]; decide), if_neg htk, if_neg (show ¬ canE (envA A) (toS (envA A) (sitAft A i q)) = false by rw [← (show canC (envA A) (enc9 (sitAft A i q)) = canE (envA A) (toS (envA A) (sitAft A i q)) from by show canE _ (toS _ (dig9 _)) = _; rw [hd9]), h158]; decide), busyF, if_pos (bnot_f h168), if_neg (nt_of h185)], kn155, tr155, tu155, false, Or.inr hki155, rfl⟩, ⟨by rw [ht]; exact hP, hD⟩⟩, hS.F ht⟩) hS.2.2 d_M_may_193
                          ·
                            have h185 := b2i_t h185
                            refine lv_iconst (v := 5) hx hb d_M_may_188 rfl ?_
                            refine lv_goto (tgt := 193) hx hb d_M_may_189 rfl ?_
                            exact W.iret (v := 5) hx hb hrt (fun t ht hW => ⟨⟨_, ((rU_st (rU_tu (rU_tr (rU_kn G kn155) tr155) tu155) false), A), rfl, ⟨by rw [mayF_nI hI hi hq, mayN, if_neg hun, if_neg (show ¬ leadN _ _ _ _ = false by rw [h63]; decide), if_neg htk, if_neg (show ¬ canE (envA A) (toS (envA A) (sitAft A i q)) = false by rw [← (show canC (envA A) (enc9 (sitAft A i q)) = canE (envA A) (toS (envA A) (sitAft A i q)) from by show canE _ (toS _ (dig9 _)) = _; rw [hd9]), h158]; decide), busyF, if_pos (bnot_f h168), if_pos h185], kn155, tr155, tu155, false, Or.inr hki155, rfl⟩, ⟨by rw [ht]; exact hP, hD⟩⟩, hS.F ht⟩) hS.2.2 d_M_may_193
                        ·
                          have h168 := b2i_t h168
                          refine lv_aload_n hx hb d_M_may_171 rfl (lv_at hl 4 rfl) ?_
                          refine va_get (D := X.1) (ci := 6) (C := R_Model) (T := F_Model) (N := 24) hx hb hts hin_Model hown hK.1 hP 0 rw_0 rfl 16 (by decide) (hts _ (wd_2 170 rfl rfl)) (fun _ h9 => h9) rfl d_M_may_172 ?_
                          refine lv_if_eq (tgt := 192) hx hb d_M_may_175 rfl (fun h175 => ?_) (fun h175 => ?_)
                          ·
                            have h175 := b2i_f h175
                            refine lv_iconst (v := 0) hx hb d_M_may_192 rfl ?_
                            exact W.iret (v := 0) hx hb hrt (fun t ht hW => ⟨⟨_, ((rU_st (rU_tu (rU_tr (rU_kn G kn155) tr155) tu155) false), A), rfl, ⟨by rw [mayF_nI hI hi hq, mayN, if_neg hun, if_neg (show ¬ leadN _ _ _ _ = false by rw [h63]; decide), if_neg htk, if_neg (show ¬ canE (envA A) (toS (envA A) (sitAft A i q)) = false by rw [← (show canC (envA A) (enc9 (sitAft A i q)) = canE (envA A) (toS (envA A) (sitAft A i q)) from by show canE _ (toS _ (dig9 _)) = _; rw [hd9]), h158]; decide), busyF, if_neg (nt_of (bnot_t h168)), if_neg (nt_of h175)], kn155, tr155, tu155, false, Or.inr hki155, rfl⟩, ⟨by rw [ht]; exact hP, hD⟩⟩, hS.F ht⟩) hS.2.2 d_M_may_193
                          ·
                            have h175 := b2i_t h175
                            refine lv_goto (tgt := 188) hx hb d_M_may_178 rfl ?_
                            refine lv_iconst (v := 5) hx hb d_M_may_188 rfl ?_
                            refine lv_goto (tgt := 193) hx hb d_M_may_189 rfl ?_
                            exact W.iret (v := 5) hx hb hrt (fun t ht hW => ⟨⟨_, ((rU_st (rU_tu (rU_tr (rU_kn G kn155) tr155) tu155) false), A), rfl, ⟨by rw [mayF_nI hI hi hq, mayN, if_neg hun, if_neg (show ¬ leadN _ _ _ _ = false by rw [h63]; decide), if_neg htk, if_neg (show ¬ canE (envA A) (toS (envA A) (sitAft A i q)) = false by rw [← (show canC (envA A) (enc9 (sitAft A i q)) = canE (envA A) (toS (envA A) (sitAft A i q)) from by show canE _ (toS _ (dig9 _)) = _; rw [hd9]), h158]; decide), busyF, if_neg (nt_of (bnot_t h168)), if_pos h175], kn155, tr155, tu155, false, Or.inr hki155, rfl⟩, ⟨by rw [ht]; exact hP, hD⟩⟩, hS.F ht⟩) hS.2.2 d_M_may_193
                      ·
                        have h158 := b2i_f h158
                        refine lv_iconst (v := 4) hx hb d_M_may_161 rfl ?_
                        exact W.iret (v := 4) hx hb hrt (fun t ht hW => ⟨⟨_, ((rU_st (rU_tu (rU_tr (rU_kn G kn155) tr155) tu155) false), A), rfl, ⟨by rw [mayF_nI hI hi hq, mayN, if_neg hun, if_neg (show ¬ leadN _ _ _ _ = false by rw [h63]; decide), if_neg htk, if_pos (show canE (envA A) (toS (envA A) (sitAft A i q)) = false by rw [← (show canC (envA A) (enc9 (sitAft A i q)) = canE (envA A) (toS (envA A) (sitAft A i q)) from by show canE _ (toS _ (dig9 _)) = _; rw [hd9])]; exact h158)], kn155, tr155, tu155, false, Or.inr hki155, rfl⟩, ⟨by rw [ht]; exact hP, hD⟩⟩, hS.F ht⟩) hS.2.2 d_M_may_162
                    ·
                      refine lv_iload hx hb d_M_may_139 (lv_at hl 1 rfl) ?_
                      refine lv_iconst (v := 1) hx hb d_M_may_141 rfl ?_
                      refine lv_iadd hx hb d_M_may_142 ?_
                      refine lv_goto (tgt := 148) hx hb d_M_may_143 rfl ?_
                      refine lv_imul hx hb d_M_may_148 ?_
                      refine lv_iadd hx hb d_M_may_149 ?_
                      refine lv_istore (lv' := [(6, .int ((nI (enc9 (sit1 A i))) + ((f_M_power q) * ((f_M_digitOf A i) + 1)))), (5, .int (f_M_digitOf A i)), (4, .int (inP A q)), (3, .int (nI (sA_pl A i))), (0, .ref (rA_ad G 0)), (1, .int (nI i)), (2, .int (nI q))]) hx hb d_M_may_150 hl (by decide) rfl (fun ls hl => ?_)
                      rw [code_3 hI hi (lt4 hq h136) htk] at hl
                      obtain ⟨hd9, hlt9⟩ := sitAft_d hI hi hq h63
                      refine lv_aload_n hx hb d_M_may_152 rfl (lv_at hl 4 rfl) ?_
                      refine lv_iload hx hb d_M_may_153 (lv_at hl 0 rfl) ?_
                      refine va_calli (va_runV (As := [.int (nI (enc9 (sitAft A i q)))]) (rest := []) ⟨hx, hb, hml, hown, hts⟩ (c_M_canBeEmptied l X G A Af (enc9 (sitAft A i q)) hR hRR hlt9 (by rw [hd9]; exact ok9_sitAft hI hi hq h63)) (cwV 1 hts (gV (wd_3 14 rfl rfl) (wd_3 16 rfl rfl) (wd_s 15 rfl) (wd_1 6 rfl rfl) (wd_3 17 rfl rfl)) rfl rfl rfl ⟨rfl, hd_M_canBeEmptied⟩ ⟨Nat.le_of_ble_eq_true rfl, Nat.le_of_ble_eq_true rfl⟩) (vx_preV (P := QW X Af G A) ⟨hP, hD⟩ hK (va_recv hK.1 hP (ci := 6) rfl rw_0)) rfl rfl hl.1 rfl (lv_room (Nat.le_of_ble_eq_true rfl)) d_M_may_155 ⟨Nat.zero_le _, Nat.zero_le _⟩) hS (fun q _ h => h) (fun q h => h) (fun r155 u155 t155 H locs ht hvm hu155 hB hz hk hS => ?_)
                      obtain ⟨hP, hD⟩ := hB
                      rw [ht] at hP
                      obtain ⟨e155, kn155, tr155, tu155, hki155, hu155⟩ := hu155
                      subst e155
                      subst hu155
                      have hP : va_P X.1 classes (rw_ X (rU_st (rU_tu (rU_tr (rU_kn G kn155) tr155) tu155) false) A) H := hP
                      have hD : va_D Af (rw_ X (rU_st (rU_tu (rU_tr (rU_kn G kn155) tr155) tu155) false) A) := hD
                      refine lv_if_ne (tgt := 163) hx hb d_M_may_158 rfl (fun h158 => ?_) (fun h158 => ?_)
                      ·
                        have h158 := b2i_t h158
                        refine lv_iload_n hx hb d_M_may_163 rfl (lv_at hl 3 rfl) ?_
                        refine lv_iload_n hx hb d_M_may_164 rfl (lv_at hl 6 rfl) ?_
                        refine vp_callSi (W.runS (As := [.int (nI (sA_pl A i)), .int (nI q)]) (rest := []) ⟨hx, hb, hml, hown, hts⟩ (c_M_byFront l X (nI (sA_pl A i)) (nI q)) (va_cwS 2 hts (gT (wd_3 66 rfl rfl) (wd_3 67 rfl rfl) (wd_1 6 rfl rfl) (wd_3 68 rfl rfl)) rfl rfl rfl hd_M_byFront ⟨Nat.le_of_ble_eq_true rfl, Nat.le_of_ble_eq_true rfl⟩) (vx_preS (P := fun _ => True) trivial hK) rfl rfl hl.1 rfl (lv_room (Nat.le_of_ble_eq_true rfl)) d_M_may_165 ⟨Nat.zero_le _, Nat.zero_le _⟩) (fun r165 e165 => ?_)
                        subst e165
                        rw [front_nI _ (by omega) _ hq]
                        refine lv_if_eq (tgt := 181) hx hb d_M_may_168 rfl (fun h168 => ?_) (fun h168 => ?_)
                        ·
                          have h168 := b2i_f h168
                          refine lv_aload_n hx hb d_M_may_181 rfl (lv_at hl 4 rfl) ?_
                          refine va_get (D := X.1) (ci := 6) (C := R_Model) (T := F_Model) (N := 24) hx hb hts hin_Model hown hK.1 hP 0 rw_0 rfl 17 (by decide) (hts _ (wd_2 171 rfl rfl)) (fun _ h9 => h9) rfl d_M_may_182 ?_
                          refine lv_if_eq (tgt := 192) hx hb d_M_may_185 rfl (fun h185 => ?_) (fun h185 => ?_)
                          ·
                            have h185 := b2i_f h185
                            refine lv_iconst (v := 0) hx hb d_M_may_192 rfl ?_
                            exact W.iret (v := 0) hx hb hrt (fun t ht hW => ⟨⟨_, ((rU_st (rU_tu (rU_tr (rU_kn G kn155) tr155) tu155) false), A), rfl, ⟨by rw [mayF_nI hI hi hq, mayN, if_neg hun, if_neg (show ¬ leadN _ _ _ _ = false by rw [h63]; decide), if_neg htk, if_neg (show ¬ canE (envA A) (toS (envA A) (sitAft A i q)) = false by rw [← (show canC (envA A) (enc9 (sitAft A i q)) = canE (envA A) (toS (envA A) (sitAft A i q)) from by show canE _ (toS _ (dig9 _)) = _; rw [hd9]), h158]; decide), busyF, if_pos (bnot_f h168), if_neg (nt_of h185)], kn155, tr155, tu155, false, Or.inr hki155, rfl⟩, ⟨by rw [ht]; exact hP, hD⟩⟩, hS.F ht⟩) hS.2.2 d_M_may_193
                          ·
                            have h185 := b2i_t h185
                            refine lv_iconst (v := 5) hx hb d_M_may_188 rfl ?_
                            refine lv_goto (tgt := 193) hx hb d_M_may_189 rfl ?_
                            exact W.iret (v := 5) hx hb hrt (fun t ht hW => ⟨⟨_, ((rU_st (rU_tu (rU_tr (rU_kn G kn155) tr155) tu155) false), A), rfl, ⟨by rw [mayF_nI hI hi hq, mayN, if_neg hun, if_neg (show ¬ leadN _ _ _ _ = false by rw [h63]; decide), if_neg htk, if_neg (show ¬ canE (envA A) (toS (envA A) (sitAft A i q)) = false by rw [← (show canC (envA A) (enc9 (sitAft A i q)) = canE (envA A) (toS (envA A) (sitAft A i q)) from by show canE _ (toS _ (dig9 _)) = _; rw [hd9]), h158]; decide), busyF, if_pos (bnot_f h168), if_pos h185], kn155, tr155, tu155, false, Or.inr hki155, rfl⟩, ⟨by rw [ht]; exact hP, hD⟩⟩, hS.F ht⟩) hS.2.2 d_M_may_193
                        ·
                          have h168 := b2i_t h168
                          refine lv_aload_n hx hb d_M_may_171 rfl (lv_at hl 4 rfl) ?_
                          refine va_get (D := X.1) (ci := 6) (C := R_Model) (T := F_Model) (N := 24) hx hb hts hin_Model hown hK.1 hP 0 rw_0 rfl 16 (by decide) (hts _ (wd_2 170 rfl rfl)) (fun _ h9 => h9) rfl d_M_may_172 ?_
                          refine lv_if_eq (tgt := 192) hx hb d_M_may_175 rfl (fun h175 => ?_) (fun h175 => ?_)
                          ·
                            have h175 := b2i_f h175
                            refine lv_iconst (v := 0) hx hb d_M_may_192 rfl ?_
                            exact W.iret (v := 0) hx hb hrt (fun t ht hW => ⟨⟨_, ((rU_st (rU_tu (rU_tr (rU_kn G kn155) tr155) tu155) false), A), rfl, ⟨by rw [mayF_nI hI hi hq, mayN, if_neg hun, if_neg (show ¬ leadN _ _ _ _ = false by rw [h63]; decide), if_neg htk, if_neg (show ¬ canE (envA A) (toS (envA A) (sitAft A i q)) = false by rw [← (show canC (envA A) (enc9 (sitAft A i q)) = canE (envA A) (toS (envA A) (sitAft A i q)) from by show canE _ (toS _ (dig9 _)) = _; rw [hd9]), h158]; decide), busyF, if_neg (nt_of (bnot_t h168)), if_neg (nt_of h175)], kn155, tr155, tu155, false, Or.inr hki155, rfl⟩, ⟨by rw [ht]; exact hP, hD⟩⟩, hS.F ht⟩) hS.2.2 d_M_may_193
                          ·
                            have h175 := b2i_t h175
                            refine lv_goto (tgt := 188) hx hb d_M_may_178 rfl ?_
                            refine lv_iconst (v := 5) hx hb d_M_may_188 rfl ?_
                            refine lv_goto (tgt := 193) hx hb d_M_may_189 rfl ?_
                            exact W.iret (v := 5) hx hb hrt (fun t ht hW => ⟨⟨_, ((rU_st (rU_tu (rU_tr (rU_kn G kn155) tr155) tu155) false), A), rfl, ⟨by rw [mayF_nI hI hi hq, mayN, if_neg hun, if_neg (show ¬ leadN _ _ _ _ = false by rw [h63]; decide), if_neg htk, if_neg (show ¬ canE (envA A) (toS (envA A) (sitAft A i q)) = false by rw [← (show canC (envA A) (enc9 (sitAft A i q)) = canE (envA A) (toS (envA A) (sitAft A i q)) from by show canE _ (toS _ (dig9 _)) = _; rw [hd9]), h158]; decide), busyF, if_neg (nt_of (bnot_t h168)), if_pos h175], kn155, tr155, tu155, false, Or.inr hki155, rfl⟩, ⟨by rw [ht]; exact hP, hD⟩⟩, hS.F ht⟩) hS.2.2 d_M_may_193
                      ·
                        have h158 := b2i_f h158
                        refine lv_iconst (v := 4) hx hb d_M_may_161 rfl ?_
                        exact W.iret (v := 4) hx hb hrt (fun t ht hW => ⟨⟨_, ((rU_st (rU_tu (rU_tr (rU_kn G kn155) tr155) tu155) false), A), rfl, ⟨by rw [mayF_nI hI hi hq, mayN, if_neg hun, if_neg (show ¬ leadN _ _ _ _ = false by rw [h63]; decide), if_neg htk, if_pos (show canE (envA A) (toS (envA A) (sitAft A i q)) = false by rw [← (show canC (envA A) (enc9 (sitAft A i q)) = canE (envA A) (toS (envA A) (sitAft A i q)) from by show canE _ (toS _ (dig9 _)) = _; rw [hd9])]; exact h158)], kn155, tr155, tu155, false, Or.inr hki155, rfl⟩, ⟨by rw [ht]; exact hP, hD⟩⟩, hS.F ht⟩) hS.2.2 d_M_may_162
                  ·
                    refine lv_iload hx hb d_M_may_123 (lv_at hl 0 rfl) ?_
                    refine lv_goto (tgt := 150) hx hb d_M_may_125 rfl ?_
                    refine lv_istore (lv' := [(6, .int (nI (enc9 (sit1 A i)))), (5, .int (f_M_digitOf A i)), (4, .int (inP A q)), (3, .int (nI (sA_pl A i))), (0, .ref (rA_ad G 0)), (1, .int (nI i)), (2, .int (nI q))]) hx hb d_M_may_150 hl (by decide) rfl (fun ls hl => ?_)
                    rw [← sitAft_5 (pl5 (by omega) h120)] at hl
                    have hl := hl
                    obtain ⟨hd9, hlt9⟩ := sitAft_d hI hi hq h63
                    refine lv_aload_n hx hb d_M_may_152 rfl (lv_at hl 4 rfl) ?_
                    refine lv_iload hx hb d_M_may_153 (lv_at hl 0 rfl) ?_
                    refine va_calli (va_runV (As := [.int (nI (enc9 (sitAft A i q)))]) (rest := []) ⟨hx, hb, hml, hown, hts⟩ (c_M_canBeEmptied l X G A Af (enc9 (sitAft A i q)) hR hRR hlt9 (by rw [hd9]; exact ok9_sitAft hI hi hq h63)) (cwV 1 hts (gV (wd_3 14 rfl rfl) (wd_3 16 rfl rfl) (wd_s 15 rfl) (wd_1 6 rfl rfl) (wd_3 17 rfl rfl)) rfl rfl rfl ⟨rfl, hd_M_canBeEmptied⟩ ⟨Nat.le_of_ble_eq_true rfl, Nat.le_of_ble_eq_true rfl⟩) (vx_preV (P := QW X Af G A) ⟨hP, hD⟩ hK (va_recv hK.1 hP (ci := 6) rfl rw_0)) rfl rfl hl.1 rfl (lv_room (Nat.le_of_ble_eq_true rfl)) d_M_may_155 ⟨Nat.zero_le _, Nat.zero_le _⟩) hS (fun q _ h => h) (fun q h => h) (fun r155 u155 t155 H locs ht hvm hu155 hB hz hk hS => ?_)
                    obtain ⟨hP, hD⟩ := hB
                    rw [ht] at hP
                    obtain ⟨e155, kn155, tr155, tu155, hki155, hu155⟩ := hu155
                    subst e155
                    subst hu155
                    have hP : va_P X.1 classes (rw_ X (rU_st (rU_tu (rU_tr (rU_kn G kn155) tr155) tu155) false) A) H := hP
                    have hD : va_D Af (rw_ X (rU_st (rU_tu (rU_tr (rU_kn G kn155) tr155) tu155) false) A) := hD
                    refine lv_if_ne (tgt := 163) hx hb d_M_may_158 rfl (fun h158 => ?_) (fun h158 => ?_)
                    ·
                      have h158 := b2i_t h158
                      refine lv_iload_n hx hb d_M_may_163 rfl (lv_at hl 3 rfl) ?_
                      refine lv_iload_n hx hb d_M_may_164 rfl (lv_at hl 6 rfl) ?_
                      refine vp_callSi (W.runS (As := [.int (nI (sA_pl A i)), .int (nI q)]) (rest := []) ⟨hx, hb, hml, hown, hts⟩ (c_M_byFront l X (nI (sA_pl A i)) (nI q)) (va_cwS 2 hts (gT (wd_3 66 rfl rfl) (wd_3 67 rfl rfl) (wd_1 6 rfl rfl) (wd_3 68 rfl rfl)) rfl rfl rfl hd_M_byFront ⟨Nat.le_of_ble_eq_true rfl, Nat.le_of_ble_eq_true rfl⟩) (vx_preS (P := fun _ => True) trivial hK) rfl rfl hl.1 rfl (lv_room (Nat.le_of_ble_eq_true rfl)) d_M_may_165 ⟨Nat.zero_le _, Nat.zero_le _⟩) (fun r165 e165 => ?_)
                      subst e165
                      rw [front_nI _ (by omega) _ hq]
                      refine lv_if_eq (tgt := 181) hx hb d_M_may_168 rfl (fun h168 => ?_) (fun h168 => ?_)
                      ·
                        have h168 := b2i_f h168
                        refine lv_aload_n hx hb d_M_may_181 rfl (lv_at hl 4 rfl) ?_
                        refine va_get (D := X.1) (ci := 6) (C := R_Model) (T := F_Model) (N := 24) hx hb hts hin_Model hown hK.1 hP 0 rw_0 rfl 17 (by decide) (hts _ (wd_2 171 rfl rfl)) (fun _ h9 => h9) rfl d_M_may_182 ?_
                        refine lv_if_eq (tgt := 192) hx hb d_M_may_185 rfl (fun h185 => ?_) (fun h185 => ?_)
                        ·
                          have h185 := b2i_f h185
                          refine lv_iconst (v := 0) hx hb d_M_may_192 rfl ?_
                          exact W.iret (v := 0) hx hb hrt (fun t ht hW => ⟨⟨_, ((rU_st (rU_tu (rU_tr (rU_kn G kn155) tr155) tu155) false), A), rfl, ⟨by rw [mayF_nI hI hi hq, mayN, if_neg hun, if_neg (show ¬ leadN _ _ _ _ = false by rw [h63]; decide), if_neg htk, if_neg (show ¬ canE (envA A) (toS (envA A) (sitAft A i q)) = false by rw [← (show canC (envA A) (enc9 (sitAft A i q)) = canE (envA A) (toS (envA A) (sitAft A i q)) from by show canE _ (toS _ (dig9 _)) = _; rw [hd9]), h158]; decide), busyF, if_pos (bnot_f h168), if_neg (nt_of h185)], kn155, tr155, tu155, false, Or.inr hki155, rfl⟩, ⟨by rw [ht]; exact hP, hD⟩⟩, hS.F ht⟩) hS.2.2 d_M_may_193
                        ·
                          have h185 := b2i_t h185
                          refine lv_iconst (v := 5) hx hb d_M_may_188 rfl ?_
                          refine lv_goto (tgt := 193) hx hb d_M_may_189 rfl ?_
                          exact W.iret (v := 5) hx hb hrt (fun t ht hW => ⟨⟨_, ((rU_st (rU_tu (rU_tr (rU_kn G kn155) tr155) tu155) false), A), rfl, ⟨by rw [mayF_nI hI hi hq, mayN, if_neg hun, if_neg (show ¬ leadN _ _ _ _ = false by rw [h63]; decide), if_neg htk, if_neg (show ¬ canE (envA A) (toS (envA A) (sitAft A i q)) = false by rw [← (show canC (envA A) (enc9 (sitAft A i q)) = canE (envA A) (toS (envA A) (sitAft A i q)) from by show canE _ (toS _ (dig9 _)) = _; rw [hd9]), h158]; decide), busyF, if_pos (bnot_f h168), if_pos h185], kn155, tr155, tu155, false, Or.inr hki155, rfl⟩, ⟨by rw [ht]; exact hP, hD⟩⟩, hS.F ht⟩) hS.2.2 d_M_may_193
                      ·
                        have h168 := b2i_t h168
                        refine lv_aload_n hx hb d_M_may_171 rfl (lv_at hl 4 rfl) ?_
                        refine va_get (D := X.1) (ci := 6) (C := R_Model) (T := F_Model) (N := 24) hx hb hts hin_Model hown hK.1 hP 0 rw_0 rfl 16 (by decide) (hts _ (wd_2 170 rfl rfl)) (fun _ h9 => h9) rfl d_M_may_172 ?_
                        refine lv_if_eq (tgt := 192) hx hb d_M_may_175 rfl (fun h175 => ?_) (fun h175 => ?_)
                        ·
                          have h175 := b2i_f h175
                          refine lv_iconst (v := 0) hx hb d_M_may_192 rfl ?_
                          exact W.iret (v := 0) hx hb hrt (fun t ht hW => ⟨⟨_, ((rU_st (rU_tu (rU_tr (rU_kn G kn155) tr155) tu155) false), A), rfl, ⟨by rw [mayF_nI hI hi hq, mayN, if_neg hun, if_neg (show ¬ leadN _ _ _ _ = false by rw [h63]; decide), if_neg htk, if_neg (show ¬ canE (envA A) (toS (envA A) (sitAft A i q)) = false by rw [← (show canC (envA A) (enc9 (sitAft A i q)) = canE (envA A) (toS (envA A) (sitAft A i q)) from by show canE _ (toS _ (dig9 _)) = _; rw [hd9]), h158]; decide), busyF, if_neg (nt_of (bnot_t h168)), if_neg (nt_of h175)], kn155, tr155, tu155, false, Or.inr hki155, rfl⟩, ⟨by rw [ht]; exact hP, hD⟩⟩, hS.F ht⟩) hS.2.2 d_M_may_193
                        ·
                          have h175 := b2i_t h175
                          refine lv_goto (tgt := 188) hx hb d_M_may_178 rfl ?_
                          refine lv_iconst (v := 5) hx hb d_M_may_188 rfl ?_
                          refine lv_goto (tgt := 193) hx hb d_M_may_189 rfl ?_
                          exact W.iret (v := 5) hx hb hrt (fun t ht hW => ⟨⟨_, ((rU_st (rU_tu (rU_tr (rU_kn G kn155) tr155) tu155) false), A), rfl, ⟨by rw [mayF_nI hI hi hq, mayN, if_neg hun, if_neg (show ¬ leadN _ _ _ _ = false by rw [h63]; decide), if_neg htk, if_neg (show ¬ canE (envA A) (toS (envA A) (sitAft A i q)) = false by rw [← (show canC (envA A) (enc9 (sitAft A i q)) = canE (envA A) (toS (envA A) (sitAft A i q)) from by show canE _ (toS _ (dig9 _)) = _; rw [hd9]), h158]; decide), busyF, if_neg (nt_of (bnot_t h168)), if_pos h175], kn155, tr155, tu155, false, Or.inr hki155, rfl⟩, ⟨by rw [ht]; exact hP, hD⟩⟩, hS.F ht⟩) hS.2.2 d_M_may_193
                    ·
                      have h158 := b2i_f h158
                      refine lv_iconst (v := 4) hx hb d_M_may_161 rfl ?_
                      exact W.iret (v := 4) hx hb hrt (fun t ht hW => ⟨⟨_, ((rU_st (rU_tu (rU_tr (rU_kn G kn155) tr155) tu155) false), A), rfl, ⟨by rw [mayF_nI hI hi hq, mayN, if_neg hun, if_neg (show ¬ leadN _ _ _ _ = false by rw [h63]; decide), if_neg htk, if_pos (show canE (envA A) (toS (envA A) (sitAft A i q)) = false by rw [← (show canC (envA A) (enc9 (sitAft A i q)) = canE (envA A) (toS (envA A) (sitAft A i q)) from by show canE _ (toS _ (dig9 _)) = _; rw [hd9])]; exact h158)], kn155, tr155, tu155, false, Or.inr hki155, rfl⟩, ⟨by rw [ht]; exact hP, hD⟩⟩, hS.F ht⟩) hS.2.2 d_M_may_162
                ·
                  refine lv_iload hx hb d_M_may_104 (lv_at hl 0 rfl) ?_
                  refine lv_iload_n hx hb d_M_may_106 rfl (lv_at hl 2 rfl) ?_
                  refine vp_callSi (W.runS (As := [.int (nI (sA_pl A i))]) (rest := [.int (f_M_digitOf A i), .int (f_M_situation A)]) ⟨hx, hb, hml, hown, hts⟩ (c_M_power l X (sA_pl A i) (by omega)) (va_cwS 1 hts (gT (wd_3 7 rfl rfl) (wd_3 8 rfl rfl) (wd_1 6 rfl rfl) (wd_3 9 rfl rfl)) rfl rfl rfl hd_M_power ⟨Nat.le_of_ble_eq_true rfl, Nat.le_of_ble_eq_true rfl⟩) (vx_preS (P := fun _ => True) trivial hK) rfl rfl hl.1 rfl (lv_room (Nat.le_of_ble_eq_true rfl)) d_M_may_107 ⟨Nat.zero_le _, Nat.zero_le _⟩) (fun r107 e107 => ?_)
                  subst e107
                  refine lv_imul hx hb d_M_may_110 ?_
                  refine lv_goto (tgt := 115) hx hb d_M_may_111 rfl ?_
                  refine lv_isub hx hb d_M_may_115 ?_
                  refine lv_istore (lv' := [(6, .int ((f_M_situation A) - ((f_M_digitOf A i) * (f_M_power (sA_pl A i))))), (5, .int (f_M_digitOf A i)), (4, .int (inP A q)), (3, .int (nI (sA_pl A i))), (0, .ref (rA_ad G 0)), (1, .int (nI i)), (2, .int (nI q))]) hx hb d_M_may_116 hl (by decide) rfl (fun ls hl => ?_)
                  rw [sit1_a hI hi (lt5 (by omega) h101)] at hl
                  refine lv_iload_n hx hb d_M_may_118 rfl (lv_at hl 6 rfl) ?_
                  refine lv_iconst (v := 5) hx hb d_M_may_119 rfl ?_
                  refine lv_icmp_ne (tgt := 128) hx hb d_M_may_120 rfl (fun h120 => ?_) (fun h120 => ?_)
                  ·
                    refine lv_iload hx hb d_M_may_128 (lv_at hl 0 rfl) ?_
                    refine lv_iload_n hx hb d_M_may_130 rfl (lv_at hl 6 rfl) ?_
                    refine vp_callSi (W.runS (As := [.int (nI q)]) (rest := [.int (nI (enc9 (sit1 A i)))]) ⟨hx, hb, hml, hown, hts⟩ (c_M_power l X q (by omega)) (va_cwS 1 hts (gT (wd_3 7 rfl rfl) (wd_3 8 rfl rfl) (wd_1 6 rfl rfl) (wd_3 9 rfl rfl)) rfl rfl rfl hd_M_power ⟨Nat.le_of_ble_eq_true rfl, Nat.le_of_ble_eq_true rfl⟩) (vx_preS (P := fun _ => True) trivial hK) rfl rfl hl.1 rfl (lv_room (Nat.le_of_ble_eq_true rfl)) d_M_may_131 ⟨Nat.zero_le _, Nat.zero_le _⟩) (fun r131 e131 => ?_)
                    subst e131
                    refine lv_iload_n hx hb d_M_may_134 rfl (lv_at hl 6 rfl) ?_
                    refine lv_iconst (v := 4) hx hb d_M_may_135 rfl ?_
                    refine lv_icmp_ge (tgt := 146) hx hb d_M_may_136 rfl (fun h136 => ?_) (fun h136 => ?_)
                    ·
                      refine lv_iload hx hb d_M_may_146 (lv_at hl 1 rfl) ?_
                      refine lv_imul hx hb d_M_may_148 ?_
                      refine lv_iadd hx hb d_M_may_149 ?_
                      refine lv_istore (lv' := [(6, .int ((nI (enc9 (sit1 A i))) + ((f_M_power q) * (f_M_digitOf A i)))), (5, .int (f_M_digitOf A i)), (4, .int (inP A q)), (3, .int (nI (sA_pl A i))), (0, .ref (rA_ad G 0)), (1, .int (nI i)), (2, .int (nI q))]) hx hb d_M_may_150 hl (by decide) rfl (fun ls hl => ?_)
                      rw [code_4 hI hi hq (fun z => h120 (by rw [z]; rfl)) (ge4 hq h136) htk] at hl
                      obtain ⟨hd9, hlt9⟩ := sitAft_d hI hi hq h63
                      refine lv_aload_n hx hb d_M_may_152 rfl (lv_at hl 4 rfl) ?_
                      refine lv_iload hx hb d_M_may_153 (lv_at hl 0 rfl) ?_
                      refine va_calli (va_runV (As := [.int (nI (enc9 (sitAft A i q)))]) (rest := []) ⟨hx, hb, hml, hown, hts⟩ (c_M_canBeEmptied l X G A Af (enc9 (sitAft A i q)) hR hRR hlt9 (by rw [hd9]; exact ok9_sitAft hI hi hq h63)) (cwV 1 hts (gV (wd_3 14 rfl rfl) (wd_3 16 rfl rfl) (wd_s 15 rfl) (wd_1 6 rfl rfl) (wd_3 17 rfl rfl)) rfl rfl rfl ⟨rfl, hd_M_canBeEmptied⟩ ⟨Nat.le_of_ble_eq_true rfl, Nat.le_of_ble_eq_true rfl⟩) (vx_preV (P := QW X Af G A) ⟨hP, hD⟩ hK (va_recv hK.1 hP (ci := 6) rfl rw_0)) rfl rfl hl.1 rfl (lv_room (Nat.le_of_ble_eq_true rfl)) d_M_may_155 ⟨Nat.zero_le _, Nat.zero_le _⟩) hS (fun q _ h => h) (fun q h => h) (fun r155 u155 t155 H locs ht hvm hu155 hB hz hk hS => ?_)
                      obtain ⟨hP, hD⟩ := hB
                      rw [ht] at hP
                      obtain ⟨e155, kn155, tr155, tu155, hki155, hu155⟩ := hu155
                      subst e155
                      subst hu155
                      have hP : va_P X.1 classes (rw_ X (rU_st (rU_tu (rU_tr (rU_kn G kn155) tr155) tu155) false) A) H := hP
                      have hD : va_D Af (rw_ X (rU_st (rU_tu (rU_tr (rU_kn G kn155) tr155) tu155) false) A) := hD
                      refine lv_if_ne (tgt := 163) hx hb d_M_may_158 rfl (fun h158 => ?_) (fun h158 => ?_)
                      ·
                        have h158 := b2i_t h158
                        refine lv_iload_n hx hb d_M_may_163 rfl (lv_at hl 3 rfl) ?_
                        refine lv_iload_n hx hb d_M_may_164 rfl (lv_at hl 6 rfl) ?_
                        refine vp_callSi (W.runS (As := [.int (nI (sA_pl A i)), .int (nI q)]) (rest := []) ⟨hx, hb, hml, hown, hts⟩ (c_M_byFront l X (nI (sA_pl A i)) (nI q)) (va_cwS 2 hts (gT (wd_3 66 rfl rfl) (wd_3 67 rfl rfl) (wd_1 6 rfl rfl) (wd_3 68 rfl rfl)) rfl rfl rfl hd_M_byFront ⟨Nat.le_of_ble_eq_true rfl, Nat.le_of_ble_eq_true rfl⟩) (vx_preS (P := fun _ => True) trivial hK) rfl rfl hl.1 rfl (lv_room (Nat.le_of_ble_eq_true rfl)) d_M_may_165 ⟨Nat.zero_le _, Nat.zero_le _⟩) (fun r165 e165 => ?_)
                        subst e165
                        rw [front_nI _ (by omega) _ hq]
                        refine lv_if_eq (tgt := 181) hx hb d_M_may_168 rfl (fun h168 => ?_) (fun h168 => ?_)
                        ·
                          have h168 := b2i_f h168
                          refine lv_aload_n hx hb d_M_may_181 rfl (lv_at hl 4 rfl) ?_
                          refine va_get (D := X.1) (ci := 6) (C := R_Model) (T := F_Model) (N := 24) hx hb hts hin_Model hown hK.1 hP 0 rw_0 rfl 17 (by decide) (hts _ (wd_2 171 rfl rfl)) (fun _ h9 => h9) rfl d_M_may_182 ?_
                          refine lv_if_eq (tgt := 192) hx hb d_M_may_185 rfl (fun h185 => ?_) (fun h185 => ?_)
                          ·
                            have h185 := b2i_f h185
                            refine lv_iconst (v := 0) hx hb d_M_may_192 rfl ?_
                            exact W.iret (v := 0) hx hb hrt (fun t ht hW => ⟨⟨_, ((rU_st (rU_tu (rU_tr (rU_kn G kn155) tr155) tu155) false), A), rfl, ⟨by rw [mayF_nI hI hi hq, mayN, if_neg hun, if_neg (show ¬ leadN _ _ _ _ = false by rw [h63]; decide), if_neg htk, if_neg (show ¬ canE (envA A) (toS (envA A) (sitAft A i q)) = false by rw [← (show canC (envA A) (enc9 (sitAft A i q)) = canE (envA A) (toS (envA A) (sitAft A i q)) from by show canE _ (toS _ (dig9 _)) = _; rw [hd9]), h158]; decide), busyF, if_pos (bnot_f h168), if_neg (nt_of h185)], kn155, tr155, tu155, false, Or.inr hki155, rfl⟩, ⟨by rw [ht]; exact hP, hD⟩⟩, hS.F ht⟩) hS.2.2 d_M_may_193
                          ·
                            have h185 := b2i_t h185
                            refine lv_iconst (v := 5) hx hb d_M_may_188 rfl ?_
                            refine lv_goto (tgt := 193) hx hb d_M_may_189 rfl ?_
                            exact W.iret (v := 5) hx hb hrt (fun t ht hW => ⟨⟨_, ((rU_st (rU_tu (rU_tr (rU_kn G kn155) tr155) tu155) false), A), rfl, ⟨by rw [mayF_nI hI hi hq, mayN, if_neg hun, if_neg (show ¬ leadN _ _ _ _ = false by rw [h63]; decide), if_neg htk, if_neg (show ¬ canE (envA A) (toS (envA A) (sitAft A i q)) = false by rw [← (show canC (envA A) (enc9 (sitAft A i q)) = canE (envA A) (toS (envA A) (sitAft A i q)) from by show canE _ (toS _ (dig9 _)) = _; rw [hd9]), h158]; decide), busyF, if_pos (bnot_f h168), if_pos h185], kn155, tr155, tu155, false, Or.inr hki155, rfl⟩, ⟨by rw [ht]; exact hP, hD⟩⟩, hS.F ht⟩) hS.2.2 d_M_may_193
                        ·
                          have h168 := b2i_t h168
                          refine lv_aload_n hx hb d_M_may_171 rfl (lv_at hl 4 rfl) ?_
                          refine va_get (D := X.1) (ci := 6) (C := R_Model) (T := F_Model) (N := 24) hx hb hts hin_Model hown hK.1 hP 0 rw_0 rfl 16 (by decide) (hts _ (wd_2 170 rfl rfl)) (fun _ h9 => h9) rfl d_M_may_172 ?_
                          refine lv_if_eq (tgt := 192) hx hb d_M_may_175 rfl (fun h175 => ?_) (fun h175 => ?_)
                          ·
                            have h175 := b2i_f h175
                            refine lv_iconst (v := 0) hx hb d_M_may_192 rfl ?_
                            exact W.iret (v := 0) hx hb hrt (fun t ht hW => ⟨⟨_, ((rU_st (rU_tu (rU_tr (rU_kn G kn155) tr155) tu155) false), A), rfl, ⟨by rw [mayF_nI hI hi hq, mayN, if_neg hun, if_neg (show ¬ leadN _ _ _ _ = false by rw [h63]; decide), if_neg htk, if_neg (show ¬ canE (envA A) (toS (envA A) (sitAft A i q)) = false by rw [← (show canC (envA A) (enc9 (sitAft A i q)) = canE (envA A) (toS (envA A) (sitAft A i q)) from by show canE _ (toS _ (dig9 _)) = _; rw [hd9]), h158]; decide), busyF, if_neg (nt_of (bnot_t h168)), if_neg (nt_of h175)], kn155, tr155, tu155, false, Or.inr hki155, rfl⟩, ⟨by rw [ht]; exact hP, hD⟩⟩, hS.F ht⟩) hS.2.2 d_M_may_193
                          ·
                            have h175 := b2i_t h175
                            refine lv_goto (tgt := 188) hx hb d_M_may_178 rfl ?_
                            refine lv_iconst (v := 5) hx hb d_M_may_188 rfl ?_
                            refine lv_goto (tgt := 193) hx hb d_M_may_189 rfl ?_
                            exact W.iret (v := 5) hx hb hrt (fun t ht hW => ⟨⟨_, ((rU_st (rU_tu (rU_tr (rU_kn G kn155) tr155) tu155) false), A), rfl, ⟨by rw [mayF_nI hI hi hq, mayN, if_neg hun, if_neg (show ¬ leadN _ _ _ _ = false by rw [h63]; decide), if_neg htk, if_neg (show ¬ canE (envA A) (toS (envA A) (sitAft A i q)) = false by rw [← (show canC (envA A) (enc9 (sitAft A i q)) = canE (envA A) (toS (envA A) (sitAft A i q)) from by show canE _ (toS _ (dig9 _)) = _; rw [hd9]), h158]; decide), busyF, if_neg (nt_of (bnot_t h168)), if_pos h175], kn155, tr155, tu155, false, Or.inr hki155, rfl⟩, ⟨by rw [ht]; exact hP, hD⟩⟩, hS.F ht⟩) hS.2.2 d_M_may_193
                      ·
                        have h158 := b2i_f h158
                        refine lv_iconst (v := 4) hx hb d_M_may_161 rfl ?_
                        exact W.iret (v := 4) hx hb hrt (fun t ht hW => ⟨⟨_, ((rU_st (rU_tu (rU_tr (rU_kn G kn155) tr155) tu155) false), A), rfl, ⟨by rw [mayF_nI hI hi hq, mayN, if_neg hun, if_neg (show ¬ leadN _ _ _ _ = false by rw [h63]; decide), if_neg htk, if_pos (show canE (envA A) (toS (envA A) (sitAft A i q)) = false by rw [← (show canC (envA A) (enc9 (sitAft A i q)) = canE (envA A) (toS (envA A) (sitAft A i q)) from by show canE _ (toS _ (dig9 _)) = _; rw [hd9])]; exact h158)], kn155, tr155, tu155, false, Or.inr hki155, rfl⟩, ⟨by rw [ht]; exact hP, hD⟩⟩, hS.F ht⟩) hS.2.2 d_M_may_162
                    ·
                      refine lv_iload hx hb d_M_may_139 (lv_at hl 1 rfl) ?_
                      refine lv_iconst (v := 1) hx hb d_M_may_141 rfl ?_
                      refine lv_iadd hx hb d_M_may_142 ?_
                      refine lv_goto (tgt := 148) hx hb d_M_may_143 rfl ?_
                      refine lv_imul hx hb d_M_may_148 ?_
                      refine lv_iadd hx hb d_M_may_149 ?_
                      refine lv_istore (lv' := [(6, .int ((nI (enc9 (sit1 A i))) + ((f_M_power q) * ((f_M_digitOf A i) + 1)))), (5, .int (f_M_digitOf A i)), (4, .int (inP A q)), (3, .int (nI (sA_pl A i))), (0, .ref (rA_ad G 0)), (1, .int (nI i)), (2, .int (nI q))]) hx hb d_M_may_150 hl (by decide) rfl (fun ls hl => ?_)
                      rw [code_3 hI hi (lt4 hq h136) htk] at hl
                      obtain ⟨hd9, hlt9⟩ := sitAft_d hI hi hq h63
                      refine lv_aload_n hx hb d_M_may_152 rfl (lv_at hl 4 rfl) ?_
                      refine lv_iload hx hb d_M_may_153 (lv_at hl 0 rfl) ?_
                      refine va_calli (va_runV (As := [.int (nI (enc9 (sitAft A i q)))]) (rest := []) ⟨hx, hb, hml, hown, hts⟩ (c_M_canBeEmptied l X G A Af (enc9 (sitAft A i q)) hR hRR hlt9 (by rw [hd9]; exact ok9_sitAft hI hi hq h63)) (cwV 1 hts (gV (wd_3 14 rfl rfl) (wd_3 16 rfl rfl) (wd_s 15 rfl) (wd_1 6 rfl rfl) (wd_3 17 rfl rfl)) rfl rfl rfl ⟨rfl, hd_M_canBeEmptied⟩ ⟨Nat.le_of_ble_eq_true rfl, Nat.le_of_ble_eq_true rfl⟩) (vx_preV (P := QW X Af G A) ⟨hP, hD⟩ hK (va_recv hK.1 hP (ci := 6) rfl rw_0)) rfl rfl hl.1 rfl (lv_room (Nat.le_of_ble_eq_true rfl)) d_M_may_155 ⟨Nat.zero_le _, Nat.zero_le _⟩) hS (fun q _ h => h) (fun q h => h) (fun r155 u155 t155 H locs ht hvm hu155 hB hz hk hS => ?_)
                      obtain ⟨hP, hD⟩ := hB
                      rw [ht] at hP
                      obtain ⟨e155, kn155, tr155, tu155, hki155, hu155⟩ := hu155
                      subst e155
                      subst hu155
                      have hP : va_P X.1 classes (rw_ X (rU_st (rU_tu (rU_tr (rU_kn G kn155) tr155) tu155) false) A) H := hP
                      have hD : va_D Af (rw_ X (rU_st (rU_tu (rU_tr (rU_kn G kn155) tr155) tu155) false) A) := hD
                      refine lv_if_ne (tgt := 163) hx hb d_M_may_158 rfl (fun h158 => ?_) (fun h158 => ?_)
                      ·
                        have h158 := b2i_t h158
                        refine lv_iload_n hx hb d_M_may_163 rfl (lv_at hl 3 rfl) ?_
                        refine lv_iload_n hx hb d_M_may_164 rfl (lv_at hl 6 rfl) ?_
                        refine vp_callSi (W.runS (As := [.int (nI (sA_pl A i)), .int (nI q)]) (rest := []) ⟨hx, hb, hml, hown, hts⟩ (c_M_byFront l X (nI (sA_pl A i)) (nI q)) (va_cwS 2 hts (gT (wd_3 66 rfl rfl) (wd_3 67 rfl rfl) (wd_1 6 rfl rfl) (wd_3 68 rfl rfl)) rfl rfl rfl hd_M_byFront ⟨Nat.le_of_ble_eq_true rfl, Nat.le_of_ble_eq_true rfl⟩) (vx_preS (P := fun _ => True) trivial hK) rfl rfl hl.1 rfl (lv_room (Nat.le_of_ble_eq_true rfl)) d_M_may_165 ⟨Nat.zero_le _, Nat.zero_le _⟩) (fun r165 e165 => ?_)
                        subst e165
                        rw [front_nI _ (by omega) _ hq]
                        refine lv_if_eq (tgt := 181) hx hb d_M_may_168 rfl (fun h168 => ?_) (fun h168 => ?_)
                        ·
                          have h168 := b2i_f h168
                          refine lv_aload_n hx hb d_M_may_181 rfl (lv_at hl 4 rfl) ?_
                          refine va_get (D := X.1) (ci := 6) (C := R_Model) (T := F_Model) (N := 24) hx hb hts hin_Model hown hK.1 hP 0 rw_0 rfl 17 (by decide) (hts _ (wd_2 171 rfl rfl)) (fun _ h9 => h9) rfl d_M_may_182 ?_
                          refine lv_if_eq (tgt := 192) hx hb d_M_may_185 rfl (fun h185 => ?_) (fun h185 => ?_)
                          ·
                            have h185 := b2i_f h185
                            refine lv_iconst (v := 0) hx hb d_M_may_192 rfl ?_
                            exact W.iret (v := 0) hx hb hrt (fun t ht hW => ⟨⟨_, ((rU_st (rU_tu (rU_tr (rU_kn G kn155) tr155) tu155) false), A), rfl, ⟨by rw [mayF_nI hI hi hq, mayN, if_neg hun, if_neg (show ¬ leadN _ _ _ _ = false by rw [h63]; decide), if_neg htk, if_neg (show ¬ canE (envA A) (toS (envA A) (sitAft A i q)) = false by rw [← (show canC (envA A) (enc9 (sitAft A i q)) = canE (envA A) (toS (envA A) (sitAft A i q)) from by show canE _ (toS _ (dig9 _)) = _; rw [hd9]), h158]; decide), busyF, if_pos (bnot_f h168), if_neg (nt_of h185)], kn155, tr155, tu155, false, Or.inr hki155, rfl⟩, ⟨by rw [ht]; exact hP, hD⟩⟩, hS.F ht⟩) hS.2.2 d_M_may_193
                          ·
                            have h185 := b2i_t h185
                            refine lv_iconst (v := 5) hx hb d_M_may_188 rfl ?_
                            refine lv_goto (tgt := 193) hx hb d_M_may_189 rfl ?_
                            exact W.iret (v := 5) hx hb hrt (fun t ht hW => ⟨⟨_, ((rU_st (rU_tu (rU_tr (rU_kn G kn155) tr155) tu155) false), A), rfl, ⟨by rw [mayF_nI hI hi hq, mayN, if_neg hun, if_neg (show ¬ leadN _ _ _ _ = false by rw [h63]; decide), if_neg htk, if_neg (show ¬ canE (envA A) (toS (envA A) (sitAft A i q)) = false by rw [← (show canC (envA A) (enc9 (sitAft A i q)) = canE (envA A) (toS (envA A) (sitAft A i q)) from by show canE _ (toS _ (dig9 _)) = _; rw [hd9]), h158]; decide), busyF, if_pos (bnot_f h168), if_pos h185], kn155, tr155, tu155, false, Or.inr hki155, rfl⟩, ⟨by rw [ht]; exact hP, hD⟩⟩, hS.F ht⟩) hS.2.2 d_M_may_193
                        ·
                          have h168 := b2i_t h168
                          refine lv_aload_n hx hb d_M_may_171 rfl (lv_at hl 4 rfl) ?_
                          refine va_get (D := X.1) (ci := 6) (C := R_Model) (T := F_Model) (N := 24) hx hb hts hin_Model hown hK.1 hP 0 rw_0 rfl 16 (by decide) (hts _ (wd_2 170 rfl rfl)) (fun _ h9 => h9) rfl d_M_may_172 ?_
                          refine lv_if_eq (tgt := 192) hx hb d_M_may_175 rfl (fun h175 => ?_) (fun h175 => ?_)
                          ·
                            have h175 := b2i_f h175
                            refine lv_iconst (v := 0) hx hb d_M_may_192 rfl ?_
                            exact W.iret (v := 0) hx hb hrt (fun t ht hW => ⟨⟨_, ((rU_st (rU_tu (rU_tr (rU_kn G kn155) tr155) tu155) false), A), rfl, ⟨by rw [mayF_nI hI hi hq, mayN, if_neg hun, if_neg (show ¬ leadN _ _ _ _ = false by rw [h63]; decide), if_neg htk, if_neg (show ¬ canE (envA A) (toS (envA A) (sitAft A i q)) = false by rw [← (show canC (envA A) (enc9 (sitAft A i q)) = canE (envA A) (toS (envA A) (sitAft A i q)) from by show canE _ (toS _ (dig9 _)) = _; rw [hd9]), h158]; decide), busyF, if_neg (nt_of (bnot_t h168)), if_neg (nt_of h175)], kn155, tr155, tu155, false, Or.inr hki155, rfl⟩, ⟨by rw [ht]; exact hP, hD⟩⟩, hS.F ht⟩) hS.2.2 d_M_may_193
                          ·
                            have h175 := b2i_t h175
                            refine lv_goto (tgt := 188) hx hb d_M_may_178 rfl ?_
                            refine lv_iconst (v := 5) hx hb d_M_may_188 rfl ?_
                            refine lv_goto (tgt := 193) hx hb d_M_may_189 rfl ?_
                            exact W.iret (v := 5) hx hb hrt (fun t ht hW => ⟨⟨_, ((rU_st (rU_tu (rU_tr (rU_kn G kn155) tr155) tu155) false), A), rfl, ⟨by rw [mayF_nI hI hi hq, mayN, if_neg hun, if_neg (show ¬ leadN _ _ _ _ = false by rw [h63]; decide), if_neg htk, if_neg (show ¬ canE (envA A) (toS (envA A) (sitAft A i q)) = false by rw [← (show canC (envA A) (enc9 (sitAft A i q)) = canE (envA A) (toS (envA A) (sitAft A i q)) from by show canE _ (toS _ (dig9 _)) = _; rw [hd9]), h158]; decide), busyF, if_neg (nt_of (bnot_t h168)), if_pos h175], kn155, tr155, tu155, false, Or.inr hki155, rfl⟩, ⟨by rw [ht]; exact hP, hD⟩⟩, hS.F ht⟩) hS.2.2 d_M_may_193
                      ·
                        have h158 := b2i_f h158
                        refine lv_iconst (v := 4) hx hb d_M_may_161 rfl ?_
                        exact W.iret (v := 4) hx hb hrt (fun t ht hW => ⟨⟨_, ((rU_st (rU_tu (rU_tr (rU_kn G kn155) tr155) tu155) false), A), rfl, ⟨by rw [mayF_nI hI hi hq, mayN, if_neg hun, if_neg (show ¬ leadN _ _ _ _ = false by rw [h63]; decide), if_neg htk, if_pos (show canE (envA A) (toS (envA A) (sitAft A i q)) = false by rw [← (show canC (envA A) (enc9 (sitAft A i q)) = canE (envA A) (toS (envA A) (sitAft A i q)) from by show canE _ (toS _ (dig9 _)) = _; rw [hd9])]; exact h158)], kn155, tr155, tu155, false, Or.inr hki155, rfl⟩, ⟨by rw [ht]; exact hP, hD⟩⟩, hS.F ht⟩) hS.2.2 d_M_may_162
                  ·
                    refine lv_iload hx hb d_M_may_123 (lv_at hl 0 rfl) ?_
                    refine lv_goto (tgt := 150) hx hb d_M_may_125 rfl ?_
                    refine lv_istore (lv' := [(6, .int (nI (enc9 (sit1 A i)))), (5, .int (f_M_digitOf A i)), (4, .int (inP A q)), (3, .int (nI (sA_pl A i))), (0, .ref (rA_ad G 0)), (1, .int (nI i)), (2, .int (nI q))]) hx hb d_M_may_150 hl (by decide) rfl (fun ls hl => ?_)
                    rw [← sitAft_5 (pl5 (by omega) h120)] at hl
                    have hl := hl
                    obtain ⟨hd9, hlt9⟩ := sitAft_d hI hi hq h63
                    refine lv_aload_n hx hb d_M_may_152 rfl (lv_at hl 4 rfl) ?_
                    refine lv_iload hx hb d_M_may_153 (lv_at hl 0 rfl) ?_
                    refine va_calli (va_runV (As := [.int (nI (enc9 (sitAft A i q)))]) (rest := []) ⟨hx, hb, hml, hown, hts⟩ (c_M_canBeEmptied l X G A Af (enc9 (sitAft A i q)) hR hRR hlt9 (by rw [hd9]; exact ok9_sitAft hI hi hq h63)) (cwV 1 hts (gV (wd_3 14 rfl rfl) (wd_3 16 rfl rfl) (wd_s 15 rfl) (wd_1 6 rfl rfl) (wd_3 17 rfl rfl)) rfl rfl rfl ⟨rfl, hd_M_canBeEmptied⟩ ⟨Nat.le_of_ble_eq_true rfl, Nat.le_of_ble_eq_true rfl⟩) (vx_preV (P := QW X Af G A) ⟨hP, hD⟩ hK (va_recv hK.1 hP (ci := 6) rfl rw_0)) rfl rfl hl.1 rfl (lv_room (Nat.le_of_ble_eq_true rfl)) d_M_may_155 ⟨Nat.zero_le _, Nat.zero_le _⟩) hS (fun q _ h => h) (fun q h => h) (fun r155 u155 t155 H locs ht hvm hu155 hB hz hk hS => ?_)
                    obtain ⟨hP, hD⟩ := hB
                    rw [ht] at hP
                    obtain ⟨e155, kn155, tr155, tu155, hki155, hu155⟩ := hu155
                    subst e155
                    subst hu155
                    have hP : va_P X.1 classes (rw_ X (rU_st (rU_tu (rU_tr (rU_kn G kn155) tr155) tu155) false) A) H := hP
                    have hD : va_D Af (rw_ X (rU_st (rU_tu (rU_tr (rU_kn G kn155) tr155) tu155) false) A) := hD
                    refine lv_if_ne (tgt := 163) hx hb d_M_may_158 rfl (fun h158 => ?_) (fun h158 => ?_)
                    ·
                      have h158 := b2i_t h158
                      refine lv_iload_n hx hb d_M_may_163 rfl (lv_at hl 3 rfl) ?_
                      refine lv_iload_n hx hb d_M_may_164 rfl (lv_at hl 6 rfl) ?_
                      refine vp_callSi (W.runS (As := [.int (nI (sA_pl A i)), .int (nI q)]) (rest := []) ⟨hx, hb, hml, hown, hts⟩ (c_M_byFront l X (nI (sA_pl A i)) (nI q)) (va_cwS 2 hts (gT (wd_3 66 rfl rfl) (wd_3 67 rfl rfl) (wd_1 6 rfl rfl) (wd_3 68 rfl rfl)) rfl rfl rfl hd_M_byFront ⟨Nat.le_of_ble_eq_true rfl, Nat.le_of_ble_eq_true rfl⟩) (vx_preS (P := fun _ => True) trivial hK) rfl rfl hl.1 rfl (lv_room (Nat.le_of_ble_eq_true rfl)) d_M_may_165 ⟨Nat.zero_le _, Nat.zero_le _⟩) (fun r165 e165 => ?_)
                      subst e165
                      rw [front_nI _ (by omega) _ hq]
                      refine lv_if_eq (tgt := 181) hx hb d_M_may_168 rfl (fun h168 => ?_) (fun h168 => ?_)
                      ·
                        have h168 := b2i_f h168
                        refine lv_aload_n hx hb d_M_may_181 rfl (lv_at hl 4 rfl) ?_
                        refine va_get (D := X.1) (ci := 6) (C := R_Model) (T := F_Model) (N := 24) hx hb hts hin_Model hown hK.1 hP 0 rw_0 rfl 17 (by decide) (hts _ (wd_2 171 rfl rfl)) (fun _ h9 => h9) rfl d_M_may_182 ?_
                        refine lv_if_eq (tgt := 192) hx hb d_M_may_185 rfl (fun h185 => ?_) (fun h185 => ?_)
                        ·
                          have h185 := b2i_f h185
                          refine lv_iconst (v := 0) hx hb d_M_may_192 rfl ?_
                          exact W.iret (v := 0) hx hb hrt (fun t ht hW => ⟨⟨_, ((rU_st (rU_tu (rU_tr (rU_kn G kn155) tr155) tu155) false), A), rfl, ⟨by rw [mayF_nI hI hi hq, mayN, if_neg hun, if_neg (show ¬ leadN _ _ _ _ = false by rw [h63]; decide), if_neg htk, if_neg (show ¬ canE (envA A) (toS (envA A) (sitAft A i q)) = false by rw [← (show canC (envA A) (enc9 (sitAft A i q)) = canE (envA A) (toS (envA A) (sitAft A i q)) from by show canE _ (toS _ (dig9 _)) = _; rw [hd9]), h158]; decide), busyF, if_pos (bnot_f h168), if_neg (nt_of h185)], kn155, tr155, tu155, false, Or.inr hki155, rfl⟩, ⟨by rw [ht]; exact hP, hD⟩⟩, hS.F ht⟩) hS.2.2 d_M_may_193
                        ·
                          have h185 := b2i_t h185
                          refine lv_iconst (v := 5) hx hb d_M_may_188 rfl ?_
                          refine lv_goto (tgt := 193) hx hb d_M_may_189 rfl ?_
                          exact W.iret (v := 5) hx hb hrt (fun t ht hW => ⟨⟨_, ((rU_st (rU_tu (rU_tr (rU_kn G kn155) tr155) tu155) false), A), rfl, ⟨by rw [mayF_nI hI hi hq, mayN, if_neg hun, if_neg (show ¬ leadN _ _ _ _ = false by rw [h63]; decide), if_neg htk, if_neg (show ¬ canE (envA A) (toS (envA A) (sitAft A i q)) = false by rw [← (show canC (envA A) (enc9 (sitAft A i q)) = canE (envA A) (toS (envA A) (sitAft A i q)) from by show canE _ (toS _ (dig9 _)) = _; rw [hd9]), h158]; decide), busyF, if_pos (bnot_f h168), if_pos h185], kn155, tr155, tu155, false, Or.inr hki155, rfl⟩, ⟨by rw [ht]; exact hP, hD⟩⟩, hS.F ht⟩) hS.2.2 d_M_may_193
                      ·
                        have h168 := b2i_t h168
                        refine lv_aload_n hx hb d_M_may_171 rfl (lv_at hl 4 rfl) ?_
                        refine va_get (D := X.1) (ci := 6) (C := R_Model) (T := F_Model) (N := 24) hx hb hts hin_Model hown hK.1 hP 0 rw_0 rfl 16 (by decide) (hts _ (wd_2 170 rfl rfl)) (fun _ h9 => h9) rfl d_M_may_172 ?_
                        refine lv_if_eq (tgt := 192) hx hb d_M_may_175 rfl (fun h175 => ?_) (fun h175 => ?_)
                        ·
                          have h175 := b2i_f h175
                          refine lv_iconst (v := 0) hx hb d_M_may_192 rfl ?_
                          exact W.iret (v := 0) hx hb hrt (fun t ht hW => ⟨⟨_, ((rU_st (rU_tu (rU_tr (rU_kn G kn155) tr155) tu155) false), A), rfl, ⟨by rw [mayF_nI hI hi hq, mayN, if_neg hun, if_neg (show ¬ leadN _ _ _ _ = false by rw [h63]; decide), if_neg htk, if_neg (show ¬ canE (envA A) (toS (envA A) (sitAft A i q)) = false by rw [← (show canC (envA A) (enc9 (sitAft A i q)) = canE (envA A) (toS (envA A) (sitAft A i q)) from by show canE _ (toS _ (dig9 _)) = _; rw [hd9]), h158]; decide), busyF, if_neg (nt_of (bnot_t h168)), if_neg (nt_of h175)], kn155, tr155, tu155, false, Or.inr hki155, rfl⟩, ⟨by rw [ht]; exact hP, hD⟩⟩, hS.F ht⟩) hS.2.2 d_M_may_193
                        ·
                          have h175 := b2i_t h175
                          refine lv_goto (tgt := 188) hx hb d_M_may_178 rfl ?_
                          refine lv_iconst (v := 5) hx hb d_M_may_188 rfl ?_
                          refine lv_goto (tgt := 193) hx hb d_M_may_189 rfl ?_
                          exact W.iret (v := 5) hx hb hrt (fun t ht hW => ⟨⟨_, ((rU_st (rU_tu (rU_tr (rU_kn G kn155) tr155) tu155) false), A), rfl, ⟨by rw [mayF_nI hI hi hq, mayN, if_neg hun, if_neg (show ¬ leadN _ _ _ _ = false by rw [h63]; decide), if_neg htk, if_neg (show ¬ canE (envA A) (toS (envA A) (sitAft A i q)) = false by rw [← (show canC (envA A) (enc9 (sitAft A i q)) = canE (envA A) (toS (envA A) (sitAft A i q)) from by show canE _ (toS _ (dig9 _)) = _; rw [hd9]), h158]; decide), busyF, if_neg (nt_of (bnot_t h168)), if_pos h175], kn155, tr155, tu155, false, Or.inr hki155, rfl⟩, ⟨by rw [ht]; exact hP, hD⟩⟩, hS.F ht⟩) hS.2.2 d_M_may_193
                    ·
                      have h158 := b2i_f h158
                      refine lv_iconst (v := 4) hx hb d_M_may_161 rfl ?_
                      exact W.iret (v := 4) hx hb hrt (fun t ht hW => ⟨⟨_, ((rU_st (rU_tu (rU_tr (rU_kn G kn155) tr155) tu155) false), A), rfl, ⟨by rw [mayF_nI hI hi hq, mayN, if_neg hun, if_neg (show ¬ leadN _ _ _ _ = false by rw [h63]; decide), if_neg htk, if_pos (show canE (envA A) (toS (envA A) (sitAft A i q)) = false by rw [← (show canC (envA A) (enc9 (sitAft A i q)) = canE (envA A) (toS (envA A) (sitAft A i q)) from by show canE _ (toS _ (dig9 _)) = _; rw [hd9])]; exact h158)], kn155, tr155, tu155, false, Or.inr hki155, rfl⟩, ⟨by rw [ht]; exact hP, hD⟩⟩, hS.F ht⟩) hS.2.2 d_M_may_162
              ·
                refine lv_iload hx hb d_M_may_80 (lv_at hl 0 rfl) ?_
                refine lv_iload_n hx hb d_M_may_82 rfl (lv_at hl 3 rfl) ?_
                refine lv_icmp_eq (tgt := 88) hx hb d_M_may_83 rfl (fun h83 => ?_) (fun h83 => ?_)
                ·
                  have htk := tak_no hI hi hq (Or.inr h83)
                  refine lv_aload_n hx hb d_M_may_88 rfl (lv_at hl 2 rfl) ?_
                  refine lv_iload_n hx hb d_M_may_89 rfl (lv_at hl 3 rfl) ?_
                  refine vp_callSi (W.runV (As := [.int (nI i)]) (rest := []) ⟨hx, hb, hml, hown, hts⟩ (c_M_digitOf l X G A i hI hi) (cwV 1 hts (gV (wd_3 10 rfl rfl) (wd_3 12 rfl rfl) (wd_s 14 rfl) (wd_1 6 rfl rfl) (wd_3 13 rfl rfl)) rfl rfl rfl ⟨rfl, hd_M_digitOf⟩ ⟨Nat.le_of_ble_eq_true rfl, Nat.le_of_ble_eq_true rfl⟩) (vx_preV (P := QR X G A) hP hK (va_recv hK.1 hP (ci := 6) rfl rw_0)) rfl rfl hl.1 rfl (lv_room (Nat.le_of_ble_eq_true rfl)) d_M_may_90 ⟨Nat.zero_le _, Nat.zero_le _⟩) (fun r90 e90 => ?_)
                  subst e90
                  refine lv_istore (lv' := [(5, .int (f_M_digitOf A i)), (4, .int (inP A q)), (3, .int (nI (sA_pl A i))), (0, .ref (rA_ad G 0)), (1, .int (nI i)), (2, .int (nI q))]) hx hb d_M_may_93 hl (by decide) rfl (fun ls hl => ?_)
                  refine lv_aload_n hx hb d_M_may_95 rfl (lv_at hl 3 rfl) ?_
                  refine vp_callSi (W.runV (As := []) (rest := []) ⟨hx, hb, hml, hown, hts⟩ (c_M_situation l X G A hI) (cwV 0 hts (gV (wd_3 3 rfl rfl) (wd_3 5 rfl rfl) (wd_s 13 rfl) (wd_1 6 rfl rfl) (wd_3 6 rfl rfl)) rfl rfl rfl ⟨rfl, hd_M_situation⟩ ⟨Nat.le_of_ble_eq_true rfl, Nat.le_of_ble_eq_true rfl⟩) (vx_preV (P := QR X G A) hP hK (va_recv hK.1 hP (ci := 6) rfl rw_0)) rfl rfl hl.1 rfl (lv_room (Nat.le_of_ble_eq_true rfl)) d_M_may_96 ⟨Nat.zero_le _, Nat.zero_le _⟩) (fun r96 e96 => ?_)
                  subst e96
                  refine lv_iload_n hx hb d_M_may_99 rfl (lv_at hl 2 rfl) ?_
                  refine lv_iconst (v := 5) hx hb d_M_may_100 rfl ?_
                  refine lv_icmp_ge (tgt := 114) hx hb d_M_may_101 rfl (fun h101 => ?_) (fun h101 => ?_)
                  ·
                    refine lv_iconst (v := 0) hx hb d_M_may_114 rfl ?_
                    refine lv_isub hx hb d_M_may_115 ?_
                    refine lv_istore (lv' := [(6, .int ((f_M_situation A) - 0)), (5, .int (f_M_digitOf A i)), (4, .int (inP A q)), (3, .int (nI (sA_pl A i))), (0, .ref (rA_ad G 0)), (1, .int (nI i)), (2, .int (nI q))]) hx hb d_M_may_116 hl (by decide) rfl (fun ls hl => ?_)
                    rw [sit1_b (ge5 (by omega) h101)] at hl
                    refine lv_iload_n hx hb d_M_may_118 rfl (lv_at hl 6 rfl) ?_
                    refine lv_iconst (v := 5) hx hb d_M_may_119 rfl ?_
                    refine lv_icmp_ne (tgt := 128) hx hb d_M_may_120 rfl (fun h120 => ?_) (fun h120 => ?_)
                    ·
                      refine lv_iload hx hb d_M_may_128 (lv_at hl 0 rfl) ?_
                      refine lv_iload_n hx hb d_M_may_130 rfl (lv_at hl 6 rfl) ?_
                      refine vp_callSi (W.runS (As := [.int (nI q)]) (rest := [.int (nI (enc9 (sit1 A i)))]) ⟨hx, hb, hml, hown, hts⟩ (c_M_power l X q (by omega)) (va_cwS 1 hts (gT (wd_3 7 rfl rfl) (wd_3 8 rfl rfl) (wd_1 6 rfl rfl) (wd_3 9 rfl rfl)) rfl rfl rfl hd_M_power ⟨Nat.le_of_ble_eq_true rfl, Nat.le_of_ble_eq_true rfl⟩) (vx_preS (P := fun _ => True) trivial hK) rfl rfl hl.1 rfl (lv_room (Nat.le_of_ble_eq_true rfl)) d_M_may_131 ⟨Nat.zero_le _, Nat.zero_le _⟩) (fun r131 e131 => ?_)
                      subst e131
                      refine lv_iload_n hx hb d_M_may_134 rfl (lv_at hl 6 rfl) ?_
                      refine lv_iconst (v := 4) hx hb d_M_may_135 rfl ?_
                      refine lv_icmp_ge (tgt := 146) hx hb d_M_may_136 rfl (fun h136 => ?_) (fun h136 => ?_)
                      ·
                        refine lv_iload hx hb d_M_may_146 (lv_at hl 1 rfl) ?_
                        refine lv_imul hx hb d_M_may_148 ?_
                        refine lv_iadd hx hb d_M_may_149 ?_
                        refine lv_istore (lv' := [(6, .int ((nI (enc9 (sit1 A i))) + ((f_M_power q) * (f_M_digitOf A i)))), (5, .int (f_M_digitOf A i)), (4, .int (inP A q)), (3, .int (nI (sA_pl A i))), (0, .ref (rA_ad G 0)), (1, .int (nI i)), (2, .int (nI q))]) hx hb d_M_may_150 hl (by decide) rfl (fun ls hl => ?_)
                        rw [code_4 hI hi hq (fun z => h120 (by rw [z]; rfl)) (ge4 hq h136) htk] at hl
                        obtain ⟨hd9, hlt9⟩ := sitAft_d hI hi hq h63
                        refine lv_aload_n hx hb d_M_may_152 rfl (lv_at hl 4 rfl) ?_
                        refine lv_iload hx hb d_M_may_153 (lv_at hl 0 rfl) ?_
                        refine va_calli (va_runV (As := [.int (nI (enc9 (sitAft A i q)))]) (rest := []) ⟨hx, hb, hml, hown, hts⟩ (c_M_canBeEmptied l X G A Af (enc9 (sitAft A i q)) hR hRR hlt9 (by rw [hd9]; exact ok9_sitAft hI hi hq h63)) (cwV 1 hts (gV (wd_3 14 rfl rfl) (wd_3 16 rfl rfl) (wd_s 15 rfl) (wd_1 6 rfl rfl) (wd_3 17 rfl rfl)) rfl rfl rfl ⟨rfl, hd_M_canBeEmptied⟩ ⟨Nat.le_of_ble_eq_true rfl, Nat.le_of_ble_eq_true rfl⟩) (vx_preV (P := QW X Af G A) ⟨hP, hD⟩ hK (va_recv hK.1 hP (ci := 6) rfl rw_0)) rfl rfl hl.1 rfl (lv_room (Nat.le_of_ble_eq_true rfl)) d_M_may_155 ⟨Nat.zero_le _, Nat.zero_le _⟩) hS (fun q _ h => h) (fun q h => h) (fun r155 u155 t155 H locs ht hvm hu155 hB hz hk hS => ?_)
                        obtain ⟨hP, hD⟩ := hB
                        rw [ht] at hP
                        obtain ⟨e155, kn155, tr155, tu155, hki155, hu155⟩ := hu155
                        subst e155
                        subst hu155
                        have hP : va_P X.1 classes (rw_ X (rU_st (rU_tu (rU_tr (rU_kn G kn155) tr155) tu155) false) A) H := hP
                        have hD : va_D Af (rw_ X (rU_st (rU_tu (rU_tr (rU_kn G kn155) tr155) tu155) false) A) := hD
                        refine lv_if_ne (tgt := 163) hx hb d_M_may_158 rfl (fun h158 => ?_) (fun h158 => ?_)
                        ·
                          have h158 := b2i_t h158
                          refine lv_iload_n hx hb d_M_may_163 rfl (lv_at hl 3 rfl) ?_
                          refine lv_iload_n hx hb d_M_may_164 rfl (lv_at hl 6 rfl) ?_
                          refine vp_callSi (W.runS (As := [.int (nI (sA_pl A i)), .int (nI q)]) (rest := []) ⟨hx, hb, hml, hown, hts⟩ (c_M_byFront l X (nI (sA_pl A i)) (nI q)) (va_cwS 2 hts (gT (wd_3 66 rfl rfl) (wd_3 67 rfl rfl) (wd_1 6 rfl rfl) (wd_3 68 rfl rfl)) rfl rfl rfl hd_M_byFront ⟨Nat.le_of_ble_eq_true rfl, Nat.le_of_ble_eq_true rfl⟩) (vx_preS (P := fun _ => True) trivial hK) rfl rfl hl.1 rfl (lv_room (Nat.le_of_ble_eq_true rfl)) d_M_may_165 ⟨Nat.zero_le _, Nat.zero_le _⟩) (fun r165 e165 => ?_)
                          subst e165
                          rw [front_nI _ (by omega) _ hq]
                          refine lv_if_eq (tgt := 181) hx hb d_M_may_168 rfl (fun h168 => ?_) (fun h168 => ?_)
                          ·
                            have h168 := b2i_f h168
                            refine lv_aload_n hx hb d_M_may_181 rfl (lv_at hl 4 rfl) ?_
                            refine va_get (D := X.1) (ci := 6) (C := R_Model) (T := F_Model) (N := 24) hx hb hts hin_Model hown hK.1 hP 0 rw_0 rfl 17 (by decide) (hts _ (wd_2 171 rfl rfl)) (fun _ h9 => h9) rfl d_M_may_182 ?_
                            refine lv_if_eq (tgt := 192) hx hb d_M_may_185 rfl (fun h185 => ?_) (fun h185 => ?_)
                            ·
                              have h185 := b2i_f h185
                              refine lv_iconst (v := 0) hx hb d_M_may_192 rfl ?_
                              exact W.iret (v := 0) hx hb hrt (fun t ht hW => ⟨⟨_, ((rU_st (rU_tu (rU_tr (rU_kn G kn155) tr155) tu155) false), A), rfl, ⟨by rw [mayF_nI hI hi hq, mayN, if_neg hun, if_neg (show ¬ leadN _ _ _ _ = false by rw [h63]; decide), if_neg htk, if_neg (show ¬ canE (envA A) (toS (envA A) (sitAft A i q)) = false by rw [← (show canC (envA A) (enc9 (sitAft A i q)) = canE (envA A) (toS (envA A) (sitAft A i q)) from by show canE _ (toS _ (dig9 _)) = _; rw [hd9]), h158]; decide), busyF, if_pos (bnot_f h168), if_neg (nt_of h185)], kn155, tr155, tu155, false, Or.inr hki155, rfl⟩, ⟨by rw [ht]; exact hP, hD⟩⟩, hS.F ht⟩) hS.2.2 d_M_may_193
                            ·
                              have h185 := b2i_t h185
                              refine lv_iconst (v := 5) hx hb d_M_may_188 rfl ?_
                              refine lv_goto (tgt := 193) hx hb d_M_may_189 rfl ?_
                              exact W.iret (v := 5) hx hb hrt (fun t ht hW => ⟨⟨_, ((rU_st (rU_tu (rU_tr (rU_kn G kn155) tr155) tu155) false), A), rfl, ⟨by rw [mayF_nI hI hi hq, mayN, if_neg hun, if_neg (show ¬ leadN _ _ _ _ = false by rw [h63]; decide), if_neg htk, if_neg (show ¬ canE (envA A) (toS (envA A) (sitAft A i q)) = false by rw [← (show canC (envA A) (enc9 (sitAft A i q)) = canE (envA A) (toS (envA A) (sitAft A i q)) from by show canE _ (toS _ (dig9 _)) = _; rw [hd9]), h158]; decide), busyF, if_pos (bnot_f h168), if_pos h185], kn155, tr155, tu155, false, Or.inr hki155, rfl⟩, ⟨by rw [ht]; exact hP, hD⟩⟩, hS.F ht⟩) hS.2.2 d_M_may_193
                          ·
                            have h168 := b2i_t h168
                            refine lv_aload_n hx hb d_M_may_171 rfl (lv_at hl 4 rfl) ?_
                            refine va_get (D := X.1) (ci := 6) (C := R_Model) (T := F_Model) (N := 24) hx hb hts hin_Model hown hK.1 hP 0 rw_0 rfl 16 (by decide) (hts _ (wd_2 170 rfl rfl)) (fun _ h9 => h9) rfl d_M_may_172 ?_
                            refine lv_if_eq (tgt := 192) hx hb d_M_may_175 rfl (fun h175 => ?_) (fun h175 => ?_)
                            ·
                              have h175 := b2i_f h175
                              refine lv_iconst (v := 0) hx hb d_M_may_192 rfl ?_
                              exact W.iret (v := 0) hx hb hrt (fun t ht hW => ⟨⟨_, ((rU_st (rU_tu (rU_tr (rU_kn G kn155) tr155) tu155) false), A), rfl, ⟨by rw [mayF_nI hI hi hq, mayN, if_neg hun, if_neg (show ¬ leadN _ _ _ _ = false by rw [h63]; decide), if_neg htk, if_neg (show ¬ canE (envA A) (toS (envA A) (sitAft A i q)) = false by rw [← (show canC (envA A) (enc9 (sitAft A i q)) = canE (envA A) (toS (envA A) (sitAft A i q)) from by show canE _ (toS _ (dig9 _)) = _; rw [hd9]), h158]; decide), busyF, if_neg (nt_of (bnot_t h168)), if_neg (nt_of h175)], kn155, tr155, tu155, false, Or.inr hki155, rfl⟩, ⟨by rw [ht]; exact hP, hD⟩⟩, hS.F ht⟩) hS.2.2 d_M_may_193
                            ·
                              have h175 := b2i_t h175
                              refine lv_goto (tgt := 188) hx hb d_M_may_178 rfl ?_
                              refine lv_iconst (v := 5) hx hb d_M_may_188 rfl ?_
                              refine lv_goto (tgt := 193) hx hb d_M_may_189 rfl ?_
                              exact W.iret (v := 5) hx hb hrt (fun t ht hW => ⟨⟨_, ((rU_st (rU_tu (rU_tr (rU_kn G kn155) tr155) tu155) false), A), rfl, ⟨by rw [mayF_nI hI hi hq, mayN, if_neg hun, if_neg (show ¬ leadN _ _ _ _ = false by rw [h63]; decide), if_neg htk, if_neg (show ¬ canE (envA A) (toS (envA A) (sitAft A i q)) = false by rw [← (show canC (envA A) (enc9 (sitAft A i q)) = canE (envA A) (toS (envA A) (sitAft A i q)) from by show canE _ (toS _ (dig9 _)) = _; rw [hd9]), h158]; decide), busyF, if_neg (nt_of (bnot_t h168)), if_pos h175], kn155, tr155, tu155, false, Or.inr hki155, rfl⟩, ⟨by rw [ht]; exact hP, hD⟩⟩, hS.F ht⟩) hS.2.2 d_M_may_193
                        ·
                          have h158 := b2i_f h158
                          refine lv_iconst (v := 4) hx hb d_M_may_161 rfl ?_
                          exact W.iret (v := 4) hx hb hrt (fun t ht hW => ⟨⟨_, ((rU_st (rU_tu (rU_tr (rU_kn G kn155) tr155) tu155) false), A), rfl, ⟨by rw [mayF_nI hI hi hq, mayN, if_neg hun, if_neg (show ¬ leadN _ _ _ _ = false by rw [h63]; decide), if_neg htk, if_pos (show canE (envA A) (toS (envA A) (sitAft A i q)) = false by rw [← (show canC (envA A) (enc9 (sitAft A i q)) = canE (envA A) (toS (envA A) (sitAft A i q)) from by show canE _ (toS _ (dig9 _)) = _; rw [hd9])]; exact h158)], kn155, tr155, tu155, false, Or.inr hki155, rfl⟩, ⟨by rw [ht]; exact hP, hD⟩⟩, hS.F ht⟩) hS.2.2 d_M_may_162
                      ·
                        refine lv_iload hx hb d_M_may_139 (lv_at hl 1 rfl) ?_
                        refine lv_iconst (v := 1) hx hb d_M_may_141 rfl ?_
                        refine lv_iadd hx hb d_M_may_142 ?_
                        refine lv_goto (tgt := 148) hx hb d_M_may_143 rfl ?_
                        refine lv_imul hx hb d_M_may_148 ?_
                        refine lv_iadd hx hb d_M_may_149 ?_
                        refine lv_istore (lv' := [(6, .int ((nI (enc9 (sit1 A i))) + ((f_M_power q) * ((f_M_digitOf A i) + 1)))), (5, .int (f_M_digitOf A i)), (4, .int (inP A q)), (3, .int (nI (sA_pl A i))), (0, .ref (rA_ad G 0)), (1, .int (nI i)), (2, .int (nI q))]) hx hb d_M_may_150 hl (by decide) rfl (fun ls hl => ?_)
                        rw [code_3 hI hi (lt4 hq h136) htk] at hl
                        obtain ⟨hd9, hlt9⟩ := sitAft_d hI hi hq h63
                        refine lv_aload_n hx hb d_M_may_152 rfl (lv_at hl 4 rfl) ?_
                        refine lv_iload hx hb d_M_may_153 (lv_at hl 0 rfl) ?_
                        refine va_calli (va_runV (As := [.int (nI (enc9 (sitAft A i q)))]) (rest := []) ⟨hx, hb, hml, hown, hts⟩ (c_M_canBeEmptied l X G A Af (enc9 (sitAft A i q)) hR hRR hlt9 (by rw [hd9]; exact ok9_sitAft hI hi hq h63)) (cwV 1 hts (gV (wd_3 14 rfl rfl) (wd_3 16 rfl rfl) (wd_s 15 rfl) (wd_1 6 rfl rfl) (wd_3 17 rfl rfl)) rfl rfl rfl ⟨rfl, hd_M_canBeEmptied⟩ ⟨Nat.le_of_ble_eq_true rfl, Nat.le_of_ble_eq_true rfl⟩) (vx_preV (P := QW X Af G A) ⟨hP, hD⟩ hK (va_recv hK.1 hP (ci := 6) rfl rw_0)) rfl rfl hl.1 rfl (lv_room (Nat.le_of_ble_eq_true rfl)) d_M_may_155 ⟨Nat.zero_le _, Nat.zero_le _⟩) hS (fun q _ h => h) (fun q h => h) (fun r155 u155 t155 H locs ht hvm hu155 hB hz hk hS => ?_)
                        obtain ⟨hP, hD⟩ := hB
                        rw [ht] at hP
                        obtain ⟨e155, kn155, tr155, tu155, hki155, hu155⟩ := hu155
                        subst e155
                        subst hu155
                        have hP : va_P X.1 classes (rw_ X (rU_st (rU_tu (rU_tr (rU_kn G kn155) tr155) tu155) false) A) H := hP
                        have hD : va_D Af (rw_ X (rU_st (rU_tu (rU_tr (rU_kn G kn155) tr155) tu155) false) A) := hD
                        refine lv_if_ne (tgt := 163) hx hb d_M_may_158 rfl (fun h158 => ?_) (fun h158 => ?_)
                        ·
                          have h158 := b2i_t h158
                          refine lv_iload_n hx hb d_M_may_163 rfl (lv_at hl 3 rfl) ?_
                          refine lv_iload_n hx hb d_M_may_164 rfl (lv_at hl 6 rfl) ?_
                          refine vp_callSi (W.runS (As := [.int (nI (sA_pl A i)), .int (nI q)]) (rest := []) ⟨hx, hb, hml, hown, hts⟩ (c_M_byFront l X (nI (sA_pl A i)) (nI q)) (va_cwS 2 hts (gT (wd_3 66 rfl rfl) (wd_3 67 rfl rfl) (wd_1 6 rfl rfl) (wd_3 68 rfl rfl)) rfl rfl rfl hd_M_byFront ⟨Nat.le_of_ble_eq_true rfl, Nat.le_of_ble_eq_true rfl⟩) (vx_preS (P := fun _ => True) trivial hK) rfl rfl hl.1 rfl (lv_room (Nat.le_of_ble_eq_true rfl)) d_M_may_165 ⟨Nat.zero_le _, Nat.zero_le _⟩) (fun r165 e165 => ?_)
                          subst e165
                          rw [front_nI _ (by omega) _ hq]
                          refine lv_if_eq (tgt := 181) hx hb d_M_may_168 rfl (fun h168 => ?_) (fun h168 => ?_)
                          ·
                            have h168 := b2i_f h168
                            refine lv_aload_n hx hb d_M_may_181 rfl (lv_at hl 4 rfl) ?_
                            refine va_get (D := X.1) (ci := 6) (C := R_Model) (T := F_Model) (N := 24) hx hb hts hin_Model hown hK.1 hP 0 rw_0 rfl 17 (by decide) (hts _ (wd_2 171 rfl rfl)) (fun _ h9 => h9) rfl d_M_may_182 ?_
                            refine lv_if_eq (tgt := 192) hx hb d_M_may_185 rfl (fun h185 => ?_) (fun h185 => ?_)
                            ·
                              have h185 := b2i_f h185
                              refine lv_iconst (v := 0) hx hb d_M_may_192 rfl ?_
                              exact W.iret (v := 0) hx hb hrt (fun t ht hW => ⟨⟨_, ((rU_st (rU_tu (rU_tr (rU_kn G kn155) tr155) tu155) false), A), rfl, ⟨by rw [mayF_nI hI hi hq, mayN, if_neg hun, if_neg (show ¬ leadN _ _ _ _ = false by rw [h63]; decide), if_neg htk, if_neg (show ¬ canE (envA A) (toS (envA A) (sitAft A i q)) = false by rw [← (show canC (envA A) (enc9 (sitAft A i q)) = canE (envA A) (toS (envA A) (sitAft A i q)) from by show canE _ (toS _ (dig9 _)) = _; rw [hd9]), h158]; decide), busyF, if_pos (bnot_f h168), if_neg (nt_of h185)], kn155, tr155, tu155, false, Or.inr hki155, rfl⟩, ⟨by rw [ht]; exact hP, hD⟩⟩, hS.F ht⟩) hS.2.2 d_M_may_193
                            ·
                              have h185 := b2i_t h185
                              refine lv_iconst (v := 5) hx hb d_M_may_188 rfl ?_
                              refine lv_goto (tgt := 193) hx hb d_M_may_189 rfl ?_
                              exact W.iret (v := 5) hx hb hrt (fun t ht hW => ⟨⟨_, ((rU_st (rU_tu (rU_tr (rU_kn G kn155) tr155) tu155) false), A), rfl, ⟨by rw [mayF_nI hI hi hq, mayN, if_neg hun, if_neg (show ¬ leadN _ _ _ _ = false by rw [h63]; decide), if_neg htk, if_neg (show ¬ canE (envA A) (toS (envA A) (sitAft A i q)) = false by rw [← (show canC (envA A) (enc9 (sitAft A i q)) = canE (envA A) (toS (envA A) (sitAft A i q)) from by show canE _ (toS _ (dig9 _)) = _; rw [hd9]), h158]; decide), busyF, if_pos (bnot_f h168), if_pos h185], kn155, tr155, tu155, false, Or.inr hki155, rfl⟩, ⟨by rw [ht]; exact hP, hD⟩⟩, hS.F ht⟩) hS.2.2 d_M_may_193
                          ·
                            have h168 := b2i_t h168
                            refine lv_aload_n hx hb d_M_may_171 rfl (lv_at hl 4 rfl) ?_
                            refine va_get (D := X.1) (ci := 6) (C := R_Model) (T := F_Model) (N := 24) hx hb hts hin_Model hown hK.1 hP 0 rw_0 rfl 16 (by decide) (hts _ (wd_2 170 rfl rfl)) (fun _ h9 => h9) rfl d_M_may_172 ?_
                            refine lv_if_eq (tgt := 192) hx hb d_M_may_175 rfl (fun h175 => ?_) (fun h175 => ?_)
                            ·
                              have h175 := b2i_f h175
                              refine lv_iconst (v := 0) hx hb d_M_may_192 rfl ?_
                              exact W.iret (v := 0) hx hb hrt (fun t ht hW => ⟨⟨_, ((rU_st (rU_tu (rU_tr (rU_kn G kn155) tr155) tu155) false), A), rfl, ⟨by rw [mayF_nI hI hi hq, mayN, if_neg hun, if_neg (show ¬ leadN _ _ _ _ = false by rw [h63]; decide), if_neg htk, if_neg (show ¬ canE (envA A) (toS (envA A) (sitAft A i q)) = false by rw [← (show canC (envA A) (enc9 (sitAft A i q)) = canE (envA A) (toS (envA A) (sitAft A i q)) from by show canE _ (toS _ (dig9 _)) = _; rw [hd9]), h158]; decide), busyF, if_neg (nt_of (bnot_t h168)), if_neg (nt_of h175)], kn155, tr155, tu155, false, Or.inr hki155, rfl⟩, ⟨by rw [ht]; exact hP, hD⟩⟩, hS.F ht⟩) hS.2.2 d_M_may_193
                            ·
                              have h175 := b2i_t h175
                              refine lv_goto (tgt := 188) hx hb d_M_may_178 rfl ?_
                              refine lv_iconst (v := 5) hx hb d_M_may_188 rfl ?_
                              refine lv_goto (tgt := 193) hx hb d_M_may_189 rfl ?_
                              exact W.iret (v := 5) hx hb hrt (fun t ht hW => ⟨⟨_, ((rU_st (rU_tu (rU_tr (rU_kn G kn155) tr155) tu155) false), A), rfl, ⟨by rw [mayF_nI hI hi hq, mayN, if_neg hun, if_neg (show ¬ leadN _ _ _ _ = false by rw [h63]; decide), if_neg htk, if_neg (show ¬ canE (envA A) (toS (envA A) (sitAft A i q)) = false by rw [← (show canC (envA A) (enc9 (sitAft A i q)) = canE (envA A) (toS (envA A) (sitAft A i q)) from by show canE _ (toS _ (dig9 _)) = _; rw [hd9]), h158]; decide), busyF, if_neg (nt_of (bnot_t h168)), if_pos h175], kn155, tr155, tu155, false, Or.inr hki155, rfl⟩, ⟨by rw [ht]; exact hP, hD⟩⟩, hS.F ht⟩) hS.2.2 d_M_may_193
                        ·
                          have h158 := b2i_f h158
                          refine lv_iconst (v := 4) hx hb d_M_may_161 rfl ?_
                          exact W.iret (v := 4) hx hb hrt (fun t ht hW => ⟨⟨_, ((rU_st (rU_tu (rU_tr (rU_kn G kn155) tr155) tu155) false), A), rfl, ⟨by rw [mayF_nI hI hi hq, mayN, if_neg hun, if_neg (show ¬ leadN _ _ _ _ = false by rw [h63]; decide), if_neg htk, if_pos (show canE (envA A) (toS (envA A) (sitAft A i q)) = false by rw [← (show canC (envA A) (enc9 (sitAft A i q)) = canE (envA A) (toS (envA A) (sitAft A i q)) from by show canE _ (toS _ (dig9 _)) = _; rw [hd9])]; exact h158)], kn155, tr155, tu155, false, Or.inr hki155, rfl⟩, ⟨by rw [ht]; exact hP, hD⟩⟩, hS.F ht⟩) hS.2.2 d_M_may_162
                    ·
                      refine lv_iload hx hb d_M_may_123 (lv_at hl 0 rfl) ?_
                      refine lv_goto (tgt := 150) hx hb d_M_may_125 rfl ?_
                      refine lv_istore (lv' := [(6, .int (nI (enc9 (sit1 A i)))), (5, .int (f_M_digitOf A i)), (4, .int (inP A q)), (3, .int (nI (sA_pl A i))), (0, .ref (rA_ad G 0)), (1, .int (nI i)), (2, .int (nI q))]) hx hb d_M_may_150 hl (by decide) rfl (fun ls hl => ?_)
                      rw [← sitAft_5 (pl5 (by omega) h120)] at hl
                      have hl := hl
                      obtain ⟨hd9, hlt9⟩ := sitAft_d hI hi hq h63
                      refine lv_aload_n hx hb d_M_may_152 rfl (lv_at hl 4 rfl) ?_
                      refine lv_iload hx hb d_M_may_153 (lv_at hl 0 rfl) ?_
                      refine va_calli (va_runV (As := [.int (nI (enc9 (sitAft A i q)))]) (rest := []) ⟨hx, hb, hml, hown, hts⟩ (c_M_canBeEmptied l X G A Af (enc9 (sitAft A i q)) hR hRR hlt9 (by rw [hd9]; exact ok9_sitAft hI hi hq h63)) (cwV 1 hts (gV (wd_3 14 rfl rfl) (wd_3 16 rfl rfl) (wd_s 15 rfl) (wd_1 6 rfl rfl) (wd_3 17 rfl rfl)) rfl rfl rfl ⟨rfl, hd_M_canBeEmptied⟩ ⟨Nat.le_of_ble_eq_true rfl, Nat.le_of_ble_eq_true rfl⟩) (vx_preV (P := QW X Af G A) ⟨hP, hD⟩ hK (va_recv hK.1 hP (ci := 6) rfl rw_0)) rfl rfl hl.1 rfl (lv_room (Nat.le_of_ble_eq_true rfl)) d_M_may_155 ⟨Nat.zero_le _, Nat.zero_le _⟩) hS (fun q _ h => h) (fun q h => h) (fun r155 u155 t155 H locs ht hvm hu155 hB hz hk hS => ?_)
                      obtain ⟨hP, hD⟩ := hB
                      rw [ht] at hP
                      obtain ⟨e155, kn155, tr155, tu155, hki155, hu155⟩ := hu155
                      subst e155
                      subst hu155
                      have hP : va_P X.1 classes (rw_ X (rU_st (rU_tu (rU_tr (rU_kn G kn155) tr155) tu155) false) A) H := hP
                      have hD : va_D Af (rw_ X (rU_st (rU_tu (rU_tr (rU_kn G kn155) tr155) tu155) false) A) := hD
                      refine lv_if_ne (tgt := 163) hx hb d_M_may_158 rfl (fun h158 => ?_) (fun h158 => ?_)
                      ·
                        have h158 := b2i_t h158
                        refine lv_iload_n hx hb d_M_may_163 rfl (lv_at hl 3 rfl) ?_
                        refine lv_iload_n hx hb d_M_may_164 rfl (lv_at hl 6 rfl) ?_
                        refine vp_callSi (W.runS (As := [.int (nI (sA_pl A i)), .int (nI q)]) (rest := []) ⟨hx, hb, hml, hown, hts⟩ (c_M_byFront l X (nI (sA_pl A i)) (nI q)) (va_cwS 2 hts (gT (wd_3 66 rfl rfl) (wd_3 67 rfl rfl) (wd_1 6 rfl rfl) (wd_3 68 rfl rfl)) rfl rfl rfl hd_M_byFront ⟨Nat.le_of_ble_eq_true rfl, Nat.le_of_ble_eq_true rfl⟩) (vx_preS (P := fun _ => True) trivial hK) rfl rfl hl.1 rfl (lv_room (Nat.le_of_ble_eq_true rfl)) d_M_may_165 ⟨Nat.zero_le _, Nat.zero_le _⟩) (fun r165 e165 => ?_)
                        subst e165
                        rw [front_nI _ (by omega) _ hq]
                        refine lv_if_eq (tgt := 181) hx hb d_M_may_168 rfl (fun h168 => ?_) (fun h168 => ?_)
                        ·
                          have h168 := b2i_f h168
                          refine lv_aload_n hx hb d_M_may_181 rfl (lv_at hl 4 rfl) ?_
                          refine va_get (D := X.1) (ci := 6) (C := R_Model) (T := F_Model) (N := 24) hx hb hts hin_Model hown hK.1 hP 0 rw_0 rfl 17 (by decide) (hts _ (wd_2 171 rfl rfl)) (fun _ h9 => h9) rfl d_M_may_182 ?_
                          refine lv_if_eq (tgt := 192) hx hb d_M_may_185 rfl (fun h185 => ?_) (fun h185 => ?_)
                          ·
                            have h185 := b2i_f h185
                            refine lv_iconst (v := 0) hx hb d_M_may_192 rfl ?_
                            exact W.iret (v := 0) hx hb hrt (fun t ht hW => ⟨⟨_, ((rU_st (rU_tu (rU_tr (rU_kn G kn155) tr155) tu155) false), A), rfl, ⟨by rw [mayF_nI hI hi hq, mayN, if_neg hun, if_neg (show ¬ leadN _ _ _ _ = false by rw [h63]; decide), if_neg htk, if_neg (show ¬ canE (envA A) (toS (envA A) (sitAft A i q)) = false by rw [← (show canC (envA A) (enc9 (sitAft A i q)) = canE (envA A) (toS (envA A) (sitAft A i q)) from by show canE _ (toS _ (dig9 _)) = _; rw [hd9]), h158]; decide), busyF, if_pos (bnot_f h168), if_neg (nt_of h185)], kn155, tr155, tu155, false, Or.inr hki155, rfl⟩, ⟨by rw [ht]; exact hP, hD⟩⟩, hS.F ht⟩) hS.2.2 d_M_may_193
                          ·
                            have h185 := b2i_t h185
                            refine lv_iconst (v := 5) hx hb d_M_may_188 rfl ?_
                            refine lv_goto (tgt := 193) hx hb d_M_may_189 rfl ?_
                            exact W.iret (v := 5) hx hb hrt (fun t ht hW => ⟨⟨_, ((rU_st (rU_tu (rU_tr (rU_kn G kn155) tr155) tu155) false), A), rfl, ⟨by rw [mayF_nI hI hi hq, mayN, if_neg hun, if_neg (show ¬ leadN _ _ _ _ = false by rw [h63]; decide), if_neg htk, if_neg (show ¬ canE (envA A) (toS (envA A) (sitAft A i q)) = false by rw [← (show canC (envA A) (enc9 (sitAft A i q)) = canE (envA A) (toS (envA A) (sitAft A i q)) from by show canE _ (toS _ (dig9 _)) = _; rw [hd9]), h158]; decide), busyF, if_pos (bnot_f h168), if_pos h185], kn155, tr155, tu155, false, Or.inr hki155, rfl⟩, ⟨by rw [ht]; exact hP, hD⟩⟩, hS.F ht⟩) hS.2.2 d_M_may_193
                        ·
                          have h168 := b2i_t h168
                          refine lv_aload_n hx hb d_M_may_171 rfl (lv_at hl 4 rfl) ?_
                          refine va_get (D := X.1) (ci := 6) (C := R_Model) (T := F_Model) (N := 24) hx hb hts hin_Model hown hK.1 hP 0 rw_0 rfl 16 (by decide) (hts _ (wd_2 170 rfl rfl)) (fun _ h9 => h9) rfl d_M_may_172 ?_
                          refine lv_if_eq (tgt := 192) hx hb d_M_may_175 rfl (fun h175 => ?_) (fun h175 => ?_)
                          ·
                            have h175 := b2i_f h175
                            refine lv_iconst (v := 0) hx hb d_M_may_192 rfl ?_
                            exact W.iret (v := 0) hx hb hrt (fun t ht hW => ⟨⟨_, ((rU_st (rU_tu (rU_tr (rU_kn G kn155) tr155) tu155) false), A), rfl, ⟨by rw [mayF_nI hI hi hq, mayN, if_neg hun, if_neg (show ¬ leadN _ _ _ _ = false by rw [h63]; decide), if_neg htk, if_neg (show ¬ canE (envA A) (toS (envA A) (sitAft A i q)) = false by rw [← (show canC (envA A) (enc9 (sitAft A i q)) = canE (envA A) (toS (envA A) (sitAft A i q)) from by show canE _ (toS _ (dig9 _)) = _; rw [hd9]), h158]; decide), busyF, if_neg (nt_of (bnot_t h168)), if_neg (nt_of h175)], kn155, tr155, tu155, false, Or.inr hki155, rfl⟩, ⟨by rw [ht]; exact hP, hD⟩⟩, hS.F ht⟩) hS.2.2 d_M_may_193
                          ·
                            have h175 := b2i_t h175
                            refine lv_goto (tgt := 188) hx hb d_M_may_178 rfl ?_
                            refine lv_iconst (v := 5) hx hb d_M_may_188 rfl ?_
                            refine lv_goto (tgt := 193) hx hb d_M_may_189 rfl ?_
                            exact W.iret (v := 5) hx hb hrt (fun t ht hW => ⟨⟨_, ((rU_st (rU_tu (rU_tr (rU_kn G kn155) tr155) tu155) false), A), rfl, ⟨by rw [mayF_nI hI hi hq, mayN, if_neg hun, if_neg (show ¬ leadN _ _ _ _ = false by rw [h63]; decide), if_neg htk, if_neg (show ¬ canE (envA A) (toS (envA A) (sitAft A i q)) = false by rw [← (show canC (envA A) (enc9 (sitAft A i q)) = canE (envA A) (toS (envA A) (sitAft A i q)) from by show canE _ (toS _ (dig9 _)) = _; rw [hd9]), h158]; decide), busyF, if_neg (nt_of (bnot_t h168)), if_pos h175], kn155, tr155, tu155, false, Or.inr hki155, rfl⟩, ⟨by rw [ht]; exact hP, hD⟩⟩, hS.F ht⟩) hS.2.2 d_M_may_193
                      ·
                        have h158 := b2i_f h158
                        refine lv_iconst (v := 4) hx hb d_M_may_161 rfl ?_
                        exact W.iret (v := 4) hx hb hrt (fun t ht hW => ⟨⟨_, ((rU_st (rU_tu (rU_tr (rU_kn G kn155) tr155) tu155) false), A), rfl, ⟨by rw [mayF_nI hI hi hq, mayN, if_neg hun, if_neg (show ¬ leadN _ _ _ _ = false by rw [h63]; decide), if_neg htk, if_pos (show canE (envA A) (toS (envA A) (sitAft A i q)) = false by rw [← (show canC (envA A) (enc9 (sitAft A i q)) = canE (envA A) (toS (envA A) (sitAft A i q)) from by show canE _ (toS _ (dig9 _)) = _; rw [hd9])]; exact h158)], kn155, tr155, tu155, false, Or.inr hki155, rfl⟩, ⟨by rw [ht]; exact hP, hD⟩⟩, hS.F ht⟩) hS.2.2 d_M_may_162
                  ·
                    refine lv_iload hx hb d_M_may_104 (lv_at hl 0 rfl) ?_
                    refine lv_iload_n hx hb d_M_may_106 rfl (lv_at hl 2 rfl) ?_
                    refine vp_callSi (W.runS (As := [.int (nI (sA_pl A i))]) (rest := [.int (f_M_digitOf A i), .int (f_M_situation A)]) ⟨hx, hb, hml, hown, hts⟩ (c_M_power l X (sA_pl A i) (by omega)) (va_cwS 1 hts (gT (wd_3 7 rfl rfl) (wd_3 8 rfl rfl) (wd_1 6 rfl rfl) (wd_3 9 rfl rfl)) rfl rfl rfl hd_M_power ⟨Nat.le_of_ble_eq_true rfl, Nat.le_of_ble_eq_true rfl⟩) (vx_preS (P := fun _ => True) trivial hK) rfl rfl hl.1 rfl (lv_room (Nat.le_of_ble_eq_true rfl)) d_M_may_107 ⟨Nat.zero_le _, Nat.zero_le _⟩) (fun r107 e107 => ?_)
                    subst e107
                    refine lv_imul hx hb d_M_may_110 ?_
                    refine lv_goto (tgt := 115) hx hb d_M_may_111 rfl ?_
                    refine lv_isub hx hb d_M_may_115 ?_
                    refine lv_istore (lv' := [(6, .int ((f_M_situation A) - ((f_M_digitOf A i) * (f_M_power (sA_pl A i))))), (5, .int (f_M_digitOf A i)), (4, .int (inP A q)), (3, .int (nI (sA_pl A i))), (0, .ref (rA_ad G 0)), (1, .int (nI i)), (2, .int (nI q))]) hx hb d_M_may_116 hl (by decide) rfl (fun ls hl => ?_)
                    rw [sit1_a hI hi (lt5 (by omega) h101)] at hl
                    refine lv_iload_n hx hb d_M_may_118 rfl (lv_at hl 6 rfl) ?_
                    refine lv_iconst (v := 5) hx hb d_M_may_119 rfl ?_
                    refine lv_icmp_ne (tgt := 128) hx hb d_M_may_120 rfl (fun h120 => ?_) (fun h120 => ?_)
                    ·
                      refine lv_iload hx hb d_M_may_128 (lv_at hl 0 rfl) ?_
                      refine lv_iload_n hx hb d_M_may_130 rfl (lv_at hl 6 rfl) ?_
                      refine vp_callSi (W.runS (As := [.int (nI q)]) (rest := [.int (nI (enc9 (sit1 A i)))]) ⟨hx, hb, hml, hown, hts⟩ (c_M_power l X q (by omega)) (va_cwS 1 hts (gT (wd_3 7 rfl rfl) (wd_3 8 rfl rfl) (wd_1 6 rfl rfl) (wd_3 9 rfl rfl)) rfl rfl rfl hd_M_power ⟨Nat.le_of_ble_eq_true rfl, Nat.le_of_ble_eq_true rfl⟩) (vx_preS (P := fun _ => True) trivial hK) rfl rfl hl.1 rfl (lv_room (Nat.le_of_ble_eq_true rfl)) d_M_may_131 ⟨Nat.zero_le _, Nat.zero_le _⟩) (fun r131 e131 => ?_)
                      subst e131
                      refine lv_iload_n hx hb d_M_may_134 rfl (lv_at hl 6 rfl) ?_
                      refine lv_iconst (v := 4) hx hb d_M_may_135 rfl ?_
                      refine lv_icmp_ge (tgt := 146) hx hb d_M_may_136 rfl (fun h136 => ?_) (fun h136 => ?_)
                      ·
                        refine lv_iload hx hb d_M_may_146 (lv_at hl 1 rfl) ?_
                        refine lv_imul hx hb d_M_may_148 ?_
                        refine lv_iadd hx hb d_M_may_149 ?_
                        refine lv_istore (lv' := [(6, .int ((nI (enc9 (sit1 A i))) + ((f_M_power q) * (f_M_digitOf A i)))), (5, .int (f_M_digitOf A i)), (4, .int (inP A q)), (3, .int (nI (sA_pl A i))), (0, .ref (rA_ad G 0)), (1, .int (nI i)), (2, .int (nI q))]) hx hb d_M_may_150 hl (by decide) rfl (fun ls hl => ?_)
                        rw [code_4 hI hi hq (fun z => h120 (by rw [z]; rfl)) (ge4 hq h136) htk] at hl
                        obtain ⟨hd9, hlt9⟩ := sitAft_d hI hi hq h63
                        refine lv_aload_n hx hb d_M_may_152 rfl (lv_at hl 4 rfl) ?_
                        refine lv_iload hx hb d_M_may_153 (lv_at hl 0 rfl) ?_
                        refine va_calli (va_runV (As := [.int (nI (enc9 (sitAft A i q)))]) (rest := []) ⟨hx, hb, hml, hown, hts⟩ (c_M_canBeEmptied l X G A Af (enc9 (sitAft A i q)) hR hRR hlt9 (by rw [hd9]; exact ok9_sitAft hI hi hq h63)) (cwV 1 hts (gV (wd_3 14 rfl rfl) (wd_3 16 rfl rfl) (wd_s 15 rfl) (wd_1 6 rfl rfl) (wd_3 17 rfl rfl)) rfl rfl rfl ⟨rfl, hd_M_canBeEmptied⟩ ⟨Nat.le_of_ble_eq_true rfl, Nat.le_of_ble_eq_true rfl⟩) (vx_preV (P := QW X Af G A) ⟨hP, hD⟩ hK (va_recv hK.1 hP (ci := 6) rfl rw_0)) rfl rfl hl.1 rfl (lv_room (Nat.le_of_ble_eq_true rfl)) d_M_may_155 ⟨Nat.zero_le _, Nat.zero_le _⟩) hS (fun q _ h => h) (fun q h => h) (fun r155 u155 t155 H locs ht hvm hu155 hB hz hk hS => ?_)
                        obtain ⟨hP, hD⟩ := hB
                        rw [ht] at hP
                        obtain ⟨e155, kn155, tr155, tu155, hki155, hu155⟩ := hu155
                        subst e155
                        subst hu155
                        have hP : va_P X.1 classes (rw_ X (rU_st (rU_tu (rU_tr (rU_kn G kn155) tr155) tu155) false) A) H := hP
                        have hD : va_D Af (rw_ X (rU_st (rU_tu (rU_tr (rU_kn G kn155) tr155) tu155) false) A) := hD
                        refine lv_if_ne (tgt := 163) hx hb d_M_may_158 rfl (fun h158 => ?_) (fun h158 => ?_)
                        ·
                          have h158 := b2i_t h158
                          refine lv_iload_n hx hb d_M_may_163 rfl (lv_at hl 3 rfl) ?_
                          refine lv_iload_n hx hb d_M_may_164 rfl (lv_at hl 6 rfl) ?_
                          refine vp_callSi (W.runS (As := [.int (nI (sA_pl A i)), .int (nI q)]) (rest := []) ⟨hx, hb, hml, hown, hts⟩ (c_M_byFront l X (nI (sA_pl A i)) (nI q)) (va_cwS 2 hts (gT (wd_3 66 rfl rfl) (wd_3 67 rfl rfl) (wd_1 6 rfl rfl) (wd_3 68 rfl rfl)) rfl rfl rfl hd_M_byFront ⟨Nat.le_of_ble_eq_true rfl, Nat.le_of_ble_eq_true rfl⟩) (vx_preS (P := fun _ => True) trivial hK) rfl rfl hl.1 rfl (lv_room (Nat.le_of_ble_eq_true rfl)) d_M_may_165 ⟨Nat.zero_le _, Nat.zero_le _⟩) (fun r165 e165 => ?_)
                          subst e165
                          rw [front_nI _ (by omega) _ hq]
                          refine lv_if_eq (tgt := 181) hx hb d_M_may_168 rfl (fun h168 => ?_) (fun h168 => ?_)
                          ·
                            have h168 := b2i_f h168
                            refine lv_aload_n hx hb d_M_may_181 rfl (lv_at hl 4 rfl) ?_
                            refine va_get (D := X.1) (ci := 6) (C := R_Model) (T := F_Model) (N := 24) hx hb hts hin_Model hown hK.1 hP 0 rw_0 rfl 17 (by decide) (hts _ (wd_2 171 rfl rfl)) (fun _ h9 => h9) rfl d_M_may_182 ?_
                            refine lv_if_eq (tgt := 192) hx hb d_M_may_185 rfl (fun h185 => ?_) (fun h185 => ?_)
                            ·
                              have h185 := b2i_f h185
                              refine lv_iconst (v := 0) hx hb d_M_may_192 rfl ?_
                              exact W.iret (v := 0) hx hb hrt (fun t ht hW => ⟨⟨_, ((rU_st (rU_tu (rU_tr (rU_kn G kn155) tr155) tu155) false), A), rfl, ⟨by rw [mayF_nI hI hi hq, mayN, if_neg hun, if_neg (show ¬ leadN _ _ _ _ = false by rw [h63]; decide), if_neg htk, if_neg (show ¬ canE (envA A) (toS (envA A) (sitAft A i q)) = false by rw [← (show canC (envA A) (enc9 (sitAft A i q)) = canE (envA A) (toS (envA A) (sitAft A i q)) from by show canE _ (toS _ (dig9 _)) = _; rw [hd9]), h158]; decide), busyF, if_pos (bnot_f h168), if_neg (nt_of h185)], kn155, tr155, tu155, false, Or.inr hki155, rfl⟩, ⟨by rw [ht]; exact hP, hD⟩⟩, hS.F ht⟩) hS.2.2 d_M_may_193
                            ·
                              have h185 := b2i_t h185
                              refine lv_iconst (v := 5) hx hb d_M_may_188 rfl ?_
                              refine lv_goto (tgt := 193) hx hb d_M_may_189 rfl ?_
                              exact W.iret (v := 5) hx hb hrt (fun t ht hW => ⟨⟨_, ((rU_st (rU_tu (rU_tr (rU_kn G kn155) tr155) tu155) false), A), rfl, ⟨by rw [mayF_nI hI hi hq, mayN, if_neg hun, if_neg (show ¬ leadN _ _ _ _ = false by rw [h63]; decide), if_neg htk, if_neg (show ¬ canE (envA A) (toS (envA A) (sitAft A i q)) = false by rw [← (show canC (envA A) (enc9 (sitAft A i q)) = canE (envA A) (toS (envA A) (sitAft A i q)) from by show canE _ (toS _ (dig9 _)) = _; rw [hd9]), h158]; decide), busyF, if_pos (bnot_f h168), if_pos h185], kn155, tr155, tu155, false, Or.inr hki155, rfl⟩, ⟨by rw [ht]; exact hP, hD⟩⟩, hS.F ht⟩) hS.2.2 d_M_may_193
                          ·
                            have h168 := b2i_t h168
                            refine lv_aload_n hx hb d_M_may_171 rfl (lv_at hl 4 rfl) ?_
                            refine va_get (D := X.1) (ci := 6) (C := R_Model) (T := F_Model) (N := 24) hx hb hts hin_Model hown hK.1 hP 0 rw_0 rfl 16 (by decide) (hts _ (wd_2 170 rfl rfl)) (fun _ h9 => h9) rfl d_M_may_172 ?_
                            refine lv_if_eq (tgt := 192) hx hb d_M_may_175 rfl (fun h175 => ?_) (fun h175 => ?_)
                            ·
                              have h175 := b2i_f h175
                              refine lv_iconst (v := 0) hx hb d_M_may_192 rfl ?_
                              exact W.iret (v := 0) hx hb hrt (fun t ht hW => ⟨⟨_, ((rU_st (rU_tu (rU_tr (rU_kn G kn155) tr155) tu155) false), A), rfl, ⟨by rw [mayF_nI hI hi hq, mayN, if_neg hun, if_neg (show ¬ leadN _ _ _ _ = false by rw [h63]; decide), if_neg htk, if_neg (show ¬ canE (envA A) (toS (envA A) (sitAft A i q)) = false by rw [← (show canC (envA A) (enc9 (sitAft A i q)) = canE (envA A) (toS (envA A) (sitAft A i q)) from by show canE _ (toS _ (dig9 _)) = _; rw [hd9]), h158]; decide), busyF, if_neg (nt_of (bnot_t h168)), if_neg (nt_of h175)], kn155, tr155, tu155, false, Or.inr hki155, rfl⟩, ⟨by rw [ht]; exact hP, hD⟩⟩, hS.F ht⟩) hS.2.2 d_M_may_193
                            ·
                              have h175 := b2i_t h175
                              refine lv_goto (tgt := 188) hx hb d_M_may_178 rfl ?_
                              refine lv_iconst (v := 5) hx hb d_M_may_188 rfl ?_
                              refine lv_goto (tgt := 193) hx hb d_M_may_189 rfl ?_
                              exact W.iret (v := 5) hx hb hrt (fun t ht hW => ⟨⟨_, ((rU_st (rU_tu (rU_tr (rU_kn G kn155) tr155) tu155) false), A), rfl, ⟨by rw [mayF_nI hI hi hq, mayN, if_neg hun, if_neg (show ¬ leadN _ _ _ _ = false by rw [h63]; decide), if_neg htk, if_neg (show ¬ canE (envA A) (toS (envA A) (sitAft A i q)) = false by rw [← (show canC (envA A) (enc9 (sitAft A i q)) = canE (envA A) (toS (envA A) (sitAft A i q)) from by show canE _ (toS _ (dig9 _)) = _; rw [hd9]), h158]; decide), busyF, if_neg (nt_of (bnot_t h168)), if_pos h175], kn155, tr155, tu155, false, Or.inr hki155, rfl⟩, ⟨by rw [ht]; exact hP, hD⟩⟩, hS.F ht⟩) hS.2.2 d_M_may_193
                        ·
                          have h158 := b2i_f h158
                          refine lv_iconst (v := 4) hx hb d_M_may_161 rfl ?_
                          exact W.iret (v := 4) hx hb hrt (fun t ht hW => ⟨⟨_, ((rU_st (rU_tu (rU_tr (rU_kn G kn155) tr155) tu155) false), A), rfl, ⟨by rw [mayF_nI hI hi hq, mayN, if_neg hun, if_neg (show ¬ leadN _ _ _ _ = false by rw [h63]; decide), if_neg htk, if_pos (show canE (envA A) (toS (envA A) (sitAft A i q)) = false by rw [← (show canC (envA A) (enc9 (sitAft A i q)) = canE (envA A) (toS (envA A) (sitAft A i q)) from by show canE _ (toS _ (dig9 _)) = _; rw [hd9])]; exact h158)], kn155, tr155, tu155, false, Or.inr hki155, rfl⟩, ⟨by rw [ht]; exact hP, hD⟩⟩, hS.F ht⟩) hS.2.2 d_M_may_162
                      ·
                        refine lv_iload hx hb d_M_may_139 (lv_at hl 1 rfl) ?_
                        refine lv_iconst (v := 1) hx hb d_M_may_141 rfl ?_
                        refine lv_iadd hx hb d_M_may_142 ?_
                        refine lv_goto (tgt := 148) hx hb d_M_may_143 rfl ?_
                        refine lv_imul hx hb d_M_may_148 ?_
                        refine lv_iadd hx hb d_M_may_149 ?_
                        refine lv_istore (lv' := [(6, .int ((nI (enc9 (sit1 A i))) + ((f_M_power q) * ((f_M_digitOf A i) + 1)))), (5, .int (f_M_digitOf A i)), (4, .int (inP A q)), (3, .int (nI (sA_pl A i))), (0, .ref (rA_ad G 0)), (1, .int (nI i)), (2, .int (nI q))]) hx hb d_M_may_150 hl (by decide) rfl (fun ls hl => ?_)
                        rw [code_3 hI hi (lt4 hq h136) htk] at hl
                        obtain ⟨hd9, hlt9⟩ := sitAft_d hI hi hq h63
                        refine lv_aload_n hx hb d_M_may_152 rfl (lv_at hl 4 rfl) ?_
                        refine lv_iload hx hb d_M_may_153 (lv_at hl 0 rfl) ?_
                        refine va_calli (va_runV (As := [.int (nI (enc9 (sitAft A i q)))]) (rest := []) ⟨hx, hb, hml, hown, hts⟩ (c_M_canBeEmptied l X G A Af (enc9 (sitAft A i q)) hR hRR hlt9 (by rw [hd9]; exact ok9_sitAft hI hi hq h63)) (cwV 1 hts (gV (wd_3 14 rfl rfl) (wd_3 16 rfl rfl) (wd_s 15 rfl) (wd_1 6 rfl rfl) (wd_3 17 rfl rfl)) rfl rfl rfl ⟨rfl, hd_M_canBeEmptied⟩ ⟨Nat.le_of_ble_eq_true rfl, Nat.le_of_ble_eq_true rfl⟩) (vx_preV (P := QW X Af G A) ⟨hP, hD⟩ hK (va_recv hK.1 hP (ci := 6) rfl rw_0)) rfl rfl hl.1 rfl (lv_room (Nat.le_of_ble_eq_true rfl)) d_M_may_155 ⟨Nat.zero_le _, Nat.zero_le _⟩) hS (fun q _ h => h) (fun q h => h) (fun r155 u155 t155 H locs ht hvm hu155 hB hz hk hS => ?_)
                        obtain ⟨hP, hD⟩ := hB
                        rw [ht] at hP
                        obtain ⟨e155, kn155, tr155, tu155, hki155, hu155⟩ := hu155
                        subst e155
                        subst hu155
                        have hP : va_P X.1 classes (rw_ X (rU_st (rU_tu (rU_tr (rU_kn G kn155) tr155) tu155) false) A) H := hP
                        have hD : va_D Af (rw_ X (rU_st (rU_tu (rU_tr (rU_kn G kn155) tr155) tu155) false) A) := hD
                        refine lv_if_ne (tgt := 163) hx hb d_M_may_158 rfl (fun h158 => ?_) (fun h158 => ?_)
                        ·
                          have h158 := b2i_t h158
                          refine lv_iload_n hx hb d_M_may_163 rfl (lv_at hl 3 rfl) ?_
                          refine lv_iload_n hx hb d_M_may_164 rfl (lv_at hl 6 rfl) ?_
                          refine vp_callSi (W.runS (As := [.int (nI (sA_pl A i)), .int (nI q)]) (rest := []) ⟨hx, hb, hml, hown, hts⟩ (c_M_byFront l X (nI (sA_pl A i)) (nI q)) (va_cwS 2 hts (gT (wd_3 66 rfl rfl) (wd_3 67 rfl rfl) (wd_1 6 rfl rfl) (wd_3 68 rfl rfl)) rfl rfl rfl hd_M_byFront ⟨Nat.le_of_ble_eq_true rfl, Nat.le_of_ble_eq_true rfl⟩) (vx_preS (P := fun _ => True) trivial hK) rfl rfl hl.1 rfl (lv_room (Nat.le_of_ble_eq_true rfl)) d_M_may_165 ⟨Nat.zero_le _, Nat.zero_le _⟩) (fun r165 e165 => ?_)
                          subst e165
                          rw [front_nI _ (by omega) _ hq]
                          refine lv_if_eq (tgt := 181) hx hb d_M_may_168 rfl (fun h168 => ?_) (fun h168 => ?_)
                          ·
                            have h168 := b2i_f h168
                            refine lv_aload_n hx hb d_M_may_181 rfl (lv_at hl 4 rfl) ?_
                            refine va_get (D := X.1) (ci := 6) (C := R_Model) (T := F_Model) (N := 24) hx hb hts hin_Model hown hK.1 hP 0 rw_0 rfl 17 (by decide) (hts _ (wd_2 171 rfl rfl)) (fun _ h9 => h9) rfl d_M_may_182 ?_
                            refine lv_if_eq (tgt := 192) hx hb d_M_may_185 rfl (fun h185 => ?_) (fun h185 => ?_)
                            ·
                              have h185 := b2i_f h185
                              refine lv_iconst (v := 0) hx hb d_M_may_192 rfl ?_
                              exact W.iret (v := 0) hx hb hrt (fun t ht hW => ⟨⟨_, ((rU_st (rU_tu (rU_tr (rU_kn G kn155) tr155) tu155) false), A), rfl, ⟨by rw [mayF_nI hI hi hq, mayN, if_neg hun, if_neg (show ¬ leadN _ _ _ _ = false by rw [h63]; decide), if_neg htk, if_neg (show ¬ canE (envA A) (toS (envA A) (sitAft A i q)) = false by rw [← (show canC (envA A) (enc9 (sitAft A i q)) = canE (envA A) (toS (envA A) (sitAft A i q)) from by show canE _ (toS _ (dig9 _)) = _; rw [hd9]), h158]; decide), busyF, if_pos (bnot_f h168), if_neg (nt_of h185)], kn155, tr155, tu155, false, Or.inr hki155, rfl⟩, ⟨by rw [ht]; exact hP, hD⟩⟩, hS.F ht⟩) hS.2.2 d_M_may_193
                            ·
                              have h185 := b2i_t h185
                              refine lv_iconst (v := 5) hx hb d_M_may_188 rfl ?_
                              refine lv_goto (tgt := 193) hx hb d_M_may_189 rfl ?_
                              exact W.iret (v := 5) hx hb hrt (fun t ht hW => ⟨⟨_, ((rU_st (rU_tu (rU_tr (rU_kn G kn155) tr155) tu155) false), A), rfl, ⟨by rw [mayF_nI hI hi hq, mayN, if_neg hun, if_neg (show ¬ leadN _ _ _ _ = false by rw [h63]; decide), if_neg htk, if_neg (show ¬ canE (envA A) (toS (envA A) (sitAft A i q)) = false by rw [← (show canC (envA A) (enc9 (sitAft A i q)) = canE (envA A) (toS (envA A) (sitAft A i q)) from by show canE _ (toS _ (dig9 _)) = _; rw [hd9]), h158]; decide), busyF, if_pos (bnot_f h168), if_pos h185], kn155, tr155, tu155, false, Or.inr hki155, rfl⟩, ⟨by rw [ht]; exact hP, hD⟩⟩, hS.F ht⟩) hS.2.2 d_M_may_193
                          ·
                            have h168 := b2i_t h168
                            refine lv_aload_n hx hb d_M_may_171 rfl (lv_at hl 4 rfl) ?_
                            refine va_get (D := X.1) (ci := 6) (C := R_Model) (T := F_Model) (N := 24) hx hb hts hin_Model hown hK.1 hP 0 rw_0 rfl 16 (by decide) (hts _ (wd_2 170 rfl rfl)) (fun _ h9 => h9) rfl d_M_may_172 ?_
                            refine lv_if_eq (tgt := 192) hx hb d_M_may_175 rfl (fun h175 => ?_) (fun h175 => ?_)
                            ·
                              have h175 := b2i_f h175
                              refine lv_iconst (v := 0) hx hb d_M_may_192 rfl ?_
                              exact W.iret (v := 0) hx hb hrt (fun t ht hW => ⟨⟨_, ((rU_st (rU_tu (rU_tr (rU_kn G kn155) tr155) tu155) false), A), rfl, ⟨by rw [mayF_nI hI hi hq, mayN, if_neg hun, if_neg (show ¬ leadN _ _ _ _ = false by rw [h63]; decide), if_neg htk, if_neg (show ¬ canE (envA A) (toS (envA A) (sitAft A i q)) = false by rw [← (show canC (envA A) (enc9 (sitAft A i q)) = canE (envA A) (toS (envA A) (sitAft A i q)) from by show canE _ (toS _ (dig9 _)) = _; rw [hd9]), h158]; decide), busyF, if_neg (nt_of (bnot_t h168)), if_neg (nt_of h175)], kn155, tr155, tu155, false, Or.inr hki155, rfl⟩, ⟨by rw [ht]; exact hP, hD⟩⟩, hS.F ht⟩) hS.2.2 d_M_may_193
                            ·
                              have h175 := b2i_t h175
                              refine lv_goto (tgt := 188) hx hb d_M_may_178 rfl ?_
                              refine lv_iconst (v := 5) hx hb d_M_may_188 rfl ?_
                              refine lv_goto (tgt := 193) hx hb d_M_may_189 rfl ?_
                              exact W.iret (v := 5) hx hb hrt (fun t ht hW => ⟨⟨_, ((rU_st (rU_tu (rU_tr (rU_kn G kn155) tr155) tu155) false), A), rfl, ⟨by rw [mayF_nI hI hi hq, mayN, if_neg hun, if_neg (show ¬ leadN _ _ _ _ = false by rw [h63]; decide), if_neg htk, if_neg (show ¬ canE (envA A) (toS (envA A) (sitAft A i q)) = false by rw [← (show canC (envA A) (enc9 (sitAft A i q)) = canE (envA A) (toS (envA A) (sitAft A i q)) from by show canE _ (toS _ (dig9 _)) = _; rw [hd9]), h158]; decide), busyF, if_neg (nt_of (bnot_t h168)), if_pos h175], kn155, tr155, tu155, false, Or.inr hki155, rfl⟩, ⟨by rw [ht]; exact hP, hD⟩⟩, hS.F ht⟩) hS.2.2 d_M_may_193
                        ·
                          have h158 := b2i_f h158
                          refine lv_iconst (v := 4) hx hb d_M_may_161 rfl ?_
                          exact W.iret (v := 4) hx hb hrt (fun t ht hW => ⟨⟨_, ((rU_st (rU_tu (rU_tr (rU_kn G kn155) tr155) tu155) false), A), rfl, ⟨by rw [mayF_nI hI hi hq, mayN, if_neg hun, if_neg (show ¬ leadN _ _ _ _ = false by rw [h63]; decide), if_neg htk, if_pos (show canE (envA A) (toS (envA A) (sitAft A i q)) = false by rw [← (show canC (envA A) (enc9 (sitAft A i q)) = canE (envA A) (toS (envA A) (sitAft A i q)) from by show canE _ (toS _ (dig9 _)) = _; rw [hd9])]; exact h158)], kn155, tr155, tu155, false, Or.inr hki155, rfl⟩, ⟨by rw [ht]; exact hP, hD⟩⟩, hS.F ht⟩) hS.2.2 d_M_may_162
                    ·
                      refine lv_iload hx hb d_M_may_123 (lv_at hl 0 rfl) ?_
                      refine lv_goto (tgt := 150) hx hb d_M_may_125 rfl ?_
                      refine lv_istore (lv' := [(6, .int (nI (enc9 (sit1 A i)))), (5, .int (f_M_digitOf A i)), (4, .int (inP A q)), (3, .int (nI (sA_pl A i))), (0, .ref (rA_ad G 0)), (1, .int (nI i)), (2, .int (nI q))]) hx hb d_M_may_150 hl (by decide) rfl (fun ls hl => ?_)
                      rw [← sitAft_5 (pl5 (by omega) h120)] at hl
                      have hl := hl
                      obtain ⟨hd9, hlt9⟩ := sitAft_d hI hi hq h63
                      refine lv_aload_n hx hb d_M_may_152 rfl (lv_at hl 4 rfl) ?_
                      refine lv_iload hx hb d_M_may_153 (lv_at hl 0 rfl) ?_
                      refine va_calli (va_runV (As := [.int (nI (enc9 (sitAft A i q)))]) (rest := []) ⟨hx, hb, hml, hown, hts⟩ (c_M_canBeEmptied l X G A Af (enc9 (sitAft A i q)) hR hRR hlt9 (by rw [hd9]; exact ok9_sitAft hI hi hq h63)) (cwV 1 hts (gV (wd_3 14 rfl rfl) (wd_3 16 rfl rfl) (wd_s 15 rfl) (wd_1 6 rfl rfl) (wd_3 17 rfl rfl)) rfl rfl rfl ⟨rfl, hd_M_canBeEmptied⟩ ⟨Nat.le_of_ble_eq_true rfl, Nat.le_of_ble_eq_true rfl⟩) (vx_preV (P := QW X Af G A) ⟨hP, hD⟩ hK (va_recv hK.1 hP (ci := 6) rfl rw_0)) rfl rfl hl.1 rfl (lv_room (Nat.le_of_ble_eq_true rfl)) d_M_may_155 ⟨Nat.zero_le _, Nat.zero_le _⟩) hS (fun q _ h => h) (fun q h => h) (fun r155 u155 t155 H locs ht hvm hu155 hB hz hk hS => ?_)
                      obtain ⟨hP, hD⟩ := hB
                      rw [ht] at hP
                      obtain ⟨e155, kn155, tr155, tu155, hki155, hu155⟩ := hu155
                      subst e155
                      subst hu155
                      have hP : va_P X.1 classes (rw_ X (rU_st (rU_tu (rU_tr (rU_kn G kn155) tr155) tu155) false) A) H := hP
                      have hD : va_D Af (rw_ X (rU_st (rU_tu (rU_tr (rU_kn G kn155) tr155) tu155) false) A) := hD
                      refine lv_if_ne (tgt := 163) hx hb d_M_may_158 rfl (fun h158 => ?_) (fun h158 => ?_)
                      ·
                        have h158 := b2i_t h158
                        refine lv_iload_n hx hb d_M_may_163 rfl (lv_at hl 3 rfl) ?_
                        refine lv_iload_n hx hb d_M_may_164 rfl (lv_at hl 6 rfl) ?_
                        refine vp_callSi (W.runS (As := [.int (nI (sA_pl A i)), .int (nI q)]) (rest := []) ⟨hx, hb, hml, hown, hts⟩ (c_M_byFront l X (nI (sA_pl A i)) (nI q)) (va_cwS 2 hts (gT (wd_3 66 rfl rfl) (wd_3 67 rfl rfl) (wd_1 6 rfl rfl) (wd_3 68 rfl rfl)) rfl rfl rfl hd_M_byFront ⟨Nat.le_of_ble_eq_true rfl, Nat.le_of_ble_eq_true rfl⟩) (vx_preS (P := fun _ => True) trivial hK) rfl rfl hl.1 rfl (lv_room (Nat.le_of_ble_eq_true rfl)) d_M_may_165 ⟨Nat.zero_le _, Nat.zero_le _⟩) (fun r165 e165 => ?_)
                        subst e165
                        rw [front_nI _ (by omega) _ hq]
                        refine lv_if_eq (tgt := 181) hx hb d_M_may_168 rfl (fun h168 => ?_) (fun h168 => ?_)
                        ·
                          have h168 := b2i_f h168
                          refine lv_aload_n hx hb d_M_may_181 rfl (lv_at hl 4 rfl) ?_
                          refine va_get (D := X.1) (ci := 6) (C := R_Model) (T := F_Model) (N := 24) hx hb hts hin_Model hown hK.1 hP 0 rw_0 rfl 17 (by decide) (hts _ (wd_2 171 rfl rfl)) (fun _ h9 => h9) rfl d_M_may_182 ?_
                          refine lv_if_eq (tgt := 192) hx hb d_M_may_185 rfl (fun h185 => ?_) (fun h185 => ?_)
                          ·
                            have h185 := b2i_f h185
                            refine lv_iconst (v := 0) hx hb d_M_may_192 rfl ?_
                            exact W.iret (v := 0) hx hb hrt (fun t ht hW => ⟨⟨_, ((rU_st (rU_tu (rU_tr (rU_kn G kn155) tr155) tu155) false), A), rfl, ⟨by rw [mayF_nI hI hi hq, mayN, if_neg hun, if_neg (show ¬ leadN _ _ _ _ = false by rw [h63]; decide), if_neg htk, if_neg (show ¬ canE (envA A) (toS (envA A) (sitAft A i q)) = false by rw [← (show canC (envA A) (enc9 (sitAft A i q)) = canE (envA A) (toS (envA A) (sitAft A i q)) from by show canE _ (toS _ (dig9 _)) = _; rw [hd9]), h158]; decide), busyF, if_pos (bnot_f h168), if_neg (nt_of h185)], kn155, tr155, tu155, false, Or.inr hki155, rfl⟩, ⟨by rw [ht]; exact hP, hD⟩⟩, hS.F ht⟩) hS.2.2 d_M_may_193
                          ·
                            have h185 := b2i_t h185
                            refine lv_iconst (v := 5) hx hb d_M_may_188 rfl ?_
                            refine lv_goto (tgt := 193) hx hb d_M_may_189 rfl ?_
                            exact W.iret (v := 5) hx hb hrt (fun t ht hW => ⟨⟨_, ((rU_st (rU_tu (rU_tr (rU_kn G kn155) tr155) tu155) false), A), rfl, ⟨by rw [mayF_nI hI hi hq, mayN, if_neg hun, if_neg (show ¬ leadN _ _ _ _ = false by rw [h63]; decide), if_neg htk, if_neg (show ¬ canE (envA A) (toS (envA A) (sitAft A i q)) = false by rw [← (show canC (envA A) (enc9 (sitAft A i q)) = canE (envA A) (toS (envA A) (sitAft A i q)) from by show canE _ (toS _ (dig9 _)) = _; rw [hd9]), h158]; decide), busyF, if_pos (bnot_f h168), if_pos h185], kn155, tr155, tu155, false, Or.inr hki155, rfl⟩, ⟨by rw [ht]; exact hP, hD⟩⟩, hS.F ht⟩) hS.2.2 d_M_may_193
                        ·
                          have h168 := b2i_t h168
                          refine lv_aload_n hx hb d_M_may_171 rfl (lv_at hl 4 rfl) ?_
                          refine va_get (D := X.1) (ci := 6) (C := R_Model) (T := F_Model) (N := 24) hx hb hts hin_Model hown hK.1 hP 0 rw_0 rfl 16 (by decide) (hts _ (wd_2 170 rfl rfl)) (fun _ h9 => h9) rfl d_M_may_172 ?_
                          refine lv_if_eq (tgt := 192) hx hb d_M_may_175 rfl (fun h175 => ?_) (fun h175 => ?_)
                          ·
                            have h175 := b2i_f h175
                            refine lv_iconst (v := 0) hx hb d_M_may_192 rfl ?_
                            exact W.iret (v := 0) hx hb hrt (fun t ht hW => ⟨⟨_, ((rU_st (rU_tu (rU_tr (rU_kn G kn155) tr155) tu155) false), A), rfl, ⟨by rw [mayF_nI hI hi hq, mayN, if_neg hun, if_neg (show ¬ leadN _ _ _ _ = false by rw [h63]; decide), if_neg htk, if_neg (show ¬ canE (envA A) (toS (envA A) (sitAft A i q)) = false by rw [← (show canC (envA A) (enc9 (sitAft A i q)) = canE (envA A) (toS (envA A) (sitAft A i q)) from by show canE _ (toS _ (dig9 _)) = _; rw [hd9]), h158]; decide), busyF, if_neg (nt_of (bnot_t h168)), if_neg (nt_of h175)], kn155, tr155, tu155, false, Or.inr hki155, rfl⟩, ⟨by rw [ht]; exact hP, hD⟩⟩, hS.F ht⟩) hS.2.2 d_M_may_193
                          ·
                            have h175 := b2i_t h175
                            refine lv_goto (tgt := 188) hx hb d_M_may_178 rfl ?_
                            refine lv_iconst (v := 5) hx hb d_M_may_188 rfl ?_
                            refine lv_goto (tgt := 193) hx hb d_M_may_189 rfl ?_
                            exact W.iret (v := 5) hx hb hrt (fun t ht hW => ⟨⟨_, ((rU_st (rU_tu (rU_tr (rU_kn G kn155) tr155) tu155) false), A), rfl, ⟨by rw [mayF_nI hI hi hq, mayN, if_neg hun, if_neg (show ¬ leadN _ _ _ _ = false by rw [h63]; decide), if_neg htk, if_neg (show ¬ canE (envA A) (toS (envA A) (sitAft A i q)) = false by rw [← (show canC (envA A) (enc9 (sitAft A i q)) = canE (envA A) (toS (envA A) (sitAft A i q)) from by show canE _ (toS _ (dig9 _)) = _; rw [hd9]), h158]; decide), busyF, if_neg (nt_of (bnot_t h168)), if_pos h175], kn155, tr155, tu155, false, Or.inr hki155, rfl⟩, ⟨by rw [ht]; exact hP, hD⟩⟩, hS.F ht⟩) hS.2.2 d_M_may_193
                      ·
                        have h158 := b2i_f h158
                        refine lv_iconst (v := 4) hx hb d_M_may_161 rfl ?_
                        exact W.iret (v := 4) hx hb hrt (fun t ht hW => ⟨⟨_, ((rU_st (rU_tu (rU_tr (rU_kn G kn155) tr155) tu155) false), A), rfl, ⟨by rw [mayF_nI hI hi hq, mayN, if_neg hun, if_neg (show ¬ leadN _ _ _ _ = false by rw [h63]; decide), if_neg htk, if_pos (show canE (envA A) (toS (envA A) (sitAft A i q)) = false by rw [← (show canC (envA A) (enc9 (sitAft A i q)) = canE (envA A) (toS (envA A) (sitAft A i q)) from by show canE _ (toS _ (dig9 _)) = _; rw [hd9])]; exact h158)], kn155, tr155, tu155, false, Or.inr hki155, rfl⟩, ⟨by rw [ht]; exact hP, hD⟩⟩, hS.F ht⟩) hS.2.2 d_M_may_162
                ·
                  refine lv_iconst (v := 3) hx hb d_M_may_86 rfl ?_
                  exact W.iret (v := 3) hx hb hrt (fun t ht hW => ⟨⟨_, ((rU_st (rU_tu (rU_tr (rU_kn G (rA_kn G)) (rA_tr G)) (rA_tu G)) (rA_st G)), A), rfl, ⟨by rw [mayF_nI hI hi hq, mayN, if_neg hun, if_neg (show ¬ leadN _ _ _ _ = false by rw [h63]; decide), if_pos (tak_yes hI hi h77 h83)], (rA_kn G), (rA_tr G), (rA_tu G), (rA_st G), hRR, rfl⟩, ⟨by rw [ht]; exact hP, hD⟩⟩, hS.F ht⟩) hS.2.2 d_M_may_87
            ·
              have h63 := b2i_f h63
              refine lv_iconst (v := 2) hx hb d_M_may_66 rfl ?_
              exact W.iret (v := 2) hx hb hrt (fun t ht hW => ⟨⟨_, ((rU_st (rU_tu (rU_tr (rU_kn G (rA_kn G)) (rA_tr G)) (rA_tu G)) (rA_st G)), A), rfl, ⟨by rw [mayF_nI hI hi hq, mayN, if_neg hun, if_pos h63], (rA_kn G), (rA_tr G), (rA_tu G), (rA_st G), hRR, rfl⟩, ⟨by rw [ht]; exact hP, hD⟩⟩, hS.F ht⟩) hS.2.2 d_M_may_67
          ·
            have h40 := b2i_t h40
            refine lv_iconst (v := 1) hx hb d_M_may_43 rfl ?_
            exact W.iret (v := 1) hx hb hrt (fun t ht hW => ⟨⟨_, ((rU_st (rU_tu (rU_tr (rU_kn G (rA_kn G)) (rA_tr G)) (rA_tu G)) (rA_st G)), A), rfl, ⟨by rw [mayF_nI hI hi hq, mayN, if_pos (Or.inr h40)], (rA_kn G), (rA_tr G), (rA_tu G), (rA_st G), hRR, rfl⟩, ⟨by rw [ht]; exact hP, hD⟩⟩, hS.F ht⟩) hS.2.2 d_M_may_44
      ·
        refine lv_iconst (v := (-1)) hx hb d_M_may_17 rfl ?_
        exact W.iret (v := (-1)) hx hb hrt (fun t ht hW => ⟨⟨_, ((rU_st (rU_tu (rU_tr (rU_kn G (rA_kn G)) (rA_tr G)) (rA_tu G)) (rA_st G)), A), rfl, ⟨(mayF_n2 hn hi (pidx_no2 h14)).symm, (rA_kn G), (rA_tr G), (rA_tu G), (rA_st G), hRR, rfl⟩, ⟨by rw [ht]; exact hP, hD⟩⟩, hS.F ht⟩) hS.2.2 d_M_may_18
