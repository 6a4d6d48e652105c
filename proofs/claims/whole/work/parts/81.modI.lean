abbrev rm_M_ages : Room := { frames := 0, cells := 0, slots := 0, locals := 0 }
set_option maxRecDepth 20000 in
set_option maxHeartbeats 4000000 in
theorem c_M_ages (l : Launch) (X : Xt) (G : Gr) (A : St) (Af : Nat → Prop) (i : Nat) (hag : AG A i) : Met l y_M_ages (Cond.code y_M_ages b_M_ages 4 (some .boolean) :: WA) rm_M_ages (va_Pc [.ref (rA_ad G 0), .int (nI i)] (fun U => QW X Af G A U.heap ∧ KK X U)) (va_Qi (fun ans u => ans = b2i (agF A i) ∧ u = (G, agA A i)) (atR X Af) Af) 0 0 Af := by
  refine vx_met (cc := b_M_ages) (maxL := 4) (ret := (some .boolean)) (by decide) rfl (Nat.le_of_ble_eq_true rfl) ?_
  intro p e s m below meth c ls hx hb hrt hts hown hlocks hname hml hB hl
  obtain ⟨hP, hK⟩ := hB
  have hown : s.vm.findClass R_Model = some m.cls := hown
  have hl : lv_has ls 4 [(0, .ref (rA_ad G 0)), (1, .int (nI i))] := hl
  have hD : va_D Af (rw_ X G A) := hP.2
  have hP : va_P X.1 classes (rw_ X G A) s.heap := hP.1
  have hS : va_S Af s.heap s.heap [] := va_S.rf
  obtain ⟨a1, a2, a3, a4, a5, a6, a7, a8⟩ := hag
  refine lv_aload_n hx hb d_M_ages_0 rfl (lv_at hl 0 rfl) ?_
  refine va_get (D := X.1) (ci := 6) (C := R_Model) (T := F_Model) (N := 24) hx hb hts hin_Model hown hK.1 hP 0 rw_0 rfl 7 (by decide) (hts _ (wd_2 161 rfl rfl)) (fun _ h9 => h9) rfl d_M_ages_1 ?_
  refine lv_iload_n hx hb d_M_ages_4 rfl (lv_at hl 1 rfl) ?_
  refine va_iald hx hb hK.1 hP 7 0 rw_7 rfl (vp_in_nI (n := i) (by omega) (by omega)) d_M_ages_5 ?_
  rw [nI_clamp (n := i) (by omega)]
  refine lv_iconst (v := 3) hx hb d_M_ages_6 rfl ?_
  refine lv_icmp_gt (tgt := 24) hx hb d_M_ages_7 rfl (fun h7 => ?_) (fun h7 => ?_)
  ·
    refine lv_iconst (v := 0) hx hb d_M_ages_24 rfl ?_
    exact W.zret (v := b2i false) hx hb hrt (b2i_nar _) (fun t ht hW => ⟨⟨_, (G, A), rfl, ⟨(ag_no (A := A) (i := i) (fun z => nd4 h7 z.1)).1, Prod.ext rfl (ag_no (A := A) (i := i) (fun z => nd4 h7 z.1)).2⟩, ⟨by rw [ht]; exact hP, hD⟩⟩, hS.F ht⟩) hS.2.2 d_M_ages_25
  ·
    have hp4 := dn4 a2 h7
    have hg1 := a5 hp4
    have hlm := a8 hp4
    refine lv_aload_n hx hb d_M_ages_10 rfl (lv_at hl 0 rfl) ?_
    refine va_get (D := X.1) (ci := 6) (C := R_Model) (T := F_Model) (N := 24) hx hb hts hin_Model hown hK.1 hP 0 rw_0 rfl 14 (by decide) (hts _ (wd_2 168 rfl rfl)) (fun _ h9 => h9) rfl d_M_ages_11 ?_
    refine lv_aload_n hx hb d_M_ages_14 rfl (lv_at hl 0 rfl) ?_
    refine va_get (D := X.1) (ci := 6) (C := R_Model) (T := F_Model) (N := 24) hx hb hts hin_Model hown hK.1 hP 0 rw_0 rfl 7 (by decide) (hts _ (wd_2 161 rfl rfl)) (fun _ h9 => h9) rfl d_M_ages_15 ?_
    refine lv_iload_n hx hb d_M_ages_18 rfl (lv_at hl 1 rfl) ?_
    refine va_iald hx hb hK.1 hP 7 0 rw_7 rfl (vp_in_nI (n := i) (by omega) (by omega)) d_M_ages_19 ?_
    rw [nI_clamp (n := i) (by omega)]
    refine va_zald hx hb hK.1 hP 14 2 rw_14 rfl (vp_in_nI (n := sA_pl A i) (by omega) (by omega)) d_M_ages_20 ?_
    rw [nI_clamp (n := sA_pl A i) (by omega)]
    refine lv_if_eq (tgt := 26) hx hb d_M_ages_21 rfl (fun h21 => ?_) (fun h21 => ?_)
    ·
      have h21 := b2i_f h21
      refine lv_aload_n hx hb d_M_ages_26 rfl (lv_at hl 0 rfl) ?_
      refine va_get (D := X.1) (ci := 6) (C := R_Model) (T := F_Model) (N := 24) hx hb hts hin_Model hown hK.1 hP 0 rw_0 rfl 8 (by decide) (hts _ (wd_2 162 rfl rfl)) (fun _ h9 => h9) rfl d_M_ages_27 ?_
      refine lv_iload_n hx hb d_M_ages_30 rfl (lv_at hl 1 rfl) ?_
      refine va_iald hx hb hK.1 hP 8 0 rw_8 rfl (vp_in_nI (n := i) (by omega) (by omega)) d_M_ages_31 ?_
      rw [nI_clamp (n := i) (by omega)]
      refine lv_if_le (tgt := 81) hx hb d_M_ages_32 rfl (fun h32 => ?_) (fun h32 => ?_)
      ·
        refine lv_aload_n hx hb d_M_ages_81 rfl (lv_at hl 0 rfl) ?_
        refine va_get (D := X.1) (ci := 6) (C := R_Model) (T := F_Model) (N := 24) hx hb hts hin_Model hown hK.1 hP 0 rw_0 rfl 9 (by decide) (hts _ (wd_2 163 rfl rfl)) (fun _ h9 => h9) rfl d_M_ages_82 ?_
        refine lv_iload_n hx hb d_M_ages_85 rfl (lv_at hl 1 rfl) ?_
        refine lv_dup2_11 hx hb d_M_ages_86 rfl rfl ?_
        refine va_iald hx hb hK.1 hP 9 0 rw_9 rfl (vp_in_nI (n := i) (by omega) (by omega)) d_M_ages_87 ?_
        rw [nI_clamp (n := i) (by omega)]
        refine lv_iconst (v := 1) hx hb d_M_ages_88 rfl ?_
        refine lv_iadd hx hb d_M_ages_89 ?_
        rw [nI_1]
        refine va_iast hx hb hK.1 hP hD hS 9 0 rw_9 rfl (vp_in_nI (n := i) (by omega) (by omega)) d_M_ages_90 (fun H locs hP hD hS => ?_)
        rw [nI_clamp (n := i) (by omega)] at hP hD
        replace hP := vx_P (rw_s_sn (X := X) (G := G) (A := A) (k := i) (v := sA_sn A i + 1)) hP
        replace hD := vx_D (rw_s_sn (X := X) (G := G) (A := A) (k := i) (v := sA_sn A i + 1)) hD
        refine lv_aload_n hx hb d_M_ages_91 rfl (lv_at hl 0 rfl) ?_
        refine va_get (D := X.1) (ci := 6) (C := R_Model) (T := F_Model) (N := 24) hx hb hts hin_Model hown hK.1 hP 0 rw_0 rfl 3 (by decide) (hts _ (wd_2 157 rfl rfl)) (fun _ h9 => h9) rfl d_M_ages_92 ?_
        refine lv_iconst (v := 3) hx hb d_M_ages_95 rfl ?_
        refine lv_aload_n hx hb d_M_ages_96 rfl (lv_at hl 0 rfl) ?_
        refine va_get (D := X.1) (ci := 6) (C := R_Model) (T := F_Model) (N := 24) hx hb hts hin_Model hown hK.1 hP 0 rw_0 rfl 5 (by decide) (hts _ (wd_2 159 rfl rfl)) (fun _ h9 => h9) rfl d_M_ages_97 ?_
        refine lv_iload_n hx hb d_M_ages_100 rfl (lv_at hl 1 rfl) ?_
        refine va_iald hx hb hK.1 hP 5 0 rw_5 rfl (vp_in_nI (n := i) (by omega) (by omega)) d_M_ages_101 ?_
        rw [nI_clamp (n := i) (by omega)]
        refine lv_imul hx hb d_M_ages_102 ?_
        refine lv_aload_n hx hb d_M_ages_103 rfl (lv_at hl 0 rfl) ?_
        refine va_get (D := X.1) (ci := 6) (C := R_Model) (T := F_Model) (N := 24) hx hb hts hin_Model hown hK.1 hP 0 rw_0 rfl 6 (by decide) (hts _ (wd_2 160 rfl rfl)) (fun _ h9 => h9) rfl d_M_ages_104 ?_
        refine lv_iload_n hx hb d_M_ages_107 rfl (lv_at hl 1 rfl) ?_
        refine va_iald hx hb hK.1 hP 6 0 rw_6 rfl (vp_in_nI (n := i) (by omega) (by omega)) d_M_ages_108 ?_
        rw [nI_clamp (n := i) (by omega)]
        refine lv_iadd hx hb d_M_ages_109 ?_
        refine lv_iconst (v := 1) hx hb d_M_ages_110 rfl ?_
        refine lv_isub hx hb d_M_ages_111 ?_
        rw [idx3m hg1]
        refine va_iald hx hb hK.1 hP 4 0 rw_4 rfl (vp_in_nI (n := 3 * (sA_rt A i) + (sA_sg A i - 1)) (by omega) (by omega)) d_M_ages_112 ?_
        rw [nI_clamp (n := 3 * (sA_rt A i) + (sA_sg A i - 1)) (by omega)]
        rw [show (3 * (sA_rt A i) + (sA_sg A i - 1)) / 3 = (sA_rt A i) by omega, show (3 * (sA_rt A i) + (sA_sg A i - 1)) % 3 = (sA_sg A i - 1) by omega]
        refine lv_topi (fun z113 ez => ?_)
        have ez : z113 = nI (lmt A i) := ez.trans (rfl)
        subst ez
        refine lv_istore_n (lv' := [(2, .int (nI (lmt A i))), (0, .ref (rA_ad G 0)), (1, .int (nI i))]) hx hb d_M_ages_113 rfl hl (by decide) rfl (fun ls hl => ?_)
        refine lv_iload_n hx hb d_M_ages_114 rfl (lv_at hl 0 rfl) ?_
        refine lv_if_le (tgt := 141) hx hb d_M_ages_115 rfl (fun h115 => ?_) (fun h115 => ?_)
        ·
          refine lv_iconst (v := 0) hx hb d_M_ages_141 rfl ?_
          refine lv_istore_n (lv' := [(3, .int 0), (2, .int (nI (lmt A i))), (0, .ref (rA_ad G 0)), (1, .int (nI i))]) hx hb d_M_ages_142 rfl hl (by decide) rfl (fun ls hl => ?_)
          refine lv_aload_n hx hb d_M_ages_143 rfl (lv_at hl 2 rfl) ?_
          refine va_get (D := X.1) (ci := 6) (C := R_Model) (T := F_Model) (N := 24) hx hb hts hin_Model hown hK.1 hP 0 rw_0 rfl 10 (by decide) (hts _ (wd_2 164 rfl rfl)) (fun _ h9 => h9) rfl d_M_ages_144 ?_
          refine lv_iload_n hx hb d_M_ages_147 rfl (lv_at hl 3 rfl) ?_
          refine lv_aload_n hx hb d_M_ages_148 rfl (lv_at hl 2 rfl) ?_
          refine va_get (D := X.1) (ci := 6) (C := R_Model) (T := F_Model) (N := 24) hx hb hts hin_Model hown hK.1 hP 0 rw_0 rfl 10 (by decide) (hts _ (wd_2 164 rfl rfl)) (fun _ h9 => h9) rfl d_M_ages_149 ?_
          refine lv_iload_n hx hb d_M_ages_152 rfl (lv_at hl 3 rfl) ?_
          refine va_zald hx hb hK.1 hP 10 2 rw_10 rfl (vp_in_nI (n := i) (by omega) (by omega)) d_M_ages_153 ?_
          rw [nI_clamp (n := i) (by omega)]
          refine lv_topi (fun z154 ez => ?_)
          have ez : z154 = b2i (sA_la A i) := ez.trans (rfl)
          subst ez
          refine lv_if_ne (tgt := 161) hx hb d_M_ages_154 rfl (fun h154 => ?_) (fun h154 => ?_)
          ·
            have h154 := b2i_t h154
            refine lv_iconst (v := 1) hx hb d_M_ages_161 rfl ?_
            refine lv_goto (tgt := 166) hx hb d_M_ages_162 rfl ?_
            refine va_zast hx hb hK.1 hP hD hS 10 2 rw_10 rfl (vp_in_nI (n := i) (by omega) (by omega)) d_M_ages_166 (fun H locs hP hD hS => ?_)
            rw [nI_clamp (n := i) (by omega)] at hP hD
            rw [show vp_nar .boolean (1 : Int32) = b2i true from rfl] at hP hD
            replace hP := vx_P (rw_s_la (X := X) (G := G) (A := (sU_sn A (va_up (sA_sn A) i (sA_sn A i + 1)))) (k := i) (v := true)) hP
            replace hD := vx_D (rw_s_la (X := X) (G := G) (A := (sU_sn A (va_up (sA_sn A) i (sA_sn A i + 1)))) (k := i) (v := true)) hD
            refine lv_iload_n hx hb d_M_ages_167 rfl (lv_at hl 0 rfl) ?_
            have hw : agW A i := ⟨hp4, h21⟩
            have hN : agN A i = false := by unfold agN; rw [decide_eq_false (show ¬ 0 < lmt A i from fun z => nI_nle z (by omega) h115)]; rfl
            have hl0 : sA_lf A i = 0 := lf_0 h32 (by omega)
            obtain ⟨g1, g2⟩ := ag_2 hw hl0
            rw [hN, h154] at g1 g2
            exact W.zret (v := b2i false) hx hb hrt (b2i_nar _) (fun t ht hW => ⟨⟨_, (G, (sU_la (sU_sn A (va_up (sA_sn A) i (sA_sn A i + 1))) (va_up (sA_la A) i true))), rfl, ⟨by rw [g1]; rfl, Prod.ext rfl g2.symm⟩, ⟨by rw [ht]; exact hP, hD⟩⟩, hS.F ht⟩) hS.2.2 d_M_ages_168
          ·
            have h154 := b2i_f h154
            refine lv_iload_n hx hb d_M_ages_157 rfl (lv_at hl 0 rfl) ?_
            refine lv_if_eq (tgt := 165) hx hb d_M_ages_158 rfl (fun h158 => ?_) (fun h158 => ?_)
            ·
              refine lv_iconst (v := 0) hx hb d_M_ages_165 rfl ?_
              refine va_zast hx hb hK.1 hP hD hS 10 2 rw_10 rfl (vp_in_nI (n := i) (by omega) (by omega)) d_M_ages_166 (fun H locs hP hD hS => ?_)
              rw [nI_clamp (n := i) (by omega)] at hP hD
              rw [show vp_nar .boolean (0 : Int32) = b2i false from rfl] at hP hD
              replace hP := vx_P (rw_s_la (X := X) (G := G) (A := (sU_sn A (va_up (sA_sn A) i (sA_sn A i + 1)))) (k := i) (v := false)) hP
              replace hD := vx_D (rw_s_la (X := X) (G := G) (A := (sU_sn A (va_up (sA_sn A) i (sA_sn A i + 1)))) (k := i) (v := false)) hD
              refine lv_iload_n hx hb d_M_ages_167 rfl (lv_at hl 0 rfl) ?_
              have hw : agW A i := ⟨hp4, h21⟩
              have hN : agN A i = false := by unfold agN; rw [decide_eq_false (show ¬ 0 < lmt A i from fun z => nI_nle z (by omega) h115)]; rfl
              have hl0 : sA_lf A i = 0 := lf_0 h32 (by omega)
              obtain ⟨g1, g2⟩ := ag_2 hw hl0
              rw [hN, h154] at g1 g2
              exact W.zret (v := b2i false) hx hb hrt (b2i_nar _) (fun t ht hW => ⟨⟨_, (G, (sU_la (sU_sn A (va_up (sA_sn A) i (sA_sn A i + 1))) (va_up (sA_la A) i false))), rfl, ⟨by rw [g1]; rfl, Prod.ext rfl g2.symm⟩, ⟨by rw [ht]; exact hP, hD⟩⟩, hS.F ht⟩) hS.2.2 d_M_ages_168
            ·
              exact absurd (by decide) h158
        ·
          refine lv_aload_n hx hb d_M_ages_118 rfl (lv_at hl 1 rfl) ?_
          refine va_get (D := X.1) (ci := 6) (C := R_Model) (T := F_Model) (N := 24) hx hb hts hin_Model hown hK.1 hP 0 rw_0 rfl 9 (by decide) (hts _ (wd_2 163 rfl rfl)) (fun _ h9 => h9) rfl d_M_ages_119 ?_
          refine lv_iload_n hx hb d_M_ages_122 rfl (lv_at hl 2 rfl) ?_
          refine va_iald hx hb hK.1 hP 9 0 rw_9 rfl (vp_in_nI (n := i) (by omega) (by omega)) d_M_ages_123 ?_
          rw [nI_clamp (n := i) (by omega)]
          refine lv_topi (fun z124 ez => ?_)
          have ez : z124 = nI (sA_sn A i + 1) := ez.trans (congrArg nI (va_up_self _ _ _))
          subst ez
          refine lv_iload_n hx hb d_M_ages_124 rfl (lv_at hl 0 rfl) ?_
          refine lv_icmp_le (tgt := 141) hx hb d_M_ages_125 rfl (fun h125 => ?_) (fun h125 => ?_)
          ·
            refine lv_iconst (v := 0) hx hb d_M_ages_141 rfl ?_
            refine lv_istore_n (lv' := [(3, .int 0), (2, .int (nI (lmt A i))), (0, .ref (rA_ad G 0)), (1, .int (nI i))]) hx hb d_M_ages_142 rfl hl (by decide) rfl (fun ls hl => ?_)
            refine lv_aload_n hx hb d_M_ages_143 rfl (lv_at hl 2 rfl) ?_
            refine va_get (D := X.1) (ci := 6) (C := R_Model) (T := F_Model) (N := 24) hx hb hts hin_Model hown hK.1 hP 0 rw_0 rfl 10 (by decide) (hts _ (wd_2 164 rfl rfl)) (fun _ h9 => h9) rfl d_M_ages_144 ?_
            refine lv_iload_n hx hb d_M_ages_147 rfl (lv_at hl 3 rfl) ?_
            refine lv_aload_n hx hb d_M_ages_148 rfl (lv_at hl 2 rfl) ?_
            refine va_get (D := X.1) (ci := 6) (C := R_Model) (T := F_Model) (N := 24) hx hb hts hin_Model hown hK.1 hP 0 rw_0 rfl 10 (by decide) (hts _ (wd_2 164 rfl rfl)) (fun _ h9 => h9) rfl d_M_ages_149 ?_
            refine lv_iload_n hx hb d_M_ages_152 rfl (lv_at hl 3 rfl) ?_
            refine va_zald hx hb hK.1 hP 10 2 rw_10 rfl (vp_in_nI (n := i) (by omega) (by omega)) d_M_ages_153 ?_
            rw [nI_clamp (n := i) (by omega)]
            refine lv_topi (fun z154 ez => ?_)
            have ez : z154 = b2i (sA_la A i) := ez.trans (rfl)
            subst ez
            refine lv_if_ne (tgt := 161) hx hb d_M_ages_154 rfl (fun h154 => ?_) (fun h154 => ?_)
            ·
              have h154 := b2i_t h154
              refine lv_iconst (v := 1) hx hb d_M_ages_161 rfl ?_
              refine lv_goto (tgt := 166) hx hb d_M_ages_162 rfl ?_
              refine va_zast hx hb hK.1 hP hD hS 10 2 rw_10 rfl (vp_in_nI (n := i) (by omega) (by omega)) d_M_ages_166 (fun H locs hP hD hS => ?_)
              rw [nI_clamp (n := i) (by omega)] at hP hD
              rw [show vp_nar .boolean (1 : Int32) = b2i true from rfl] at hP hD
              replace hP := vx_P (rw_s_la (X := X) (G := G) (A := (sU_sn A (va_up (sA_sn A) i (sA_sn A i + 1)))) (k := i) (v := true)) hP
              replace hD := vx_D (rw_s_la (X := X) (G := G) (A := (sU_sn A (va_up (sA_sn A) i (sA_sn A i + 1)))) (k := i) (v := true)) hD
              refine lv_iload_n hx hb d_M_ages_167 rfl (lv_at hl 0 rfl) ?_
              have hw : agW A i := ⟨hp4, h21⟩
              have hN : agN A i = false := by unfold agN; rw [decide_eq_false (show ¬ lmt A i < sA_sn A i + 1 by have := (nI_leI (a := sA_sn A i + 1) (b := lmt A i) (by omega) (by omega)).mp h125; omega), Bool.and_false]
              have hl0 : sA_lf A i = 0 := lf_0 h32 (by omega)
              obtain ⟨g1, g2⟩ := ag_2 hw hl0
              rw [hN, h154] at g1 g2
              exact W.zret (v := b2i false) hx hb hrt (b2i_nar _) (fun t ht hW => ⟨⟨_, (G, (sU_la (sU_sn A (va_up (sA_sn A) i (sA_sn A i + 1))) (va_up (sA_la A) i true))), rfl, ⟨by rw [g1]; rfl, Prod.ext rfl g2.symm⟩, ⟨by rw [ht]; exact hP, hD⟩⟩, hS.F ht⟩) hS.2.2 d_M_ages_168
            ·
              have h154 := b2i_f h154
              refine lv_iload_n hx hb d_M_ages_157 rfl (lv_at hl 0 rfl) ?_
              refine lv_if_eq (tgt := 165) hx hb d_M_ages_158 rfl (fun h158 => ?_) (fun h158 => ?_)
              ·
                refine lv_iconst (v := 0) hx hb d_M_ages_165 rfl ?_
                refine va_zast hx hb hK.1 hP hD hS 10 2 rw_10 rfl (vp_in_nI (n := i) (by omega) (by omega)) d_M_ages_166 (fun H locs hP hD hS => ?_)
                rw [nI_clamp (n := i) (by omega)] at hP hD
                rw [show vp_nar .boolean (0 : Int32) = b2i false from rfl] at hP hD
                replace hP := vx_P (rw_s_la (X := X) (G := G) (A := (sU_sn A (va_up (sA_sn A) i (sA_sn A i + 1)))) (k := i) (v := false)) hP
                replace hD := vx_D (rw_s_la (X := X) (G := G) (A := (sU_sn A (va_up (sA_sn A) i (sA_sn A i + 1)))) (k := i) (v := false)) hD
                refine lv_iload_n hx hb d_M_ages_167 rfl (lv_at hl 0 rfl) ?_
                have hw : agW A i := ⟨hp4, h21⟩
                have hN : agN A i = false := by unfold agN; rw [decide_eq_false (show ¬ lmt A i < sA_sn A i + 1 by have := (nI_leI (a := sA_sn A i + 1) (b := lmt A i) (by omega) (by omega)).mp h125; omega), Bool.and_false]
                have hl0 : sA_lf A i = 0 := lf_0 h32 (by omega)
                obtain ⟨g1, g2⟩ := ag_2 hw hl0
                rw [hN, h154] at g1 g2
                exact W.zret (v := b2i false) hx hb hrt (b2i_nar _) (fun t ht hW => ⟨⟨_, (G, (sU_la (sU_sn A (va_up (sA_sn A) i (sA_sn A i + 1))) (va_up (sA_la A) i false))), rfl, ⟨by rw [g1]; rfl, Prod.ext rfl g2.symm⟩, ⟨by rw [ht]; exact hP, hD⟩⟩, hS.F ht⟩) hS.2.2 d_M_ages_168
              ·
                exact absurd (by decide) h158
          ·
            refine lv_aload_n hx hb d_M_ages_128 rfl (lv_at hl 1 rfl) ?_
            refine va_get (D := X.1) (ci := 6) (C := R_Model) (T := F_Model) (N := 24) hx hb hts hin_Model hown hK.1 hP 0 rw_0 rfl 10 (by decide) (hts _ (wd_2 164 rfl rfl)) (fun _ h9 => h9) rfl d_M_ages_129 ?_
            refine lv_iload_n hx hb d_M_ages_132 rfl (lv_at hl 2 rfl) ?_
            refine va_zald hx hb hK.1 hP 10 2 rw_10 rfl (vp_in_nI (n := i) (by omega) (by omega)) d_M_ages_133 ?_
            rw [nI_clamp (n := i) (by omega)]
            refine lv_topi (fun z134 ez => ?_)
            have ez : z134 = b2i (sA_la A i) := ez.trans (rfl)
            subst ez
            refine lv_if_ne (tgt := 141) hx hb d_M_ages_134 rfl (fun h134 => ?_) (fun h134 => ?_)
            ·
              have h134 := b2i_t h134
              refine lv_iconst (v := 0) hx hb d_M_ages_141 rfl ?_
              refine lv_istore_n (lv' := [(3, .int 0), (2, .int (nI (lmt A i))), (0, .ref (rA_ad G 0)), (1, .int (nI i))]) hx hb d_M_ages_142 rfl hl (by decide) rfl (fun ls hl => ?_)
              refine lv_aload_n hx hb d_M_ages_143 rfl (lv_at hl 2 rfl) ?_
              refine va_get (D := X.1) (ci := 6) (C := R_Model) (T := F_Model) (N := 24) hx hb hts hin_Model hown hK.1 hP 0 rw_0 rfl 10 (by decide) (hts _ (wd_2 164 rfl rfl)) (fun _ h9 => h9) rfl d_M_ages_144 ?_
              refine lv_iload_n hx hb d_M_ages_147 rfl (lv_at hl 3 rfl) ?_
              refine lv_aload_n hx hb d_M_ages_148 rfl (lv_at hl 2 rfl) ?_
              refine va_get (D := X.1) (ci := 6) (C := R_Model) (T := F_Model) (N := 24) hx hb hts hin_Model hown hK.1 hP 0 rw_0 rfl 10 (by decide) (hts _ (wd_2 164 rfl rfl)) (fun _ h9 => h9) rfl d_M_ages_149 ?_
              refine lv_iload_n hx hb d_M_ages_152 rfl (lv_at hl 3 rfl) ?_
              refine va_zald hx hb hK.1 hP 10 2 rw_10 rfl (vp_in_nI (n := i) (by omega) (by omega)) d_M_ages_153 ?_
              rw [nI_clamp (n := i) (by omega)]
              refine lv_topi (fun z154 ez => ?_)
              have ez : z154 = b2i (sA_la A i) := ez.trans (rfl)
              subst ez
              refine lv_if_ne (tgt := 161) hx hb d_M_ages_154 rfl (fun h154 => ?_) (fun h154 => ?_)
              ·
                have h154 := b2i_t h154
                refine lv_iconst (v := 1) hx hb d_M_ages_161 rfl ?_
                refine lv_goto (tgt := 166) hx hb d_M_ages_162 rfl ?_
                refine va_zast hx hb hK.1 hP hD hS 10 2 rw_10 rfl (vp_in_nI (n := i) (by omega) (by omega)) d_M_ages_166 (fun H locs hP hD hS => ?_)
                rw [nI_clamp (n := i) (by omega)] at hP hD
                rw [show vp_nar .boolean (1 : Int32) = b2i true from rfl] at hP hD
                replace hP := vx_P (rw_s_la (X := X) (G := G) (A := (sU_sn A (va_up (sA_sn A) i (sA_sn A i + 1)))) (k := i) (v := true)) hP
                replace hD := vx_D (rw_s_la (X := X) (G := G) (A := (sU_sn A (va_up (sA_sn A) i (sA_sn A i + 1)))) (k := i) (v := true)) hD
                refine lv_iload_n hx hb d_M_ages_167 rfl (lv_at hl 0 rfl) ?_
                have hw : agW A i := ⟨hp4, h21⟩
                have hN : agN A i = true := by unfold agN; rw [decide_eq_true (show 0 < lmt A i from lf_pos h115), decide_eq_true (show lmt A i < sA_sn A i + 1 from Nat.lt_of_not_le fun z => h125 (nI_le z (by omega)))]; rfl
                have hl0 : sA_lf A i = 0 := lf_0 h32 (by omega)
                obtain ⟨g1, g2⟩ := ag_2 hw hl0
                rw [hN, h154] at g1 g2
                exact W.zret (v := b2i false) hx hb hrt (b2i_nar _) (fun t ht hW => ⟨⟨_, (G, (sU_la (sU_sn A (va_up (sA_sn A) i (sA_sn A i + 1))) (va_up (sA_la A) i true))), rfl, ⟨by rw [g1]; rfl, Prod.ext rfl g2.symm⟩, ⟨by rw [ht]; exact hP, hD⟩⟩, hS.F ht⟩) hS.2.2 d_M_ages_168
              ·
                have h154 := b2i_f h154
                refine lv_iload_n hx hb d_M_ages_157 rfl (lv_at hl 0 rfl) ?_
                refine lv_if_eq (tgt := 165) hx hb d_M_ages_158 rfl (fun h158 => ?_) (fun h158 => ?_)
                ·
                  refine lv_iconst (v := 0) hx hb d_M_ages_165 rfl ?_
                  refine va_zast hx hb hK.1 hP hD hS 10 2 rw_10 rfl (vp_in_nI (n := i) (by omega) (by omega)) d_M_ages_166 (fun H locs hP hD hS => ?_)
                  rw [nI_clamp (n := i) (by omega)] at hP hD
                  rw [show vp_nar .boolean (0 : Int32) = b2i false from rfl] at hP hD
                  replace hP := vx_P (rw_s_la (X := X) (G := G) (A := (sU_sn A (va_up (sA_sn A) i (sA_sn A i + 1)))) (k := i) (v := false)) hP
                  replace hD := vx_D (rw_s_la (X := X) (G := G) (A := (sU_sn A (va_up (sA_sn A) i (sA_sn A i + 1)))) (k := i) (v := false)) hD
                  refine lv_iload_n hx hb d_M_ages_167 rfl (lv_at hl 0 rfl) ?_
                  have hw : agW A i := ⟨hp4, h21⟩
                  exact absurd h134 (nt_of h154)
                ·
                  exact absurd (by decide) h158
            ·
              have h134 := b2i_f h134
              refine lv_iconst (v := 1) hx hb d_M_ages_137 rfl ?_
              refine lv_goto (tgt := 142) hx hb d_M_ages_138 rfl ?_
              refine lv_istore_n (lv' := [(3, .int 1), (2, .int (nI (lmt A i))), (0, .ref (rA_ad G 0)), (1, .int (nI i))]) hx hb d_M_ages_142 rfl hl (by decide) rfl (fun ls hl => ?_)
              refine lv_aload_n hx hb d_M_ages_143 rfl (lv_at hl 2 rfl) ?_
              refine va_get (D := X.1) (ci := 6) (C := R_Model) (T := F_Model) (N := 24) hx hb hts hin_Model hown hK.1 hP 0 rw_0 rfl 10 (by decide) (hts _ (wd_2 164 rfl rfl)) (fun _ h9 => h9) rfl d_M_ages_144 ?_
              refine lv_iload_n hx hb d_M_ages_147 rfl (lv_at hl 3 rfl) ?_
              refine lv_aload_n hx hb d_M_ages_148 rfl (lv_at hl 2 rfl) ?_
              refine va_get (D := X.1) (ci := 6) (C := R_Model) (T := F_Model) (N := 24) hx hb hts hin_Model hown hK.1 hP 0 rw_0 rfl 10 (by decide) (hts _ (wd_2 164 rfl rfl)) (fun _ h9 => h9) rfl d_M_ages_149 ?_
              refine lv_iload_n hx hb d_M_ages_152 rfl (lv_at hl 3 rfl) ?_
              refine va_zald hx hb hK.1 hP 10 2 rw_10 rfl (vp_in_nI (n := i) (by omega) (by omega)) d_M_ages_153 ?_
              rw [nI_clamp (n := i) (by omega)]
              refine lv_topi (fun z154 ez => ?_)
              have ez : z154 = b2i (sA_la A i) := ez.trans (rfl)
              subst ez
              refine lv_if_ne (tgt := 161) hx hb d_M_ages_154 rfl (fun h154 => ?_) (fun h154 => ?_)
              ·
                have h154 := b2i_t h154
                refine lv_iconst (v := 1) hx hb d_M_ages_161 rfl ?_
                refine lv_goto (tgt := 166) hx hb d_M_ages_162 rfl ?_
                refine va_zast hx hb hK.1 hP hD hS 10 2 rw_10 rfl (vp_in_nI (n := i) (by omega) (by omega)) d_M_ages_166 (fun H locs hP hD hS => ?_)
                rw [nI_clamp (n := i) (by omega)] at hP hD
                rw [show vp_nar .boolean (1 : Int32) = b2i true from rfl] at hP hD
                replace hP := vx_P (rw_s_la (X := X) (G := G) (A := (sU_sn A (va_up (sA_sn A) i (sA_sn A i + 1)))) (k := i) (v := true)) hP
                replace hD := vx_D (rw_s_la (X := X) (G := G) (A := (sU_sn A (va_up (sA_sn A) i (sA_sn A i + 1)))) (k := i) (v := true)) hD
                refine lv_iload_n hx hb d_M_ages_167 rfl (lv_at hl 0 rfl) ?_
                have hw : agW A i := ⟨hp4, h21⟩
                exact absurd h154 (nt_of h134)
              ·
                have h154 := b2i_f h154
                refine lv_iload_n hx hb d_M_ages_157 rfl (lv_at hl 0 rfl) ?_
                refine lv_if_eq (tgt := 165) hx hb d_M_ages_158 rfl (fun h158 => ?_) (fun h158 => ?_)
                ·
                  exact absurd h158 (by decide)
                ·
                  refine lv_iconst (v := 1) hx hb d_M_ages_161 rfl ?_
                  refine lv_goto (tgt := 166) hx hb d_M_ages_162 rfl ?_
                  refine va_zast hx hb hK.1 hP hD hS 10 2 rw_10 rfl (vp_in_nI (n := i) (by omega) (by omega)) d_M_ages_166 (fun H locs hP hD hS => ?_)
                  rw [nI_clamp (n := i) (by omega)] at hP hD
                  rw [show vp_nar .boolean (1 : Int32) = b2i true from rfl] at hP hD
                  replace hP := vx_P (rw_s_la (X := X) (G := G) (A := (sU_sn A (va_up (sA_sn A) i (sA_sn A i + 1)))) (k := i) (v := true)) hP
                  replace hD := vx_D (rw_s_la (X := X) (G := G) (A := (sU_sn A (va_up (sA_sn A) i (sA_sn A i + 1)))) (k := i) (v := true)) hD
                  refine lv_iload_n hx hb d_M_ages_167 rfl (lv_at hl 0 rfl) ?_
                  have hw : agW A i := ⟨hp4, h21⟩
                  have hN : agN A i = true := by unfold agN; rw [decide_eq_true (show 0 < lmt A i from lf_pos h115), decide_eq_true (show lmt A i < sA_sn A i + 1 from Nat.lt_of_not_le fun z => h125 (nI_le z (by omega)))]; rfl
                  have hl0 : sA_lf A i = 0 := lf_0 h32 (by omega)
                  obtain ⟨g1, g2⟩ := ag_2 hw hl0
                  rw [hN, h154] at g1 g2
                  exact W.zret (v := b2i true) hx hb hrt (b2i_nar _) (fun t ht hW => ⟨⟨_, (G, (sU_la (sU_sn A (va_up (sA_sn A) i (sA_sn A i + 1))) (va_up (sA_la A) i true))), rfl, ⟨by rw [g1]; rfl, Prod.ext rfl g2.symm⟩, ⟨by rw [ht]; exact hP, hD⟩⟩, hS.F ht⟩) hS.2.2 d_M_ages_168
      ·
        have hlp : 0 < sA_lf A i := lf_pos h32
        refine lv_aload_n hx hb d_M_ages_35 rfl (lv_at hl 0 rfl) ?_
        refine va_get (D := X.1) (ci := 6) (C := R_Model) (T := F_Model) (N := 24) hx hb hts hin_Model hown hK.1 hP 0 rw_0 rfl 8 (by decide) (hts _ (wd_2 162 rfl rfl)) (fun _ h9 => h9) rfl d_M_ages_36 ?_
        refine lv_iload_n hx hb d_M_ages_39 rfl (lv_at hl 1 rfl) ?_
        refine lv_dup2_11 hx hb d_M_ages_40 rfl rfl ?_
        refine va_iald hx hb hK.1 hP 8 0 rw_8 rfl (vp_in_nI (n := i) (by omega) (by omega)) d_M_ages_41 ?_
        rw [nI_clamp (n := i) (by omega)]
        refine lv_iconst (v := 1) hx hb d_M_ages_42 rfl ?_
        refine lv_isub hx hb d_M_ages_43 ?_
        rw [nI_s1 hlp]
        refine va_iast hx hb hK.1 hP hD hS 8 0 rw_8 rfl (vp_in_nI (n := i) (by omega) (by omega)) d_M_ages_44 (fun H locs hP hD hS => ?_)
        rw [nI_clamp (n := i) (by omega)] at hP hD
        replace hP := vx_P (rw_s_lf (X := X) (G := G) (A := A) (k := i) (v := sA_lf A i - 1)) hP
        replace hD := vx_D (rw_s_lf (X := X) (G := G) (A := A) (k := i) (v := sA_lf A i - 1)) hD
        refine lv_aload_n hx hb d_M_ages_45 rfl (lv_at hl 0 rfl) ?_
        refine va_get (D := X.1) (ci := 6) (C := R_Model) (T := F_Model) (N := 24) hx hb hts hin_Model hown hK.1 hP 0 rw_0 rfl 13 (by decide) (hts _ (wd_2 167 rfl rfl)) (fun _ h9 => h9) rfl d_M_ages_46 ?_
        refine lv_iconst (v := 3) hx hb d_M_ages_49 rfl ?_
        refine lv_iload_n hx hb d_M_ages_50 rfl (lv_at hl 1 rfl) ?_
        refine lv_imul hx hb d_M_ages_51 ?_
        refine lv_aload_n hx hb d_M_ages_52 rfl (lv_at hl 0 rfl) ?_
        refine va_get (D := X.1) (ci := 6) (C := R_Model) (T := F_Model) (N := 24) hx hb hts hin_Model hown hK.1 hP 0 rw_0 rfl 6 (by decide) (hts _ (wd_2 160 rfl rfl)) (fun _ h9 => h9) rfl d_M_ages_53 ?_
        refine lv_iload_n hx hb d_M_ages_56 rfl (lv_at hl 1 rfl) ?_
        refine va_iald hx hb hK.1 hP 6 0 rw_6 rfl (vp_in_nI (n := i) (by omega) (by omega)) d_M_ages_57 ?_
        rw [nI_clamp (n := i) (by omega)]
        refine lv_iadd hx hb d_M_ages_58 ?_
        refine lv_iconst (v := 1) hx hb d_M_ages_59 rfl ?_
        refine lv_isub hx hb d_M_ages_60 ?_
        rw [idx3m hg1]
        refine lv_aload_n hx hb d_M_ages_61 rfl (lv_at hl 0 rfl) ?_
        refine va_get (D := X.1) (ci := 6) (C := R_Model) (T := F_Model) (N := 24) hx hb hts hin_Model hown hK.1 hP 0 rw_0 rfl 8 (by decide) (hts _ (wd_2 162 rfl rfl)) (fun _ h9 => h9) rfl d_M_ages_62 ?_
        refine lv_iload_n hx hb d_M_ages_65 rfl (lv_at hl 1 rfl) ?_
        refine va_iald hx hb hK.1 hP 8 0 rw_8 rfl (vp_in_nI (n := i) (by omega) (by omega)) d_M_ages_66 ?_
        rw [nI_clamp (n := i) (by omega)]
        refine lv_topi (fun z67 ez => ?_)
        have ez : z67 = nI (sA_lf A i - 1) := ez.trans (congrArg nI (va_up_self _ _ _))
        subst ez
        refine lv_if_ne (tgt := 77) hx hb d_M_ages_67 rfl (fun h67 => ?_) (fun h67 => ?_)
        ·
          refine lv_iconst (v := (-1)) hx hb d_M_ages_77 rfl ?_
          refine va_iast hx hb hK.1 hP hD hS 13 0 rw_13 rfl (vp_in_nI (n := 3 * i + (sA_sg A i - 1)) (by omega) (by omega)) d_M_ages_78 (fun H locs hP hD hS => ?_)
          rw [nI_clamp (n := 3 * i + (sA_sg A i - 1)) (by omega)] at hP hD
          replace hP := vx_P (rw_s_en (X := X) (G := G) (A := (sU_lf A (va_up (sA_lf A) i (sA_lf A i - 1)))) (i := i) (s := (sA_sg A i - 1)) (v := (-1)) (by omega)) hP
          replace hD := vx_D (rw_s_en (X := X) (G := G) (A := (sU_lf A (va_up (sA_lf A) i (sA_lf A i - 1)))) (i := i) (s := (sA_sg A i - 1)) (v := (-1)) (by omega)) hD
          refine lv_iconst (v := 0) hx hb d_M_ages_79 rfl ?_
          have hw : agW A i := ⟨hp4, h21⟩
          have eq1 : (sU_en (sU_lf A (va_up (sA_lf A) i (sA_lf A i - 1))) (va_up (sA_en A) i (upd ((sA_en A) i) (sA_sg A i - 1) (-1)))) = ag1 A i := by unfold ag1; rw [if_neg (show ¬ sA_lf A i = 1 from fun z => h67 (by rw [z]; rfl))]
          exact W.zret (v := b2i false) hx hb hrt (b2i_nar _) (fun t ht hW => ⟨⟨_, (G, (sU_en (sU_lf A (va_up (sA_lf A) i (sA_lf A i - 1))) (va_up (sA_en A) i (upd ((sA_en A) i) (sA_sg A i - 1) (-1))))), rfl, ⟨(ag_1 hw hlp).1, Prod.ext rfl (eq1.trans (ag_1 hw hlp).2)⟩, ⟨by rw [ht]; exact hP, hD⟩⟩, hS.F ht⟩) hS.2.2 d_M_ages_80
        ·
          refine lv_aload_n hx hb d_M_ages_70 rfl (lv_at hl 0 rfl) ?_
          refine va_get (D := X.1) (ci := 6) (C := R_Model) (T := F_Model) (N := 24) hx hb hts hin_Model hown hK.1 hP 0 rw_0 rfl 15 (by decide) (hts _ (wd_2 169 rfl rfl)) (fun _ h9 => h9) rfl d_M_ages_71 ?_
          refine lv_goto (tgt := 78) hx hb d_M_ages_74 rfl ?_
          refine va_iast hx hb hK.1 hP hD hS 13 0 rw_13 rfl (vp_in_nI (n := 3 * i + (sA_sg A i - 1)) (by omega) (by omega)) d_M_ages_78 (fun H locs hP hD hS => ?_)
          rw [nI_clamp (n := 3 * i + (sA_sg A i - 1)) (by omega)] at hP hD
          replace hP := vx_P (rw_s_en (X := X) (G := G) (A := (sU_lf A (va_up (sA_lf A) i (sA_lf A i - 1)))) (i := i) (s := (sA_sg A i - 1)) (v := sA_ck A) (by omega)) hP
          replace hD := vx_D (rw_s_en (X := X) (G := G) (A := (sU_lf A (va_up (sA_lf A) i (sA_lf A i - 1)))) (i := i) (s := (sA_sg A i - 1)) (v := sA_ck A) (by omega)) hD
          refine lv_iconst (v := 0) hx hb d_M_ages_79 rfl ?_
          have hw : agW A i := ⟨hp4, h21⟩
          have eq1 : (sU_en (sU_lf A (va_up (sA_lf A) i (sA_lf A i - 1))) (va_up (sA_en A) i (upd ((sA_en A) i) (sA_sg A i - 1) (sA_ck A)))) = ag1 A i := by unfold ag1; rw [if_pos (show sA_lf A i = 1 by have := (nI_eq (b := 0) (by omega) (by omega)).mp h67; omega)]
          exact W.zret (v := b2i false) hx hb hrt (b2i_nar _) (fun t ht hW => ⟨⟨_, (G, (sU_en (sU_lf A (va_up (sA_lf A) i (sA_lf A i - 1))) (va_up (sA_en A) i (upd ((sA_en A) i) (sA_sg A i - 1) (sA_ck A))))), rfl, ⟨(ag_1 hw hlp).1, Prod.ext rfl (eq1.trans (ag_1 hw hlp).2)⟩, ⟨by rw [ht]; exact hP, hD⟩⟩, hS.F ht⟩) hS.2.2 d_M_ages_80
    ·
      have h21 := b2i_t h21
      refine lv_iconst (v := 0) hx hb d_M_ages_24 rfl ?_
      exact W.zret (v := b2i false) hx hb hrt (b2i_nar _) (fun t ht hW => ⟨⟨_, (G, A), rfl, ⟨(ag_no (A := A) (i := i) (fun z => nt_of z.2 h21)).1, Prod.ext rfl (ag_no (A := A) (i := i) (fun z => nt_of z.2 h21)).2⟩, ⟨by rw [ht]; exact hP, hD⟩⟩, hS.F ht⟩) hS.2.2 d_M_ages_25
abbrev rm_M_tick : Room := { frames := 1, cells := 0, slots := 0, locals := 23 }
set_option maxRecDepth 20000 in
set_option maxHeartbeats 4000000 in
theorem lp_M_tick_in {p : Program} {l : Launch} {e : Env} {s : State} {m : MethodId} {args : Array Value} {below : List Frame} {meth : Method} {c : Code} {Q : State → Prop} {X : Xt} {G : Gr} {A : St} {Af : Nat → Prop} {a : Nat} (hx : p.tables.exec = Jvm.exec) (hb : c.code = b_M_tick) (hts : ∀ w ∈ Cond.code y_M_tick b_M_tick 5 (some .int) :: WA, w.before args s = true) (hown : s.vm.findClass R_Model = some m.cls) (hml : c.maxLocals = 5) (hK : KK X s) (hI : Inv A) (hBd : snB A) (ha2 : a ≤ 200) {t : Nat} (ht : t ≤ 200) (kont : ∀ (H : Heap) (locs : List Loc) (ls : Array Slot), va_P X.1 classes (rw_ X G (tickT A (t + 1))) H → va_D Af (rw_ X G (tickT A (t + 1))) → va_S Af s.heap H locs → lv_has ls 5 [(2, .int (nI (becF A (t + 1)))), (3, .int (nI t)), (1, .int (nI a)), (0, .ref (rA_ad G 0))] → W p l e rm_M_tick s m args below meth c H locs 0 0 Q (F0 m 67 ls [])) : ∀ (r j : Nat) (H : Heap) (locs : List Loc) (ls : Array Slot), j + r = sA_n A → va_P X.1 classes (rw_ X G (TX A t j)) H → va_D Af (rw_ X G (TX A t j)) → va_S Af s.heap H locs → lv_has ls 5 [(2, .int (nI (cX A t j))), (4, .int (nI j)), (3, .int (nI t)), (1, .int (nI a)), (0, .ref (rA_ad G 0))] → W p l e rm_M_tick s m args below meth c H locs 0 0 Q (F0 m 35 ls []) := by
  have hn := hI.1
  intro r
  induction r with
  | zero =>
    intro j H locs ls hj hP hD hS hl
    have hj : j = sA_n A := by omega
    subst hj
    rw [TX_n] at hP hD
    rw [cX_n] at hl
    refine lv_iload hx hb d_M_tick_35 (lv_at hl 1 rfl) ?_
    refine lv_aload_n hx hb d_M_tick_37 rfl (lv_at hl 4 rfl) ?_
    refine va_get (D := X.1) (ci := 6) (C := R_Model) (T := F_Model) (N := 24) hx hb hts hin_Model hown hK.1 hP 0 rw_0 rfl 4 (by decide) (hts _ (wd_2 158 rfl rfl)) (fun _ h9 => h9) rfl d_M_tick_38 ?_
    refine lv_icmp_ge (tgt := 67) hx hb d_M_tick_41 rfl (fun h41 => ?_) (fun h41 => ?_)
    ·
      exact kont H locs ls hP hD hS (lv_sub hl [0, 2, 3, 4] rfl)
    ·
      exact absurd (Int32.le_refl _) h41
  | succ r ih =>
    intro j H locs ls hj hP hD hS hl
    have hin : j < sA_n A := by omega
    refine lv_iload hx hb d_M_tick_35 (lv_at hl 1 rfl) ?_
    refine lv_aload_n hx hb d_M_tick_37 rfl (lv_at hl 4 rfl) ?_
    refine va_get (D := X.1) (ci := 6) (C := R_Model) (T := F_Model) (N := 24) hx hb hts hin_Model hown hK.1 hP 0 rw_0 rfl 4 (by decide) (hts _ (wd_2 158 rfl rfl)) (fun _ h9 => h9) rfl d_M_tick_38 ?_
    refine lv_icmp_ge (tgt := 67) hx hb d_M_tick_41 rfl (fun h41 => ?_) (fun h41 => ?_)
    ·
      exact absurd h41 (nI_ge (a := j) (b := sA_n A) hin (by omega))
    ·
      refine lv_aload_n hx hb d_M_tick_44 rfl (lv_at hl 4 rfl) ?_
      refine lv_iload hx hb d_M_tick_45 (lv_at hl 1 rfl) ?_
      refine va_calli (va_runV (As := [.int (nI j)]) (rest := []) ⟨hx, hb, hml, hown, hts⟩ (c_M_ages l X G (TX A t j) Af j (AG_TX hI hBd hin ht)) (cwV 1 hts (gV (wd_3 97 rfl rfl) (wd_3 99 rfl rfl) (wd_s 25 rfl) (wd_1 6 rfl rfl) (wd_3 100 rfl rfl)) rfl rfl rfl ⟨rfl, hd_M_ages⟩ ⟨Nat.le_of_ble_eq_true rfl, Nat.le_of_ble_eq_true rfl⟩) (vx_preV (P := QW X Af G (TX A t j)) ⟨hP, hD⟩ hK (va_recv hK.1 hP (ci := 6) rfl rw_0)) rfl rfl hl.1 rfl (lv_room (Nat.le_of_ble_eq_true rfl)) d_M_tick_47 ⟨Nat.zero_le _, Nat.zero_le _⟩) hS (fun q _ h => h) (fun q h => h) (fun r47 u47 t47 H locs ht hvm hu47 hB hz hk hS => ?_)
      obtain ⟨hP, hD⟩ := hB
      rw [ht] at hP
      obtain ⟨e47, hu47⟩ := hu47
      rw [(ag_step hI hin).2] at e47
      rw [(ag_step hI hin).1] at hu47
      subst e47
      subst hu47
      have hP : va_P X.1 classes (rw_ X G (TX A t (j + 1))) H := hP
      have hD : va_D Af (rw_ X G (TX A t (j + 1))) := hD
      refine lv_if_eq (tgt := 59) hx hb d_M_tick_50 rfl (fun h50 => ?_) (fun h50 => ?_)
      ·
        have h50 := b2i_f h50
        refine lv_iload_n hx hb d_M_tick_59 rfl (lv_at hl 0 rfl) ?_
        refine lv_istore_n (lv' := [(2, .int (nI (cX A t j))), (4, .int (nI j)), (3, .int (nI t)), (1, .int (nI a)), (0, .ref (rA_ad G 0))]) hx hb d_M_tick_60 rfl hl (by decide) rfl (fun ls hl => ?_)
        refine lv_iinc (k := 1) (v := (nI j + 1)) (lv' := [(4, .int (nI j + 1)), (2, .int (nI (cX A t j))), (3, .int (nI t)), (1, .int (nI a)), (0, .ref (rA_ad G 0))]) hx hb d_M_tick_61 hl rfl rfl (by decide) rfl (fun ls hl => ?_)
        refine lv_goto (tgt := 35) hx hb d_M_tick_64 rfl ?_
        exact ih (j + 1) H locs ls (by omega) hP hD hS (by rw [(show cX A t (j + 1) = cX A t j by rw [cX_s hin la_up, if_neg (nt_of h50)]; rfl), ← nI_1]; exact lv_sub hl [1, 0, 2, 3, 4] rfl)
      ·
        have h50 := b2i_t h50
        refine lv_iload_n hx hb d_M_tick_53 rfl (lv_at hl 0 rfl) ?_
        refine lv_iconst (v := 1) hx hb d_M_tick_54 rfl ?_
        refine lv_iadd hx hb d_M_tick_55 ?_
        refine lv_goto (tgt := 60) hx hb d_M_tick_56 rfl ?_
        refine lv_istore_n (lv' := [(2, .int ((nI (cX A t j)) + 1)), (4, .int (nI j)), (3, .int (nI t)), (1, .int (nI a)), (0, .ref (rA_ad G 0))]) hx hb d_M_tick_60 rfl hl (by decide) rfl (fun ls hl => ?_)
        refine lv_iinc (k := 1) (v := (nI j + 1)) (lv' := [(4, .int (nI j + 1)), (2, .int ((nI (cX A t j)) + 1)), (3, .int (nI t)), (1, .int (nI a)), (0, .ref (rA_ad G 0))]) hx hb d_M_tick_61 hl rfl rfl (by decide) rfl (fun ls hl => ?_)
        refine lv_goto (tgt := 35) hx hb d_M_tick_64 rfl ?_
        exact ih (j + 1) H locs ls (by omega) hP hD hS (by rw [(show nI (cX A t (j + 1)) = nI (cX A t j) + 1 by rw [cX_s hin la_up, if_pos h50]; rw [nI_1]), ← nI_1]; exact lv_sub hl [1, 0, 2, 3, 4] rfl)
set_option maxRecDepth 20000 in
set_option maxHeartbeats 4000000 in
theorem lp_M_tick {p : Program} {l : Launch} {e : Env} {s : State} {m : MethodId} {args : Array Value} {below : List Frame} {meth : Method} {c : Code} {Q : State → Prop} {X : Xt} {G : Gr} {A : St} {Af : Nat → Prop} {a : Nat} (hx : p.tables.exec = Jvm.exec) (hb : c.code = b_M_tick) (hts : ∀ w ∈ Cond.code y_M_tick b_M_tick 5 (some .int) :: WA, w.before args s = true) (hown : s.vm.findClass R_Model = some m.cls) (hml : c.maxLocals = 5) (hK : KK X s) (hI : Inv A) (hBd : snB A) (ha2 : a ≤ 200) (kont : ∀ (H : Heap) (locs : List Loc) (ls : Array Slot), va_P X.1 classes (rw_ X G (tickT A a)) H → va_D Af (rw_ X G (tickT A a)) → va_S Af s.heap H locs → lv_has ls 5 [(2, .int (nI (becF A a))), (1, .int (nI a)), (0, .ref (rA_ad G 0))] → W p l e rm_M_tick s m args below meth c H locs 0 0 Q (F0 m 73 ls [])) : ∀ (r t : Nat) (H : Heap) (locs : List Loc) (ls : Array Slot), t + r = a → va_P X.1 classes (rw_ X G (tickT A t)) H → va_D Af (rw_ X G (tickT A t)) → va_S Af s.heap H locs → lv_has ls 5 [(2, .int (nI (becF A t))), (3, .int (nI t)), (1, .int (nI a)), (0, .ref (rA_ad G 0))] → W p l e rm_M_tick s m args below meth c H locs 0 0 Q (F0 m 17 ls []) := by
  have hn := hI.1
  intro r
  induction r with
  | zero =>
    intro t H locs ls ht0 hP hD hS hl
    have ht0 : t = a := by omega
    subst ht0
    refine lv_iload_n hx hb d_M_tick_17 rfl (lv_at hl 1 rfl) ?_
    refine lv_iload_n hx hb d_M_tick_18 rfl (lv_at hl 2 rfl) ?_
    refine lv_icmp_ge (tgt := 73) hx hb d_M_tick_19 rfl (fun h19 => ?_) (fun h19 => ?_)
    ·
      exact kont H locs ls hP hD hS (lv_sub hl [0, 2, 3] rfl)
    ·
      exact absurd (Int32.le_refl _) h19
  | succ r ih =>
    intro t H locs ls ht0 hP hD hS hl
    refine lv_iload_n hx hb d_M_tick_17 rfl (lv_at hl 1 rfl) ?_
    refine lv_iload_n hx hb d_M_tick_18 rfl (lv_at hl 2 rfl) ?_
    refine lv_icmp_ge (tgt := 73) hx hb d_M_tick_19 rfl (fun h19 => ?_) (fun h19 => ?_)
    ·
      exact absurd h19 (nI_ge (a := t) (b := a) (by omega) (by omega))
    ·
      refine lv_aload_n hx hb d_M_tick_22 rfl (lv_at hl 3 rfl) ?_
      refine lv_dup hx hb d_M_tick_23 rfl ?_
      refine va_get (D := X.1) (ci := 6) (C := R_Model) (T := F_Model) (N := 24) hx hb hts hin_Model hown hK.1 hP 0 rw_0 rfl 15 (by decide) (hts _ (wd_2 169 rfl rfl)) (fun _ h9 => h9) rfl d_M_tick_24 ?_
      refine lv_iconst (v := 1) hx hb d_M_tick_27 rfl ?_
      refine lv_iadd hx hb d_M_tick_28 ?_
      refine lv_topi (fun z29 ez => ?_)
      have ez : z29 = sA_ck A + nI (t + 1) := ez.trans (by show sA_ck A + nI t + 1 = _; rw [Int32.add_assoc, nI_1])
      subst ez
      refine va_put (D := X.1) (ci := 6) (v := .int (sA_ck A + nI (t + 1))) (ty := .int) (C := R_Model) (T := F_Model) (N := 24) hx hb hts hin_Model t_Model t_Model_ok n_Model hown hK.1 hP hD hS 0 rw_0 rfl 15 (by decide) (hts _ (wd_2 169 rfl rfl)) (fun _ h9 => h9) rfl (by decide +kernel) rfl rfl (Nat.le_of_ble_eq_true rfl) d_M_tick_29 (fun H locs hP hD hS => ?_)
      replace hP := vx_P (rw_s_ck (X := X) (G := G) (A := (tickT A t)) (v := (sA_ck A + nI (t + 1)))) hP
      replace hD := vx_D (rw_s_ck (X := X) (G := G) (A := (tickT A t)) (v := (sA_ck A + nI (t + 1)))) hD
      refine lv_iconst (v := 0) hx hb d_M_tick_32 rfl ?_
      refine lv_istore (lv' := [(4, .int 0), (2, .int (nI (becF A t))), (3, .int (nI t)), (1, .int (nI a)), (0, .ref (rA_ad G 0))]) hx hb d_M_tick_33 hl (by decide) rfl (fun ls hl => ?_)
      replace hP := vx_P (congrArg (rw_ X G) TX_0.symm) hP
      replace hD := vx_D (congrArg (rw_ X G) TX_0.symm) hD
      refine lp_M_tick_in (G := G) (t := t) hx hb hts hown hml hK hI hBd ha2 (by omega) (fun H locs ls hP hD hS hl => ?_) (sA_n A) 0 H locs ls (by omega) hP hD hS (by rw [cX_0]; exact lv_sub hl [1, 0, 2, 3, 4] rfl)
      refine lv_iinc (k := 1) (v := (nI t + 1)) (lv' := [(3, .int (nI t + 1)), (2, .int (nI (becF A (t + 1)))), (1, .int (nI a)), (0, .ref (rA_ad G 0))]) hx hb d_M_tick_67 hl rfl rfl (by decide) rfl (fun ls hl => ?_)
      refine lv_goto (tgt := 17) hx hb d_M_tick_70 rfl ?_
      exact ih (t + 1) H locs ls (by omega) hP hD hS (by rw [← nI_1]; exact lv_sub hl [1, 0, 2, 3] rfl)
set_option maxRecDepth 20000 in
set_option maxHeartbeats 4000000 in
theorem c_M_tick (l : Launch) (X : Xt) (G : Gr) (A : St) (Af : Nat → Prop) (x : Int32) (hI : Inv A) (hRR : RR G A) (hBd : snB A) : Met l y_M_tick (Cond.code y_M_tick b_M_tick 5 (some .int) :: WA) rm_M_tick (va_Pc [.ref (rA_ad G 0), .int x] (fun U => QW X Af G A U.heap ∧ KK X U)) (va_Qi (BP G (tickI A x) (tickS A x)) (atR X Af) Af) 0 0 Af := by
  refine vx_met (cc := b_M_tick) (maxL := 5) (ret := (some .int)) (by decide) rfl (Nat.le_of_ble_eq_true rfl) ?_
  intro p e s m below meth c ls hx hb hrt hts hown hlocks hname hml hB hl
  obtain ⟨hP, hK⟩ := hB
  have hown : s.vm.findClass R_Model = some m.cls := hown
  have hl : lv_has ls 5 [(0, .ref (rA_ad G 0)), (1, .int x)] := hl
  have hD : va_D Af (rw_ X G A) := hP.2
  have hP : va_P X.1 classes (rw_ X G A) s.heap := hP.1
  have hS : va_S Af s.heap s.heap [] := va_S.rf
  have hn := hI.1
  have hR := hI.2.1
  refine lv_iload_n hx hb d_M_tick_0 rfl (lv_at hl 1 rfl) ?_
  refine lv_if_lt (tgt := 11) hx hb d_M_tick_1 rfl (fun h1 => ?_) (fun h1 => ?_)
  ·
    refine lv_iconst (v := (-1)) hx hb d_M_tick_11 rfl ?_
    exact W.iret (v := (-1)) hx hb hrt (fun t ht hW => ⟨⟨_, (G, A), rfl, ⟨(tick_b1 h1).1.symm, (tick_b1 h1).2.symm, (by rw [(tick_b1 h1).2]; exact hRR), rfl⟩, ⟨by rw [ht]; exact hP, hD⟩⟩, hS.F ht⟩) hS.2.2 d_M_tick_12
  ·
    refine lv_iload_n hx hb d_M_tick_4 rfl (lv_at hl 1 rfl) ?_
    refine lv_sipush (v := 200) hx hb d_M_tick_5 rfl ?_
    refine lv_icmp_le (tgt := 13) hx hb d_M_tick_8 rfl (fun h8 => ?_) (fun h8 => ?_)
    ·
      obtain ⟨a, ha2, rfl⟩ := tick_rng h1 h8
      refine lv_iconst (v := 0) hx hb d_M_tick_13 rfl ?_
      refine lv_istore_n (lv' := [(2, .int 0), (0, .ref (rA_ad G 0)), (1, .int (nI a))]) hx hb d_M_tick_14 rfl hl (by decide) rfl (fun ls hl => ?_)
      refine lv_iconst (v := 0) hx hb d_M_tick_15 rfl ?_
      refine lv_istore_n (lv' := [(3, .int 0), (2, .int 0), (0, .ref (rA_ad G 0)), (1, .int (nI a))]) hx hb d_M_tick_16 rfl hl (by decide) rfl (fun ls hl => ?_)
      replace hP := vx_P (congrArg (rw_ X G) (tickT_0 hI).symm) hP
      replace hD := vx_D (congrArg (rw_ X G) (tickT_0 hI).symm) hD
      refine lp_M_tick (G := G) (A := A) (a := a) hx hb hts hown hml hK hI hBd ha2 (fun H locs ls hP hD hS hl => ?_) a 0 _ _ ls (by omega) hP hD hS (by rw [bec_0 hI]; exact lv_sub hl [1, 0, 3, 2] rfl)
      refine lv_aload_n hx hb d_M_tick_73 rfl (lv_at hl 2 rfl) ?_
      refine lv_aload_n hx hb d_M_tick_74 rfl (lv_at hl 2 rfl) ?_
      refine va_get (D := X.1) (ci := 6) (C := R_Model) (T := F_Model) (N := 24) hx hb hts hin_Model hown hK.1 hP 0 rw_0 rfl 16 (by decide) (hts _ (wd_2 170 rfl rfl)) (fun _ h9 => h9) rfl d_M_tick_75 ?_
      refine lv_topi (fun z78 ez => ?_)
      have ez : z78 = b2i (sA_fb A) := ez.trans (rfl)
      subst ez
      refine lv_if_eq (tgt := 89) hx hb d_M_tick_78 rfl (fun h78 => ?_) (fun h78 => ?_)
      ·
        have h78 := b2i_f h78
        refine lv_iconst (v := 0) hx hb d_M_tick_89 rfl ?_
        refine va_put (D := X.1) (ci := 6) (v := .int (b2i false)) (ty := .boolean) (C := R_Model) (T := F_Model) (N := 24) hx hb hts hin_Model t_Model t_Model_ok n_Model hown hK.1 hP hD hS 0 rw_0 rfl 16 (by decide) (hts _ (wd_2 170 rfl rfl)) (fun _ h9 => h9) rfl (by decide +kernel) (b2i_nar _) (b2i_fit _) (Nat.le_of_ble_eq_true rfl) d_M_tick_90 (fun H locs hP hD hS => ?_)
        replace hP := vx_P (rw_s_fb (X := X) (G := G) (A := (tickT A a)) (v := false)) hP
        replace hD := vx_D (rw_s_fb (X := X) (G := G) (A := (tickT A a)) (v := false)) hD
        refine lv_aload_n hx hb d_M_tick_93 rfl (lv_at hl 2 rfl) ?_
        refine lv_aload_n hx hb d_M_tick_94 rfl (lv_at hl 2 rfl) ?_
        refine va_get (D := X.1) (ci := 6) (C := R_Model) (T := F_Model) (N := 24) hx hb hts hin_Model hown hK.1 hP 0 rw_0 rfl 17 (by decide) (hts _ (wd_2 171 rfl rfl)) (fun _ h9 => h9) rfl d_M_tick_95 ?_
        refine lv_topi (fun z98 ez => ?_)
        have ez : z98 = b2i (sA_bb A) := ez.trans (rfl)
        subst ez
        refine lv_if_eq (tgt := 109) hx hb d_M_tick_98 rfl (fun h98 => ?_) (fun h98 => ?_)
        ·
          have h98 := b2i_f h98
          refine lv_iconst (v := 0) hx hb d_M_tick_109 rfl ?_
          refine va_put (D := X.1) (ci := 6) (v := .int (b2i false)) (ty := .boolean) (C := R_Model) (T := F_Model) (N := 24) hx hb hts hin_Model t_Model t_Model_ok n_Model hown hK.1 hP hD hS 0 rw_0 rfl 17 (by decide) (hts _ (wd_2 171 rfl rfl)) (fun _ h9 => h9) rfl (by decide +kernel) (b2i_nar _) (b2i_fit _) (Nat.le_of_ble_eq_true rfl) d_M_tick_110 (fun H locs hP hD hS => ?_)
          replace hP := vx_P (rw_s_bb (X := X) (G := G) (A := (sU_fb (tickT A a) false)) (v := false)) hP
          replace hD := vx_D (rw_s_bb (X := X) (G := G) (A := (sU_fb (tickT A a) false)) (v := false)) hD
          refine lv_iload_n hx hb d_M_tick_113 rfl (lv_at hl 0 rfl) ?_
          have eT : (sU_bb (sU_fb (tickT A a) false) false) = tickF A a := by
            unfold tickF
            by_cases hz0 : 0 < a
            · rw [if_pos hz0]
            · rw [if_neg hz0]; exact fbbb h78 h98
          exact W.iret (v := nI (becF A a)) hx hb hrt (fun t ht hW => ⟨⟨_, (G, (sU_bb (sU_fb (tickT A a) false) false)), rfl, ⟨(tick_at ha2).1.symm, (eT.trans (tick_at ha2).2.symm), (by rw [(tick_at ha2).2]; unfold RR; rw [env_tick]; exact hRR), rfl⟩, ⟨by rw [ht]; exact hP, hD⟩⟩, hS.F ht⟩) hS.2.2 d_M_tick_114
        ·
          have h98 := b2i_t h98
          refine lv_iload_n hx hb d_M_tick_101 rfl (lv_at hl 1 rfl) ?_
          refine lv_if_ne (tgt := 109) hx hb d_M_tick_102 rfl (fun h102 => ?_) (fun h102 => ?_)
          ·
            refine lv_iconst (v := 0) hx hb d_M_tick_109 rfl ?_
            refine va_put (D := X.1) (ci := 6) (v := .int (b2i false)) (ty := .boolean) (C := R_Model) (T := F_Model) (N := 24) hx hb hts hin_Model t_Model t_Model_ok n_Model hown hK.1 hP hD hS 0 rw_0 rfl 17 (by decide) (hts _ (wd_2 171 rfl rfl)) (fun _ h9 => h9) rfl (by decide +kernel) (b2i_nar _) (b2i_fit _) (Nat.le_of_ble_eq_true rfl) d_M_tick_110 (fun H locs hP hD hS => ?_)
            replace hP := vx_P (rw_s_bb (X := X) (G := G) (A := (sU_fb (tickT A a) false)) (v := false)) hP
            replace hD := vx_D (rw_s_bb (X := X) (G := G) (A := (sU_fb (tickT A a) false)) (v := false)) hD
            refine lv_iload_n hx hb d_M_tick_113 rfl (lv_at hl 0 rfl) ?_
            have eT : (sU_bb (sU_fb (tickT A a) false) false) = tickF A a := by
              unfold tickF
              rw [if_pos (show 0 < a from Nat.pos_of_ne_zero fun z => h102 (by rw [z]; rfl))]
            exact W.iret (v := nI (becF A a)) hx hb hrt (fun t ht hW => ⟨⟨_, (G, (sU_bb (sU_fb (tickT A a) false) false)), rfl, ⟨(tick_at ha2).1.symm, (eT.trans (tick_at ha2).2.symm), (by rw [(tick_at ha2).2]; unfold RR; rw [env_tick]; exact hRR), rfl⟩, ⟨by rw [ht]; exact hP, hD⟩⟩, hS.F ht⟩) hS.2.2 d_M_tick_114
          ·
            refine lv_iconst (v := 1) hx hb d_M_tick_105 rfl ?_
            refine lv_goto (tgt := 110) hx hb d_M_tick_106 rfl ?_
            refine va_put (D := X.1) (ci := 6) (v := .int (b2i true)) (ty := .boolean) (C := R_Model) (T := F_Model) (N := 24) hx hb hts hin_Model t_Model t_Model_ok n_Model hown hK.1 hP hD hS 0 rw_0 rfl 17 (by decide) (hts _ (wd_2 171 rfl rfl)) (fun _ h9 => h9) rfl (by decide +kernel) (b2i_nar _) (b2i_fit _) (Nat.le_of_ble_eq_true rfl) d_M_tick_110 (fun H locs hP hD hS => ?_)
            replace hP := vx_P (rw_s_bb (X := X) (G := G) (A := (sU_fb (tickT A a) false)) (v := true)) hP
            replace hD := vx_D (rw_s_bb (X := X) (G := G) (A := (sU_fb (tickT A a) false)) (v := true)) hD
            refine lv_iload_n hx hb d_M_tick_113 rfl (lv_at hl 0 rfl) ?_
            have eT : (sU_bb (sU_fb (tickT A a) false) true) = tickF A a := by
              unfold tickF
              rw [if_neg (show ¬ 0 < a by have := (nI_eq (a := a) (b := 0) (by omega) (by omega)).mp h102; omega)]
              exact fbbb h78 h98
            exact W.iret (v := nI (becF A a)) hx hb hrt (fun t ht hW => ⟨⟨_, (G, (sU_bb (sU_fb (tickT A a) false) true)), rfl, ⟨(tick_at ha2).1.symm, (eT.trans (tick_at ha2).2.symm), (by rw [(tick_at ha2).2]; unfold RR; rw [env_tick]; exact hRR), rfl⟩, ⟨by rw [ht]; exact hP, hD⟩⟩, hS.F ht⟩) hS.2.2 d_M_tick_114
      ·
        have h78 := b2i_t h78
        refine lv_iload_n hx hb d_M_tick_81 rfl (lv_at hl 1 rfl) ?_
        refine lv_if_ne (tgt := 89) hx hb d_M_tick_82 rfl (fun h82 => ?_) (fun h82 => ?_)
        ·
          refine lv_iconst (v := 0) hx hb d_M_tick_89 rfl ?_
          refine va_put (D := X.1) (ci := 6) (v := .int (b2i false)) (ty := .boolean) (C := R_Model) (T := F_Model) (N := 24) hx hb hts hin_Model t_Model t_Model_ok n_Model hown hK.1 hP hD hS 0 rw_0 rfl 16 (by decide) (hts _ (wd_2 170 rfl rfl)) (fun _ h9 => h9) rfl (by decide +kernel) (b2i_nar _) (b2i_fit _) (Nat.le_of_ble_eq_true rfl) d_M_tick_90 (fun H locs hP hD hS => ?_)
          replace hP := vx_P (rw_s_fb (X := X) (G := G) (A := (tickT A a)) (v := false)) hP
          replace hD := vx_D (rw_s_fb (X := X) (G := G) (A := (tickT A a)) (v := false)) hD
          refine lv_aload_n hx hb d_M_tick_93 rfl (lv_at hl 2 rfl) ?_
          refine lv_aload_n hx hb d_M_tick_94 rfl (lv_at hl 2 rfl) ?_
          refine va_get (D := X.1) (ci := 6) (C := R_Model) (T := F_Model) (N := 24) hx hb hts hin_Model hown hK.1 hP 0 rw_0 rfl 17 (by decide) (hts _ (wd_2 171 rfl rfl)) (fun _ h9 => h9) rfl d_M_tick_95 ?_
          refine lv_topi (fun z98 ez => ?_)
          have ez : z98 = b2i (sA_bb A) := ez.trans (rfl)
          subst ez
          refine lv_if_eq (tgt := 109) hx hb d_M_tick_98 rfl (fun h98 => ?_) (fun h98 => ?_)
          ·
            have h98 := b2i_f h98
            refine lv_iconst (v := 0) hx hb d_M_tick_109 rfl ?_
            refine va_put (D := X.1) (ci := 6) (v := .int (b2i false)) (ty := .boolean) (C := R_Model) (T := F_Model) (N := 24) hx hb hts hin_Model t_Model t_Model_ok n_Model hown hK.1 hP hD hS 0 rw_0 rfl 17 (by decide) (hts _ (wd_2 171 rfl rfl)) (fun _ h9 => h9) rfl (by decide +kernel) (b2i_nar _) (b2i_fit _) (Nat.le_of_ble_eq_true rfl) d_M_tick_110 (fun H locs hP hD hS => ?_)
            replace hP := vx_P (rw_s_bb (X := X) (G := G) (A := (sU_fb (tickT A a) false)) (v := false)) hP
            replace hD := vx_D (rw_s_bb (X := X) (G := G) (A := (sU_fb (tickT A a) false)) (v := false)) hD
            refine lv_iload_n hx hb d_M_tick_113 rfl (lv_at hl 0 rfl) ?_
            have eT : (sU_bb (sU_fb (tickT A a) false) false) = tickF A a := by
              unfold tickF
              rw [if_pos (show 0 < a from Nat.pos_of_ne_zero fun z => h82 (by rw [z]; rfl))]
            exact W.iret (v := nI (becF A a)) hx hb hrt (fun t ht hW => ⟨⟨_, (G, (sU_bb (sU_fb (tickT A a) false) false)), rfl, ⟨(tick_at ha2).1.symm, (eT.trans (tick_at ha2).2.symm), (by rw [(tick_at ha2).2]; unfold RR; rw [env_tick]; exact hRR), rfl⟩, ⟨by rw [ht]; exact hP, hD⟩⟩, hS.F ht⟩) hS.2.2 d_M_tick_114
          ·
            have h98 := b2i_t h98
            refine lv_iload_n hx hb d_M_tick_101 rfl (lv_at hl 1 rfl) ?_
            refine lv_if_ne (tgt := 109) hx hb d_M_tick_102 rfl (fun h102 => ?_) (fun h102 => ?_)
            ·
              refine lv_iconst (v := 0) hx hb d_M_tick_109 rfl ?_
              refine va_put (D := X.1) (ci := 6) (v := .int (b2i false)) (ty := .boolean) (C := R_Model) (T := F_Model) (N := 24) hx hb hts hin_Model t_Model t_Model_ok n_Model hown hK.1 hP hD hS 0 rw_0 rfl 17 (by decide) (hts _ (wd_2 171 rfl rfl)) (fun _ h9 => h9) rfl (by decide +kernel) (b2i_nar _) (b2i_fit _) (Nat.le_of_ble_eq_true rfl) d_M_tick_110 (fun H locs hP hD hS => ?_)
              replace hP := vx_P (rw_s_bb (X := X) (G := G) (A := (sU_fb (tickT A a) false)) (v := false)) hP
              replace hD := vx_D (rw_s_bb (X := X) (G := G) (A := (sU_fb (tickT A a) false)) (v := false)) hD
              refine lv_iload_n hx hb d_M_tick_113 rfl (lv_at hl 0 rfl) ?_
              have eT : (sU_bb (sU_fb (tickT A a) false) false) = tickF A a := by
                unfold tickF
                rw [if_pos (show 0 < a from Nat.pos_of_ne_zero fun z => h82 (by rw [z]; rfl))]
              exact W.iret (v := nI (becF A a)) hx hb hrt (fun t ht hW => ⟨⟨_, (G, (sU_bb (sU_fb (tickT A a) false) false)), rfl, ⟨(tick_at ha2).1.symm, (eT.trans (tick_at ha2).2.symm), (by rw [(tick_at ha2).2]; unfold RR; rw [env_tick]; exact hRR), rfl⟩, ⟨by rw [ht]; exact hP, hD⟩⟩, hS.F ht⟩) hS.2.2 d_M_tick_114
            ·
              refine lv_iconst (v := 1) hx hb d_M_tick_105 rfl ?_
              refine lv_goto (tgt := 110) hx hb d_M_tick_106 rfl ?_
              refine va_put (D := X.1) (ci := 6) (v := .int (b2i true)) (ty := .boolean) (C := R_Model) (T := F_Model) (N := 24) hx hb hts hin_Model t_Model t_Model_ok n_Model hown hK.1 hP hD hS 0 rw_0 rfl 17 (by decide) (hts _ (wd_2 171 rfl rfl)) (fun _ h9 => h9) rfl (by decide +kernel) (b2i_nar _) (b2i_fit _) (Nat.le_of_ble_eq_true rfl) d_M_tick_110 (fun H locs hP hD hS => ?_)
              replace hP := vx_P (rw_s_bb (X := X) (G := G) (A := (sU_fb (tickT A a) false)) (v := true)) hP
              replace hD := vx_D (rw_s_bb (X := X) (G := G) (A := (sU_fb (tickT A a) false)) (v := true)) hD
              refine lv_iload_n hx hb d_M_tick_113 rfl (lv_at hl 0 rfl) ?_
              exact absurd h102 h82
        ·
          refine lv_iconst (v := 1) hx hb d_M_tick_85 rfl ?_
          refine lv_goto (tgt := 90) hx hb d_M_tick_86 rfl ?_
          refine va_put (D := X.1) (ci := 6) (v := .int (b2i true)) (ty := .boolean) (C := R_Model) (T := F_Model) (N := 24) hx hb hts hin_Model t_Model t_Model_ok n_Model hown hK.1 hP hD hS 0 rw_0 rfl 16 (by decide) (hts _ (wd_2 170 rfl rfl)) (fun _ h9 => h9) rfl (by decide +kernel) (b2i_nar _) (b2i_fit _) (Nat.le_of_ble_eq_true rfl) d_M_tick_90 (fun H locs hP hD hS => ?_)
          replace hP := vx_P (rw_s_fb (X := X) (G := G) (A := (tickT A a)) (v := true)) hP
          replace hD := vx_D (rw_s_fb (X := X) (G := G) (A := (tickT A a)) (v := true)) hD
          refine lv_aload_n hx hb d_M_tick_93 rfl (lv_at hl 2 rfl) ?_
          refine lv_aload_n hx hb d_M_tick_94 rfl (lv_at hl 2 rfl) ?_
          refine va_get (D := X.1) (ci := 6) (C := R_Model) (T := F_Model) (N := 24) hx hb hts hin_Model hown hK.1 hP 0 rw_0 rfl 17 (by decide) (hts _ (wd_2 171 rfl rfl)) (fun _ h9 => h9) rfl d_M_tick_95 ?_
          refine lv_topi (fun z98 ez => ?_)
          have ez : z98 = b2i (sA_bb A) := ez.trans (rfl)
          subst ez
          refine lv_if_eq (tgt := 109) hx hb d_M_tick_98 rfl (fun h98 => ?_) (fun h98 => ?_)
          ·
            have h98 := b2i_f h98
            refine lv_iconst (v := 0) hx hb d_M_tick_109 rfl ?_
            refine va_put (D := X.1) (ci := 6) (v := .int (b2i false)) (ty := .boolean) (C := R_Model) (T := F_Model) (N := 24) hx hb hts hin_Model t_Model t_Model_ok n_Model hown hK.1 hP hD hS 0 rw_0 rfl 17 (by decide) (hts _ (wd_2 171 rfl rfl)) (fun _ h9 => h9) rfl (by decide +kernel) (b2i_nar _) (b2i_fit _) (Nat.le_of_ble_eq_true rfl) d_M_tick_110 (fun H locs hP hD hS => ?_)
            replace hP := vx_P (rw_s_bb (X := X) (G := G) (A := (sU_fb (tickT A a) true)) (v := false)) hP
            replace hD := vx_D (rw_s_bb (X := X) (G := G) (A := (sU_fb (tickT A a) true)) (v := false)) hD
            refine lv_iload_n hx hb d_M_tick_113 rfl (lv_at hl 0 rfl) ?_
            have eT : (sU_bb (sU_fb (tickT A a) true) false) = tickF A a := by
              unfold tickF
              rw [if_neg (show ¬ 0 < a by have := (nI_eq (a := a) (b := 0) (by omega) (by omega)).mp h82; omega)]
              exact fbbb h78 h98
            exact W.iret (v := nI (becF A a)) hx hb hrt (fun t ht hW => ⟨⟨_, (G, (sU_bb (sU_fb (tickT A a) true) false)), rfl, ⟨(tick_at ha2).1.symm, (eT.trans (tick_at ha2).2.symm), (by rw [(tick_at ha2).2]; unfold RR; rw [env_tick]; exact hRR), rfl⟩, ⟨by rw [ht]; exact hP, hD⟩⟩, hS.F ht⟩) hS.2.2 d_M_tick_114
          ·
            have h98 := b2i_t h98
            refine lv_iload_n hx hb d_M_tick_101 rfl (lv_at hl 1 rfl) ?_
            refine lv_if_ne (tgt := 109) hx hb d_M_tick_102 rfl (fun h102 => ?_) (fun h102 => ?_)
            ·
              refine lv_iconst (v := 0) hx hb d_M_tick_109 rfl ?_
              refine va_put (D := X.1) (ci := 6) (v := .int (b2i false)) (ty := .boolean) (C := R_Model) (T := F_Model) (N := 24) hx hb hts hin_Model t_Model t_Model_ok n_Model hown hK.1 hP hD hS 0 rw_0 rfl 17 (by decide) (hts _ (wd_2 171 rfl rfl)) (fun _ h9 => h9) rfl (by decide +kernel) (b2i_nar _) (b2i_fit _) (Nat.le_of_ble_eq_true rfl) d_M_tick_110 (fun H locs hP hD hS => ?_)
              replace hP := vx_P (rw_s_bb (X := X) (G := G) (A := (sU_fb (tickT A a) true)) (v := false)) hP
              replace hD := vx_D (rw_s_bb (X := X) (G := G) (A := (sU_fb (tickT A a) true)) (v := false)) hD
              refine lv_iload_n hx hb d_M_tick_113 rfl (lv_at hl 0 rfl) ?_
              exact absurd h82 h102
            ·
              refine lv_iconst (v := 1) hx hb d_M_tick_105 rfl ?_
              refine lv_goto (tgt := 110) hx hb d_M_tick_106 rfl ?_
              refine va_put (D := X.1) (ci := 6) (v := .int (b2i true)) (ty := .boolean) (C := R_Model) (T := F_Model) (N := 24) hx hb hts hin_Model t_Model t_Model_ok n_Model hown hK.1 hP hD hS 0 rw_0 rfl 17 (by decide) (hts _ (wd_2 171 rfl rfl)) (fun _ h9 => h9) rfl (by decide +kernel) (b2i_nar _) (b2i_fit _) (Nat.le_of_ble_eq_true rfl) d_M_tick_110 (fun H locs hP hD hS => ?_)
              replace hP := vx_P (rw_s_bb (X := X) (G := G) (A := (sU_fb (tickT A a) true)) (v := true)) hP
              replace hD := vx_D (rw_s_bb (X := X) (G := G) (A := (sU_fb (tickT A a) true)) (v := true)) hD
              refine lv_iload_n hx hb d_M_tick_113 rfl (lv_at hl 0 rfl) ?_
              have eT : (sU_bb (sU_fb (tickT A a) true) true) = tickF A a := by
                unfold tickF
                rw [if_neg (show ¬ 0 < a by have := (nI_eq (a := a) (b := 0) (by omega) (by omega)).mp h82; omega)]
                exact fbbb h78 h98
              exact W.iret (v := nI (becF A a)) hx hb hrt (fun t ht hW => ⟨⟨_, (G, (sU_bb (sU_fb (tickT A a) true) true)), rfl, ⟨(tick_at ha2).1.symm, (eT.trans (tick_at ha2).2.symm), (by rw [(tick_at ha2).2]; unfold RR; rw [env_tick]; exact hRR), rfl⟩, ⟨by rw [ht]; exact hP, hD⟩⟩, hS.F ht⟩) hS.2.2 d_M_tick_114
    ·
      refine lv_iconst (v := (-1)) hx hb d_M_tick_11 rfl ?_
      exact W.iret (v := (-1)) hx hb hrt (fun t ht hW => ⟨⟨_, (G, A), rfl, ⟨(tick_b2 h8).1.symm, (tick_b2 h8).2.symm, (by rw [(tick_b2 h8).2]; exact hRR), rfl⟩, ⟨by rw [ht]; exact hP, hD⟩⟩, hS.F ht⟩) hS.2.2 d_M_tick_12
