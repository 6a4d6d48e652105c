abbrev rm_M_after : Room := { frames := 3, cells := 0, slots := 0, locals := 67 }
set_option maxRecDepth 20000 in
set_option maxHeartbeats 4000000 in
theorem c_M_after (l : Launch) (X : Xt) (G : Gr) (A : St) (a : Nat) (u : Nat) (v : Nat) (hR : rOk A) (ha : a < 59049) (hu : u < 5) (hv : v < 6) (hok : ok9 (envA A) (dig9 a)) : Met l y_M_after (Cond.code y_M_after b_M_after 9 (some .int) :: WA) rm_M_after (va_Pc [.ref (rA_ad G 0), .int (nI a), .int (nI u), .int (nI v)] (fun U => QR X G A U.heap ∧ KK X U)) (vp_Si (fun ans => ans = f_M_after A a u v)) 0 0 (fun _ => False) := by
  refine vx_met (cc := b_M_after) (maxL := 9) (ret := (some .int)) (by decide) rfl (Nat.le_of_ble_eq_true rfl) ?_
  intro p e s m below meth c ls hx hb hrt hts hown hlocks hname hml hB hl
  obtain ⟨hP, hK⟩ := hB
  have hown : s.vm.findClass R_Model = some m.cls := hown
  have hl : lv_has ls 9 [(0, .ref (rA_ad G 0)), (1, .int (nI a)), (2, .int (nI u)), (3, .int (nI v))] := hl
  have hP : va_P X.1 classes (rw_ X G A) s.heap := hP
  have hd9 := dig9_lt (a := a) (u := u)
  refine lv_iload_n hx hb d_M_after_0 rfl (lv_at hl 1 rfl) ?_
  refine lv_iload_n hx hb d_M_after_1 rfl (lv_at hl 2 rfl) ?_
  refine vp_callSi (W.runS (As := [.int (nI a), .int (nI u)]) (rest := []) ⟨hx, hb, hml, hown, hts⟩ (c_M_digit l X a u ha hu) (va_cwS 2 hts (gT (wd_3 26 rfl rfl) (wd_3 27 rfl rfl) (wd_1 6 rfl rfl) (wd_3 28 rfl rfl)) rfl rfl rfl hd_M_digit ⟨Nat.le_of_ble_eq_true rfl, Nat.le_of_ble_eq_true rfl⟩) (vx_preS (P := fun _ => True) trivial hK) rfl rfl hl.1 rfl (lv_room (Nat.le_of_ble_eq_true rfl)) d_M_after_2 ⟨Nat.zero_le _, Nat.zero_le _⟩) (fun r2 e2 => ?_)
  subst e2
  rw [dgd hu]
  refine lv_istore (lv' := [(4, .int (nI (dig9 a u))), (0, .ref (rA_ad G 0)), (1, .int (nI a)), (2, .int (nI u)), (3, .int (nI v))]) hx hb d_M_after_5 hl (by decide) rfl (fun ls hl => ?_)
  refine lv_iload hx hb d_M_after_7 (lv_at hl 0 rfl) ?_
  refine lv_if_ne (tgt := 14) hx hb d_M_after_9 rfl (fun h9 => ?_) (fun h9 => ?_)
  ·
    refine lv_iload hx hb d_M_after_14 (lv_at hl 0 rfl) ?_
    refine lv_iconst (v := 1) hx hb d_M_after_16 rfl ?_
    refine lv_isub hx hb d_M_after_17 ?_
    have hD1 : 1 ≤ dig9 a u := Nat.pos_of_ne_zero (fun z => h9 (by rw [z]; rfl))
    rw [nI_s1 hD1]
    refine lv_iconst (v := 4) hx hb d_M_after_18 rfl ?_
    refine lv_idiv hx hb d_M_after_19 (by decide) ?_
    rw [div4 (by omega)]
    refine lv_istore (lv' := [(5, .int (nI ((dig9 a u - 1) / 4))), (4, .int (nI (dig9 a u))), (0, .ref (rA_ad G 0)), (1, .int (nI a)), (2, .int (nI u)), (3, .int (nI v))]) hx hb d_M_after_20 hl (by decide) rfl (fun ls hl => ?_)
    refine lv_iload hx hb d_M_after_22 (lv_at hl 1 rfl) ?_
    refine lv_iconst (v := 1) hx hb d_M_after_24 rfl ?_
    refine lv_isub hx hb d_M_after_25 ?_
    rw [nI_s1 hD1]
    refine lv_iconst (v := 4) hx hb d_M_after_26 rfl ?_
    refine lv_irem hx hb d_M_after_27 (by decide) ?_
    rw [rem4 (by omega)]
    refine lv_istore (lv' := [(6, .int (nI ((dig9 a u - 1) % 4))), (5, .int (nI ((dig9 a u - 1) / 4))), (4, .int (nI (dig9 a u))), (0, .ref (rA_ad G 0)), (1, .int (nI a)), (2, .int (nI u)), (3, .int (nI v))]) hx hb d_M_after_28 hl (by decide) rfl (fun ls hl => ?_)
    refine lv_iload_n hx hb d_M_after_30 rfl (lv_at hl 6 rfl) ?_
    refine lv_iconst (v := 5) hx hb d_M_after_31 rfl ?_
    refine lv_icmp_eq (tgt := 48) hx hb d_M_after_32 rfl (fun h32 => ?_) (fun h32 => ?_)
    ·
      refine lv_iconst (v := 1) hx hb d_M_after_48 rfl ?_
      refine lv_goto (tgt := 53) hx hb d_M_after_49 rfl ?_
      refine lv_istore (lv' := [(7, .int 1), (6, .int (nI ((dig9 a u - 1) % 4))), (5, .int (nI ((dig9 a u - 1) / 4))), (4, .int (nI (dig9 a u))), (0, .ref (rA_ad G 0)), (1, .int (nI a)), (2, .int (nI u)), (3, .int (nI v))]) hx hb d_M_after_53 hl (by decide) rfl (fun ls hl => ?_)
      refine lv_iload hx hb d_M_after_55 (lv_at hl 0 rfl) ?_
      refine lv_if_eq (tgt := 73) hx hb d_M_after_57 rfl (fun h57 => ?_) (fun h57 => ?_)
      ·
        exact absurd h57 (by decide)
      ·
        refine lv_aload_n hx hb d_M_after_60 rfl (lv_at hl 4 rfl) ?_
        refine lv_iload hx hb d_M_after_61 (lv_at hl 2 rfl) ?_
        refine lv_iload hx hb d_M_after_63 (lv_at hl 1 rfl) ?_
        refine lv_iload_n hx hb d_M_after_65 rfl (lv_at hl 6 rfl) ?_
        refine lv_iload_n hx hb d_M_after_66 rfl (lv_at hl 7 rfl) ?_
        refine vp_callSi (W.runV (As := [.int (nI ((dig9 a u - 1) / 4)), .int (nI ((dig9 a u - 1) % 4)), .int (nI u), .int (nI v)]) (rest := []) ⟨hx, hb, hml, hown, hts⟩ (c_M_isWay l X G A ((dig9 a u - 1) / 4) ((dig9 a u - 1) % 4) u v hR (show (dig9 a u - 1) / 4 < 2 by omega) (((hok u hu).2 (fun z => h9 (by rw [z]; rfl))).1) (show u < 6 by omega) hv) (cwV 4 hts (gV (wd_3 37 rfl rfl) (wd_3 39 rfl rfl) (wd_s 20 rfl) (wd_1 6 rfl rfl) (wd_3 40 rfl rfl)) rfl rfl rfl ⟨rfl, hd_M_isWay⟩ ⟨Nat.le_of_ble_eq_true rfl, Nat.le_of_ble_eq_true rfl⟩) (vx_preV (P := QR X G A) hP hK (va_recv hK.1 hP (ci := 6) rfl rw_0)) rfl rfl hl.1 rfl (lv_room (Nat.le_of_ble_eq_true rfl)) d_M_after_67 ⟨Nat.zero_le _, Nat.zero_le _⟩) (fun r67 e67 => ?_)
        subst e67
        rw [way_eq hR ((hok u hu).2 (fun z => h9 (by rw [z]; rfl))).1 (show u < 6 by omega) hv]
        rw [show leadN (sA_dn A) (mskN (envA A) ((dig9 a u - 1) / 4) ((dig9 a u - 1) % 4)) u v = way9 (envA A) ((dig9 a u - 1) / 4) ((dig9 a u - 1) % 4) u v from rfl]
        refine lv_if_ne (tgt := 75) hx hb d_M_after_70 rfl (fun h70 => ?_) (fun h70 => ?_)
        ·
          have h70 := b2i_t h70
          refine lv_iload_n hx hb d_M_after_75 rfl (lv_at hl 5 rfl) ?_
          refine lv_iload hx hb d_M_after_76 (lv_at hl 3 rfl) ?_
          refine lv_iload_n hx hb d_M_after_78 rfl (lv_at hl 6 rfl) ?_
          refine vp_callSi (W.runS (As := [.int (nI u)]) (rest := [.int (nI (dig9 a u)), .int (nI a)]) ⟨hx, hb, hml, hown, hts⟩ (c_M_power l X u (by omega)) (va_cwS 1 hts (gT (wd_3 7 rfl rfl) (wd_3 8 rfl rfl) (wd_1 6 rfl rfl) (wd_3 9 rfl rfl)) rfl rfl rfl hd_M_power ⟨Nat.le_of_ble_eq_true rfl, Nat.le_of_ble_eq_true rfl⟩) (vx_preS (P := fun _ => True) trivial hK) rfl rfl hl.1 rfl (lv_room (Nat.le_of_ble_eq_true rfl)) d_M_after_79 ⟨Nat.zero_le _, Nat.zero_le _⟩) (fun r79 e79 => ?_)
          subst e79
          refine lv_imul hx hb d_M_after_82 ?_
          refine lv_isub hx hb d_M_after_83 ?_
          rw [lift9 ha hu]
          refine lv_istore (lv' := [(8, .int (nI (enc9 (va_up (dig9 a) u 0)))), (7, .int 1), (6, .int (nI ((dig9 a u - 1) % 4))), (5, .int (nI ((dig9 a u - 1) / 4))), (4, .int (nI (dig9 a u))), (0, .ref (rA_ad G 0)), (1, .int (nI a)), (2, .int (nI u)), (3, .int (nI v))]) hx hb d_M_after_84 hl (by decide) rfl (fun ls hl => ?_)
          refine lv_iload_n hx hb d_M_after_86 rfl (lv_at hl 8 rfl) ?_
          refine lv_iconst (v := 5) hx hb d_M_after_87 rfl ?_
          refine lv_icmp_ne (tgt := 96) hx hb d_M_after_88 rfl (fun h88 => ?_) (fun h88 => ?_)
          ·
            refine lv_iload hx hb d_M_after_96 (lv_at hl 0 rfl) ?_
            refine lv_iload_n hx hb d_M_after_98 rfl (lv_at hl 8 rfl) ?_
            refine vp_callSi (W.runS (As := [.int (nI v)]) (rest := [.int (nI (enc9 (va_up (dig9 a) u 0)))]) ⟨hx, hb, hml, hown, hts⟩ (c_M_power l X v (show v ≤ 5 by omega)) (va_cwS 1 hts (gT (wd_3 7 rfl rfl) (wd_3 8 rfl rfl) (wd_1 6 rfl rfl) (wd_3 9 rfl rfl)) rfl rfl rfl hd_M_power ⟨Nat.le_of_ble_eq_true rfl, Nat.le_of_ble_eq_true rfl⟩) (vx_preS (P := fun _ => True) trivial hK) rfl rfl hl.1 rfl (lv_room (Nat.le_of_ble_eq_true rfl)) d_M_after_99 ⟨Nat.zero_le _, Nat.zero_le _⟩) (fun r99 e99 => ?_)
            subst e99
            refine lv_iload_n hx hb d_M_after_102 rfl (lv_at hl 8 rfl) ?_
            refine lv_iconst (v := 4) hx hb d_M_after_103 rfl ?_
            refine lv_icmp_ge (tgt := 114) hx hb d_M_after_104 rfl (fun h104 => ?_) (fun h104 => ?_)
            ·
              refine lv_iload hx hb d_M_after_114 (lv_at hl 4 rfl) ?_
              refine lv_imul hx hb d_M_after_116 ?_
              refine lv_iadd hx hb d_M_after_117 ?_
              exact W.iret (v := ((nI (enc9 (va_up (dig9 a) u 0))) + ((f_M_power v) * (nI (dig9 a u))))) hx hb hrt (fun t ht hW => ⟨_, rfl, af_4 (mv_of h9 (Or.inl (pl5 (by omega) h32)) h70) (Or.inl (pl5 (by omega) h32)) hv (fun z => h88 (by rw [z]; rfl)) (ge4 hv h104), ht⟩) (fun q h => by cases h) d_M_after_118
            ·
              refine lv_iload hx hb d_M_after_107 (lv_at hl 4 rfl) ?_
              refine lv_iconst (v := 1) hx hb d_M_after_109 rfl ?_
              refine lv_iadd hx hb d_M_after_110 ?_
              refine lv_goto (tgt := 116) hx hb d_M_after_111 rfl ?_
              refine lv_imul hx hb d_M_after_116 ?_
              refine lv_iadd hx hb d_M_after_117 ?_
              exact W.iret (v := ((nI (enc9 (va_up (dig9 a) u 0))) + ((f_M_power v) * ((nI (dig9 a u)) + 1)))) hx hb hrt (fun t ht hW => ⟨_, rfl, af_3 (mv_of h9 (Or.inl (pl5 (by omega) h32)) h70) (Or.inl (pl5 (by omega) h32)) (lt4 hv h104), ht⟩) (fun q h => by cases h) d_M_after_118
          ·
            refine lv_iload hx hb d_M_after_91 (lv_at hl 0 rfl) ?_
            refine lv_goto (tgt := 118) hx hb d_M_after_93 rfl ?_
            exact W.iret (v := nI (enc9 (va_up (dig9 a) u 0))) hx hb hrt (fun t ht hW => ⟨_, rfl, af_5 (mv_of h9 (Or.inl (pl5 (by omega) h32)) h70) (pl5 (by omega) h88), ht⟩) (fun q h => by cases h) d_M_after_118
        ·
          have h70 := b2i_f h70
          refine lv_iconst (v := (-1)) hx hb d_M_after_73 rfl ?_
          exact W.iret (v := (-1)) hx hb hrt (fun t ht hW => ⟨_, rfl, af_no3 h70, ht⟩) (fun q h => by cases h) d_M_after_74
    ·
      refine lv_iload_n hx hb d_M_after_35 rfl (lv_at hl 6 rfl) ?_
      refine lv_iload_n hx hb d_M_after_36 rfl (lv_at hl 5 rfl) ?_
      refine lv_icmp_eq (tgt := 48) hx hb d_M_after_37 rfl (fun h37 => ?_) (fun h37 => ?_)
      ·
        refine lv_iconst (v := 1) hx hb d_M_after_48 rfl ?_
        refine lv_goto (tgt := 53) hx hb d_M_after_49 rfl ?_
        refine lv_istore (lv' := [(7, .int 1), (6, .int (nI ((dig9 a u - 1) % 4))), (5, .int (nI ((dig9 a u - 1) / 4))), (4, .int (nI (dig9 a u))), (0, .ref (rA_ad G 0)), (1, .int (nI a)), (2, .int (nI u)), (3, .int (nI v))]) hx hb d_M_after_53 hl (by decide) rfl (fun ls hl => ?_)
        refine lv_iload hx hb d_M_after_55 (lv_at hl 0 rfl) ?_
        refine lv_if_eq (tgt := 73) hx hb d_M_after_57 rfl (fun h57 => ?_) (fun h57 => ?_)
        ·
          exact absurd h57 (by decide)
        ·
          refine lv_aload_n hx hb d_M_after_60 rfl (lv_at hl 4 rfl) ?_
          refine lv_iload hx hb d_M_after_61 (lv_at hl 2 rfl) ?_
          refine lv_iload hx hb d_M_after_63 (lv_at hl 1 rfl) ?_
          refine lv_iload_n hx hb d_M_after_65 rfl (lv_at hl 6 rfl) ?_
          refine lv_iload_n hx hb d_M_after_66 rfl (lv_at hl 7 rfl) ?_
          refine vp_callSi (W.runV (As := [.int (nI ((dig9 a u - 1) / 4)), .int (nI ((dig9 a u - 1) % 4)), .int (nI u), .int (nI v)]) (rest := []) ⟨hx, hb, hml, hown, hts⟩ (c_M_isWay l X G A ((dig9 a u - 1) / 4) ((dig9 a u - 1) % 4) u v hR (show (dig9 a u - 1) / 4 < 2 by omega) (((hok u hu).2 (fun z => h9 (by rw [z]; rfl))).1) (show u < 6 by omega) hv) (cwV 4 hts (gV (wd_3 37 rfl rfl) (wd_3 39 rfl rfl) (wd_s 20 rfl) (wd_1 6 rfl rfl) (wd_3 40 rfl rfl)) rfl rfl rfl ⟨rfl, hd_M_isWay⟩ ⟨Nat.le_of_ble_eq_true rfl, Nat.le_of_ble_eq_true rfl⟩) (vx_preV (P := QR X G A) hP hK (va_recv hK.1 hP (ci := 6) rfl rw_0)) rfl rfl hl.1 rfl (lv_room (Nat.le_of_ble_eq_true rfl)) d_M_after_67 ⟨Nat.zero_le _, Nat.zero_le _⟩) (fun r67 e67 => ?_)
          subst e67
          rw [way_eq hR ((hok u hu).2 (fun z => h9 (by rw [z]; rfl))).1 (show u < 6 by omega) hv]
          rw [show leadN (sA_dn A) (mskN (envA A) ((dig9 a u - 1) / 4) ((dig9 a u - 1) % 4)) u v = way9 (envA A) ((dig9 a u - 1) / 4) ((dig9 a u - 1) % 4) u v from rfl]
          refine lv_if_ne (tgt := 75) hx hb d_M_after_70 rfl (fun h70 => ?_) (fun h70 => ?_)
          ·
            have h70 := b2i_t h70
            refine lv_iload_n hx hb d_M_after_75 rfl (lv_at hl 5 rfl) ?_
            refine lv_iload hx hb d_M_after_76 (lv_at hl 3 rfl) ?_
            refine lv_iload_n hx hb d_M_after_78 rfl (lv_at hl 6 rfl) ?_
            refine vp_callSi (W.runS (As := [.int (nI u)]) (rest := [.int (nI (dig9 a u)), .int (nI a)]) ⟨hx, hb, hml, hown, hts⟩ (c_M_power l X u (by omega)) (va_cwS 1 hts (gT (wd_3 7 rfl rfl) (wd_3 8 rfl rfl) (wd_1 6 rfl rfl) (wd_3 9 rfl rfl)) rfl rfl rfl hd_M_power ⟨Nat.le_of_ble_eq_true rfl, Nat.le_of_ble_eq_true rfl⟩) (vx_preS (P := fun _ => True) trivial hK) rfl rfl hl.1 rfl (lv_room (Nat.le_of_ble_eq_true rfl)) d_M_after_79 ⟨Nat.zero_le _, Nat.zero_le _⟩) (fun r79 e79 => ?_)
            subst e79
            refine lv_imul hx hb d_M_after_82 ?_
            refine lv_isub hx hb d_M_after_83 ?_
            rw [lift9 ha hu]
            refine lv_istore (lv' := [(8, .int (nI (enc9 (va_up (dig9 a) u 0)))), (7, .int 1), (6, .int (nI ((dig9 a u - 1) % 4))), (5, .int (nI ((dig9 a u - 1) / 4))), (4, .int (nI (dig9 a u))), (0, .ref (rA_ad G 0)), (1, .int (nI a)), (2, .int (nI u)), (3, .int (nI v))]) hx hb d_M_after_84 hl (by decide) rfl (fun ls hl => ?_)
            refine lv_iload_n hx hb d_M_after_86 rfl (lv_at hl 8 rfl) ?_
            refine lv_iconst (v := 5) hx hb d_M_after_87 rfl ?_
            refine lv_icmp_ne (tgt := 96) hx hb d_M_after_88 rfl (fun h88 => ?_) (fun h88 => ?_)
            ·
              refine lv_iload hx hb d_M_after_96 (lv_at hl 0 rfl) ?_
              refine lv_iload_n hx hb d_M_after_98 rfl (lv_at hl 8 rfl) ?_
              refine vp_callSi (W.runS (As := [.int (nI v)]) (rest := [.int (nI (enc9 (va_up (dig9 a) u 0)))]) ⟨hx, hb, hml, hown, hts⟩ (c_M_power l X v (show v ≤ 5 by omega)) (va_cwS 1 hts (gT (wd_3 7 rfl rfl) (wd_3 8 rfl rfl) (wd_1 6 rfl rfl) (wd_3 9 rfl rfl)) rfl rfl rfl hd_M_power ⟨Nat.le_of_ble_eq_true rfl, Nat.le_of_ble_eq_true rfl⟩) (vx_preS (P := fun _ => True) trivial hK) rfl rfl hl.1 rfl (lv_room (Nat.le_of_ble_eq_true rfl)) d_M_after_99 ⟨Nat.zero_le _, Nat.zero_le _⟩) (fun r99 e99 => ?_)
              subst e99
              refine lv_iload_n hx hb d_M_after_102 rfl (lv_at hl 8 rfl) ?_
              refine lv_iconst (v := 4) hx hb d_M_after_103 rfl ?_
              refine lv_icmp_ge (tgt := 114) hx hb d_M_after_104 rfl (fun h104 => ?_) (fun h104 => ?_)
              ·
                refine lv_iload hx hb d_M_after_114 (lv_at hl 4 rfl) ?_
                refine lv_imul hx hb d_M_after_116 ?_
                refine lv_iadd hx hb d_M_after_117 ?_
                exact W.iret (v := ((nI (enc9 (va_up (dig9 a) u 0))) + ((f_M_power v) * (nI (dig9 a u))))) hx hb hrt (fun t ht hW => ⟨_, rfl, af_4 (mv_of h9 (Or.inr (Or.inl ((nI_eq (by omega) (by omega)).mp h37))) h70) (Or.inr (Or.inl ((nI_eq (by omega) (by omega)).mp h37))) hv (fun z => h88 (by rw [z]; rfl)) (ge4 hv h104), ht⟩) (fun q h => by cases h) d_M_after_118
              ·
                refine lv_iload hx hb d_M_after_107 (lv_at hl 4 rfl) ?_
                refine lv_iconst (v := 1) hx hb d_M_after_109 rfl ?_
                refine lv_iadd hx hb d_M_after_110 ?_
                refine lv_goto (tgt := 116) hx hb d_M_after_111 rfl ?_
                refine lv_imul hx hb d_M_after_116 ?_
                refine lv_iadd hx hb d_M_after_117 ?_
                exact W.iret (v := ((nI (enc9 (va_up (dig9 a) u 0))) + ((f_M_power v) * ((nI (dig9 a u)) + 1)))) hx hb hrt (fun t ht hW => ⟨_, rfl, af_3 (mv_of h9 (Or.inr (Or.inl ((nI_eq (by omega) (by omega)).mp h37))) h70) (Or.inr (Or.inl ((nI_eq (by omega) (by omega)).mp h37))) (lt4 hv h104), ht⟩) (fun q h => by cases h) d_M_after_118
            ·
              refine lv_iload hx hb d_M_after_91 (lv_at hl 0 rfl) ?_
              refine lv_goto (tgt := 118) hx hb d_M_after_93 rfl ?_
              exact W.iret (v := nI (enc9 (va_up (dig9 a) u 0))) hx hb hrt (fun t ht hW => ⟨_, rfl, af_5 (mv_of h9 (Or.inr (Or.inl ((nI_eq (by omega) (by omega)).mp h37))) h70) (pl5 (by omega) h88), ht⟩) (fun q h => by cases h) d_M_after_118
          ·
            have h70 := b2i_f h70
            refine lv_iconst (v := (-1)) hx hb d_M_after_73 rfl ?_
            exact W.iret (v := (-1)) hx hb hrt (fun t ht hW => ⟨_, rfl, af_no3 h70, ht⟩) (fun q h => by cases h) d_M_after_74
      ·
        refine lv_iload_n hx hb d_M_after_40 rfl (lv_at hl 4 rfl) ?_
        refine lv_iload_n hx hb d_M_after_41 rfl (lv_at hl 6 rfl) ?_
        refine vp_callSi (W.runS (As := [.int (nI a), .int (nI v)]) (rest := []) ⟨hx, hb, hml, hown, hts⟩ (c_M_digit l X a v ha (ne5 hv h32)) (va_cwS 2 hts (gT (wd_3 26 rfl rfl) (wd_3 27 rfl rfl) (wd_1 6 rfl rfl) (wd_3 28 rfl rfl)) rfl rfl rfl hd_M_digit ⟨Nat.le_of_ble_eq_true rfl, Nat.le_of_ble_eq_true rfl⟩) (vx_preS (P := fun _ => True) trivial hK) rfl rfl hl.1 rfl (lv_room (Nat.le_of_ble_eq_true rfl)) d_M_after_42 ⟨Nat.zero_le _, Nat.zero_le _⟩) (fun r42 e42 => ?_)
        subst e42
        refine lv_if_ne (tgt := 52) hx hb d_M_after_45 rfl (fun h45 => ?_) (fun h45 => ?_)
        ·
          refine lv_iconst (v := 0) hx hb d_M_after_52 rfl ?_
          refine lv_istore (lv' := [(7, .int 0), (6, .int (nI ((dig9 a u - 1) % 4))), (5, .int (nI ((dig9 a u - 1) / 4))), (4, .int (nI (dig9 a u))), (0, .ref (rA_ad G 0)), (1, .int (nI a)), (2, .int (nI u)), (3, .int (nI v))]) hx hb d_M_after_53 hl (by decide) rfl (fun ls hl => ?_)
          refine lv_iload hx hb d_M_after_55 (lv_at hl 0 rfl) ?_
          refine lv_if_eq (tgt := 73) hx hb d_M_after_57 rfl (fun h57 => ?_) (fun h57 => ?_)
          ·
            refine lv_iconst (v := (-1)) hx hb d_M_after_73 rfl ?_
            exact W.iret (v := (-1)) hx hb hrt (fun t ht hW => ⟨_, rfl, af_no2 (fun z => h32 (by rw [z]; rfl)) (fun z => h37 (by rw [z])) (fun z => h45 (by rw [dgd (ne5 hv h32), z]; rfl)), ht⟩) (fun q h => by cases h) d_M_after_74
          ·
            exact absurd (by decide) h57
        ·
          refine lv_iconst (v := 1) hx hb d_M_after_48 rfl ?_
          refine lv_goto (tgt := 53) hx hb d_M_after_49 rfl ?_
          refine lv_istore (lv' := [(7, .int 1), (6, .int (nI ((dig9 a u - 1) % 4))), (5, .int (nI ((dig9 a u - 1) / 4))), (4, .int (nI (dig9 a u))), (0, .ref (rA_ad G 0)), (1, .int (nI a)), (2, .int (nI u)), (3, .int (nI v))]) hx hb d_M_after_53 hl (by decide) rfl (fun ls hl => ?_)
          refine lv_iload hx hb d_M_after_55 (lv_at hl 0 rfl) ?_
          refine lv_if_eq (tgt := 73) hx hb d_M_after_57 rfl (fun h57 => ?_) (fun h57 => ?_)
          ·
            exact absurd h57 (by decide)
          ·
            refine lv_aload_n hx hb d_M_after_60 rfl (lv_at hl 4 rfl) ?_
            refine lv_iload hx hb d_M_after_61 (lv_at hl 2 rfl) ?_
            refine lv_iload hx hb d_M_after_63 (lv_at hl 1 rfl) ?_
            refine lv_iload_n hx hb d_M_after_65 rfl (lv_at hl 6 rfl) ?_
            refine lv_iload_n hx hb d_M_after_66 rfl (lv_at hl 7 rfl) ?_
            refine vp_callSi (W.runV (As := [.int (nI ((dig9 a u - 1) / 4)), .int (nI ((dig9 a u - 1) % 4)), .int (nI u), .int (nI v)]) (rest := []) ⟨hx, hb, hml, hown, hts⟩ (c_M_isWay l X G A ((dig9 a u - 1) / 4) ((dig9 a u - 1) % 4) u v hR (show (dig9 a u - 1) / 4 < 2 by omega) (((hok u hu).2 (fun z => h9 (by rw [z]; rfl))).1) (show u < 6 by omega) hv) (cwV 4 hts (gV (wd_3 37 rfl rfl) (wd_3 39 rfl rfl) (wd_s 20 rfl) (wd_1 6 rfl rfl) (wd_3 40 rfl rfl)) rfl rfl rfl ⟨rfl, hd_M_isWay⟩ ⟨Nat.le_of_ble_eq_true rfl, Nat.le_of_ble_eq_true rfl⟩) (vx_preV (P := QR X G A) hP hK (va_recv hK.1 hP (ci := 6) rfl rw_0)) rfl rfl hl.1 rfl (lv_room (Nat.le_of_ble_eq_true rfl)) d_M_after_67 ⟨Nat.zero_le _, Nat.zero_le _⟩) (fun r67 e67 => ?_)
            subst e67
            rw [way_eq hR ((hok u hu).2 (fun z => h9 (by rw [z]; rfl))).1 (show u < 6 by omega) hv]
            rw [show leadN (sA_dn A) (mskN (envA A) ((dig9 a u - 1) / 4) ((dig9 a u - 1) % 4)) u v = way9 (envA A) ((dig9 a u - 1) / 4) ((dig9 a u - 1) % 4) u v from rfl]
            refine lv_if_ne (tgt := 75) hx hb d_M_after_70 rfl (fun h70 => ?_) (fun h70 => ?_)
            ·
              have h70 := b2i_t h70
              refine lv_iload_n hx hb d_M_after_75 rfl (lv_at hl 5 rfl) ?_
              refine lv_iload hx hb d_M_after_76 (lv_at hl 3 rfl) ?_
              refine lv_iload_n hx hb d_M_after_78 rfl (lv_at hl 6 rfl) ?_
              refine vp_callSi (W.runS (As := [.int (nI u)]) (rest := [.int (nI (dig9 a u)), .int (nI a)]) ⟨hx, hb, hml, hown, hts⟩ (c_M_power l X u (by omega)) (va_cwS 1 hts (gT (wd_3 7 rfl rfl) (wd_3 8 rfl rfl) (wd_1 6 rfl rfl) (wd_3 9 rfl rfl)) rfl rfl rfl hd_M_power ⟨Nat.le_of_ble_eq_true rfl, Nat.le_of_ble_eq_true rfl⟩) (vx_preS (P := fun _ => True) trivial hK) rfl rfl hl.1 rfl (lv_room (Nat.le_of_ble_eq_true rfl)) d_M_after_79 ⟨Nat.zero_le _, Nat.zero_le _⟩) (fun r79 e79 => ?_)
              subst e79
              refine lv_imul hx hb d_M_after_82 ?_
              refine lv_isub hx hb d_M_after_83 ?_
              rw [lift9 ha hu]
              refine lv_istore (lv' := [(8, .int (nI (enc9 (va_up (dig9 a) u 0)))), (7, .int 1), (6, .int (nI ((dig9 a u - 1) % 4))), (5, .int (nI ((dig9 a u - 1) / 4))), (4, .int (nI (dig9 a u))), (0, .ref (rA_ad G 0)), (1, .int (nI a)), (2, .int (nI u)), (3, .int (nI v))]) hx hb d_M_after_84 hl (by decide) rfl (fun ls hl => ?_)
              refine lv_iload_n hx hb d_M_after_86 rfl (lv_at hl 8 rfl) ?_
              refine lv_iconst (v := 5) hx hb d_M_after_87 rfl ?_
              refine lv_icmp_ne (tgt := 96) hx hb d_M_after_88 rfl (fun h88 => ?_) (fun h88 => ?_)
              ·
                refine lv_iload hx hb d_M_after_96 (lv_at hl 0 rfl) ?_
                refine lv_iload_n hx hb d_M_after_98 rfl (lv_at hl 8 rfl) ?_
                refine vp_callSi (W.runS (As := [.int (nI v)]) (rest := [.int (nI (enc9 (va_up (dig9 a) u 0)))]) ⟨hx, hb, hml, hown, hts⟩ (c_M_power l X v (show v ≤ 5 by omega)) (va_cwS 1 hts (gT (wd_3 7 rfl rfl) (wd_3 8 rfl rfl) (wd_1 6 rfl rfl) (wd_3 9 rfl rfl)) rfl rfl rfl hd_M_power ⟨Nat.le_of_ble_eq_true rfl, Nat.le_of_ble_eq_true rfl⟩) (vx_preS (P := fun _ => True) trivial hK) rfl rfl hl.1 rfl (lv_room (Nat.le_of_ble_eq_true rfl)) d_M_after_99 ⟨Nat.zero_le _, Nat.zero_le _⟩) (fun r99 e99 => ?_)
                subst e99
                refine lv_iload_n hx hb d_M_after_102 rfl (lv_at hl 8 rfl) ?_
                refine lv_iconst (v := 4) hx hb d_M_after_103 rfl ?_
                refine lv_icmp_ge (tgt := 114) hx hb d_M_after_104 rfl (fun h104 => ?_) (fun h104 => ?_)
                ·
                  refine lv_iload hx hb d_M_after_114 (lv_at hl 4 rfl) ?_
                  refine lv_imul hx hb d_M_after_116 ?_
                  refine lv_iadd hx hb d_M_after_117 ?_
                  exact W.iret (v := ((nI (enc9 (va_up (dig9 a) u 0))) + ((f_M_power v) * (nI (dig9 a u))))) hx hb hrt (fun t ht hW => ⟨_, rfl, af_4 (mv_of h9 (Or.inr (Or.inr (dig_0 (ne5 hv h32) h45))) h70) (Or.inr (Or.inr (dig_0 (ne5 hv h32) h45))) hv (fun z => h88 (by rw [z]; rfl)) (ge4 hv h104), ht⟩) (fun q h => by cases h) d_M_after_118
                ·
                  refine lv_iload hx hb d_M_after_107 (lv_at hl 4 rfl) ?_
                  refine lv_iconst (v := 1) hx hb d_M_after_109 rfl ?_
                  refine lv_iadd hx hb d_M_after_110 ?_
                  refine lv_goto (tgt := 116) hx hb d_M_after_111 rfl ?_
                  refine lv_imul hx hb d_M_after_116 ?_
                  refine lv_iadd hx hb d_M_after_117 ?_
                  exact W.iret (v := ((nI (enc9 (va_up (dig9 a) u 0))) + ((f_M_power v) * ((nI (dig9 a u)) + 1)))) hx hb hrt (fun t ht hW => ⟨_, rfl, af_3 (mv_of h9 (Or.inr (Or.inr (dig_0 (ne5 hv h32) h45))) h70) (Or.inr (Or.inr (dig_0 (ne5 hv h32) h45))) (lt4 hv h104), ht⟩) (fun q h => by cases h) d_M_after_118
              ·
                refine lv_iload hx hb d_M_after_91 (lv_at hl 0 rfl) ?_
                refine lv_goto (tgt := 118) hx hb d_M_after_93 rfl ?_
                exact W.iret (v := nI (enc9 (va_up (dig9 a) u 0))) hx hb hrt (fun t ht hW => ⟨_, rfl, af_5 (mv_of h9 (Or.inr (Or.inr (dig_0 (ne5 hv h32) h45))) h70) (pl5 (by omega) h88), ht⟩) (fun q h => by cases h) d_M_after_118
            ·
              have h70 := b2i_f h70
              refine lv_iconst (v := (-1)) hx hb d_M_after_73 rfl ?_
              exact W.iret (v := (-1)) hx hb hrt (fun t ht hW => ⟨_, rfl, af_no3 h70, ht⟩) (fun q h => by cases h) d_M_after_74
  ·
    refine lv_iconst (v := (-1)) hx hb d_M_after_12 rfl ?_
    exact W.iret (v := (-1)) hx hb hrt (fun t ht hW => ⟨_, rfl, af_no1 h9, ht⟩) (fun q h => by cases h) d_M_after_13
abbrev rm_M_knownOf : Room := { frames := 0, cells := 0, slots := 0, locals := 0 }
set_option maxRecDepth 20000 in
set_option maxHeartbeats 4000000 in
theorem c_M_knownOf (l : Launch) (X : Xt) (G : Gr) (A : St) (a : Nat) (ha : a < 59049) : Met l y_M_knownOf (Cond.code y_M_knownOf b_M_knownOf 2 (some .int) :: WA) rm_M_knownOf (va_Pc [.ref (rA_ad G 0), .int (nI a)] (fun U => QR X G A U.heap ∧ KK X U)) (vp_Si (fun ans => ans = f_M_knownOf G a)) 0 0 (fun _ => False) := by
  refine vx_met (cc := b_M_knownOf) (maxL := 2) (ret := (some .int)) (by decide) rfl (Nat.le_of_ble_eq_true rfl) ?_
  intro p e s m below meth c ls hx hb hrt hts hown hlocks hname hml hB hl
  obtain ⟨hP, hK⟩ := hB
  have hown : s.vm.findClass R_Model = some m.cls := hown
  have hl : lv_has ls 2 [(0, .ref (rA_ad G 0)), (1, .int (nI a))] := hl
  have hP : va_P X.1 classes (rw_ X G A) s.heap := hP
  refine lv_aload_n hx hb d_M_knownOf_0 rfl (lv_at hl 0 rfl) ?_
  refine va_get (D := X.1) (ci := 6) (C := R_Model) (T := F_Model) (N := 24) hx hb hts hin_Model hown hK.1 hP 0 rw_0 rfl 20 (by decide) (hts _ (wd_2 174 rfl rfl)) (fun _ h9 => h9) rfl d_M_knownOf_1 ?_
  refine lv_iload_n hx hb d_M_knownOf_4 rfl (lv_at hl 1 rfl) ?_
  refine lv_bipush (v := 16) hx hb d_M_knownOf_5 rfl ?_
  refine lv_idiv hx hb d_M_knownOf_7 (by decide) ?_
  rw [div16 (by omega)]
  refine va_iald hx hb hK.1 hP 15 0 rw_15 rfl (vp_in_nI (n := a / 16) (by omega) (by omega)) d_M_knownOf_8 ?_
  rw [nI_clamp (n := a / 16) (by omega)]
  refine lv_iconst (v := 2) hx hb d_M_knownOf_9 rfl ?_
  refine lv_iload_n hx hb d_M_knownOf_10 rfl (lv_at hl 1 rfl) ?_
  refine lv_bipush (v := 16) hx hb d_M_knownOf_11 rfl ?_
  refine lv_irem hx hb d_M_knownOf_13 (by decide) ?_
  rw [rem16 (by omega)]
  refine lv_imul hx hb d_M_knownOf_14 ?_
  refine lv_ishr hx hb d_M_knownOf_15 ?_
  refine lv_iconst (v := 3) hx hb d_M_knownOf_16 rfl ?_
  refine lv_iand hx hb d_M_knownOf_17 ?_
  exact W.iret (v := (((rA_kn G (a / 16)) >>> ((2 * (nI (a % 16))) &&& 31)) &&& 3)) hx hb hrt (fun t ht hW => ⟨_, rfl, kv_nI _ (by omega), ht⟩) (fun q h => by cases h) d_M_knownOf_18
abbrev rm_M_know : Room := { frames := 0, cells := 0, slots := 0, locals := 0 }
set_option maxRecDepth 20000 in
set_option maxHeartbeats 4000000 in
theorem c_M_know (l : Launch) (X : Xt) (G : Gr) (A : St) (Af : Nat → Prop) (a : Nat) (w : Nat) (ha : a < 59049) : Met l y_M_know (Cond.code y_M_know b_M_know 3 none :: WA) rm_M_know (va_Pc [.ref (rA_ad G 0), .int (nI a), .int (nI w)] (fun U => QW X Af G A U.heap ∧ KK X U)) (va_Qv (fun u => u = (rU_kn G (knU (rA_kn G) a w), A)) (atR X Af) Af) 0 0 Af := by
  refine vx_met (cc := b_M_know) (maxL := 3) (ret := none) (by decide) rfl (Nat.le_of_ble_eq_true rfl) ?_
  intro p e s m below meth c ls hx hb hrt hts hown hlocks hname hml hB hl
  obtain ⟨hP, hK⟩ := hB
  have hown : s.vm.findClass R_Model = some m.cls := hown
  have hl : lv_has ls 3 [(0, .ref (rA_ad G 0)), (1, .int (nI a)), (2, .int (nI w))] := hl
  have hD : va_D Af (rw_ X G A) := hP.2
  have hP : va_P X.1 classes (rw_ X G A) s.heap := hP.1
  have hS : va_S Af s.heap s.heap [] := va_S.rf
  refine lv_aload_n hx hb d_M_know_0 rfl (lv_at hl 0 rfl) ?_
  refine va_get (D := X.1) (ci := 6) (C := R_Model) (T := F_Model) (N := 24) hx hb hts hin_Model hown hK.1 hP 0 rw_0 rfl 20 (by decide) (hts _ (wd_2 174 rfl rfl)) (fun _ h9 => h9) rfl d_M_know_1 ?_
  refine lv_iload_n hx hb d_M_know_4 rfl (lv_at hl 1 rfl) ?_
  refine lv_bipush (v := 16) hx hb d_M_know_5 rfl ?_
  refine lv_idiv hx hb d_M_know_7 (by decide) ?_
  rw [div16 (by omega)]
  refine lv_dup2_11 hx hb d_M_know_8 rfl rfl ?_
  refine va_iald hx hb hK.1 hP 15 0 rw_15 rfl (vp_in_nI (n := a / 16) (by omega) (by omega)) d_M_know_9 ?_
  rw [nI_clamp (n := a / 16) (by omega)]
  refine lv_iload_n hx hb d_M_know_10 rfl (lv_at hl 2 rfl) ?_
  refine lv_iconst (v := 2) hx hb d_M_know_11 rfl ?_
  refine lv_iload_n hx hb d_M_know_12 rfl (lv_at hl 1 rfl) ?_
  refine lv_bipush (v := 16) hx hb d_M_know_13 rfl ?_
  refine lv_irem hx hb d_M_know_15 (by decide) ?_
  rw [rem16 (by omega)]
  refine lv_imul hx hb d_M_know_16 ?_
  refine lv_ishl hx hb d_M_know_17 ?_
  refine lv_ior hx hb d_M_know_18 ?_
  refine va_iast hx hb hK.1 hP hD hS 15 0 rw_15 rfl (vp_in_nI (n := a / 16) (by omega) (by omega)) d_M_know_19 (fun H locs hP hD hS => ?_)
  rw [nI_clamp (n := a / 16) (by omega)] at hP hD
  replace hP := vx_P (rw_s_kn (X := X) (G := G) (A := A) (k := a / 16) (v := ((rA_kn G (a / 16)) ||| ((nI w) <<< ((2 * (nI (a % 16))) &&& 31))))) hP
  replace hD := vx_D (rw_s_kn (X := X) (G := G) (A := A) (k := a / 16) (v := ((rA_kn G (a / 16)) ||| ((nI w) <<< ((2 * (nI (a % 16))) &&& 31))))) hD
  exact W.vret hx hb hrt (fun t ht hW => ⟨⟨(rU_kn G (knU (rA_kn G) a w), A), rfl, rfl, ⟨by rw [ht]; exact hP, hD⟩⟩, hS.F ht⟩) hS.2.2 d_M_know_20
abbrev rm_M_count : Room := { frames := 1, cells := 0, slots := 0, locals := 21 }
set_option maxRecDepth 20000 in
set_option maxHeartbeats 4000000 in
theorem lp_M_count {p : Program} {l : Launch} {e : Env} {s : State} {m : MethodId} {args : Array Value} {below : List Frame} {meth : Method} {c : Code} {Q : State → Prop} {X : Xt} {G : Gr} {A : St} {x : Int32} (hx : p.tables.exec = Jvm.exec) (hb : c.code = b_M_count) (hts : ∀ w ∈ Cond.code y_M_count b_M_count 4 (some .int) :: WA, w.before args s = true) (hown : s.vm.findClass R_Model = some m.cls) (hml : c.maxLocals = 4) (hK : KK X s) (hI : Inv A) (hP : va_P X.1 classes (rw_ X G A) s.heap) (kont : ∀ ls : Array Slot, lv_has ls 4 [(2, .int (nI (cnt (cF A x) (sA_n A)))), (1, .int x), (0, .ref (rA_ad G 0))] → W p l e rm_M_count s m args below meth c s.heap [] 0 0 Q (F0 m 53 ls [])) : ∀ (r i : Nat) (ls : Array Slot), i + r = sA_n A → lv_has ls 4 [(2, .int (nI (cnt (cF A x) i))), (3, .int (nI i)), (1, .int x), (0, .ref (rA_ad G 0))] → W p l e rm_M_count s m args below meth c s.heap [] 0 0 Q (F0 m 4 ls []) := by
  have hn := hI.1
  intro r
  induction r with
  | zero =>
    intro i ls hi hl
    have hi : i = sA_n A := by omega
    subst hi
    refine lv_iload_n hx hb d_M_count_4 rfl (lv_at hl 1 rfl) ?_
    refine lv_aload_n hx hb d_M_count_5 rfl (lv_at hl 3 rfl) ?_
    refine va_get (D := X.1) (ci := 6) (C := R_Model) (T := F_Model) (N := 24) hx hb hts hin_Model hown hK.1 hP 0 rw_0 rfl 4 (by decide) (hts _ (wd_2 158 rfl rfl)) (fun _ h9 => h9) rfl d_M_count_6 ?_
    refine lv_icmp_ge (tgt := 53) hx hb d_M_count_9 rfl (fun h9 => ?_) (fun h9 => ?_)
    ·
      exact kont ls (lv_sub hl [0, 2, 3] rfl)
    ·
      exact absurd (Int32.le_refl _) h9
  | succ r ih =>
    intro i ls hi hl
    have hin : i < sA_n A := by omega
    refine lv_iload_n hx hb d_M_count_4 rfl (lv_at hl 1 rfl) ?_
    refine lv_aload_n hx hb d_M_count_5 rfl (lv_at hl 3 rfl) ?_
    refine va_get (D := X.1) (ci := 6) (C := R_Model) (T := F_Model) (N := 24) hx hb hts hin_Model hown hK.1 hP 0 rw_0 rfl 4 (by decide) (hts _ (wd_2 158 rfl rfl)) (fun _ h9 => h9) rfl d_M_count_6 ?_
    refine lv_icmp_ge (tgt := 53) hx hb d_M_count_9 rfl (fun h9 => ?_) (fun h9 => ?_)
    ·
      exact absurd h9 (nI_ge hin (by omega))
    ·
      refine lv_iload_n hx hb d_M_count_12 rfl (lv_at hl 0 rfl) ?_
      refine lv_iload_n hx hb d_M_count_13 rfl (lv_at hl 2 rfl) ?_
      refine lv_iconst (v := 1) hx hb d_M_count_14 rfl ?_
      refine lv_icmp_ne (tgt := 26) hx hb d_M_count_15 rfl (fun h15 => ?_) (fun h15 => ?_)
      ·
        refine lv_iload_n hx hb d_M_count_26 rfl (lv_at hl 2 rfl) ?_
        refine lv_iconst (v := 2) hx hb d_M_count_27 rfl ?_
        refine lv_icmp_ne (tgt := 44) hx hb d_M_count_28 rfl (fun h28 => ?_) (fun h28 => ?_)
        ·
          refine lv_iconst (v := 0) hx hb d_M_count_44 rfl ?_
          refine lv_iadd hx hb d_M_count_45 ?_
          refine lv_istore_n (lv' := [(2, .int ((nI (cnt (cF A x) i)) + 0)), (3, .int (nI i)), (1, .int x), (0, .ref (rA_ad G 0))]) hx hb d_M_count_46 rfl hl (by decide) rfl (fun ls hl => ?_)
          refine lv_iinc (k := 1) (v := (nI i + 1)) (lv' := [(3, .int (nI i + 1)), (2, .int ((nI (cnt (cF A x) i)) + 0)), (1, .int x), (0, .ref (rA_ad G 0))]) hx hb d_M_count_47 hl rfl rfl (by decide) rfl (fun ls hl => ?_)
          refine lv_goto (tgt := 4) hx hb d_M_count_50 rfl ?_
          exact ih (i + 1) ls (by omega) (by rw [(show nI (cnt (cF A x) (i + 1)) = nI (cnt (cF A x) i) + 0 by rw [cnt_s, show cF A x i = false from by unfold cF; simp [h28, h15]]; rw [if_neg (by decide), Int32.add_zero, Nat.add_zero]), ← nI_1]; exact lv_sub hl [1, 0, 2, 3] rfl)
        ·
          refine lv_aload_n hx hb d_M_count_31 rfl (lv_at hl 3 rfl) ?_
          refine va_get (D := X.1) (ci := 6) (C := R_Model) (T := F_Model) (N := 24) hx hb hts hin_Model hown hK.1 hP 0 rw_0 rfl 10 (by decide) (hts _ (wd_2 164 rfl rfl)) (fun _ h9 => h9) rfl d_M_count_32 ?_
          refine lv_iload_n hx hb d_M_count_35 rfl (lv_at hl 1 rfl) ?_
          refine va_zald hx hb hK.1 hP 10 2 rw_10 rfl (vp_in_nI (n := i) (by omega) (by omega)) d_M_count_36 ?_
          rw [nI_clamp (n := i) (by omega)]
          refine lv_if_eq (tgt := 44) hx hb d_M_count_37 rfl (fun h37 => ?_) (fun h37 => ?_)
          ·
            have h37 := b2i_f h37
            refine lv_iconst (v := 0) hx hb d_M_count_44 rfl ?_
            refine lv_iadd hx hb d_M_count_45 ?_
            refine lv_istore_n (lv' := [(2, .int ((nI (cnt (cF A x) i)) + 0)), (3, .int (nI i)), (1, .int x), (0, .ref (rA_ad G 0))]) hx hb d_M_count_46 rfl hl (by decide) rfl (fun ls hl => ?_)
            refine lv_iinc (k := 1) (v := (nI i + 1)) (lv' := [(3, .int (nI i + 1)), (2, .int ((nI (cnt (cF A x) i)) + 0)), (1, .int x), (0, .ref (rA_ad G 0))]) hx hb d_M_count_47 hl rfl rfl (by decide) rfl (fun ls hl => ?_)
            refine lv_goto (tgt := 4) hx hb d_M_count_50 rfl ?_
            exact ih (i + 1) ls (by omega) (by rw [(show nI (cnt (cF A x) (i + 1)) = nI (cnt (cF A x) i) + 0 by rw [cnt_s, show cF A x i = false from by unfold cF; rw [h37]; simp [h15]]; rw [if_neg (by decide), Int32.add_zero, Nat.add_zero]), ← nI_1]; exact lv_sub hl [1, 0, 2, 3] rfl)
          ·
            have h37 := b2i_t h37
            refine lv_iconst (v := 1) hx hb d_M_count_40 rfl ?_
            refine lv_goto (tgt := 45) hx hb d_M_count_41 rfl ?_
            refine lv_iadd hx hb d_M_count_45 ?_
            refine lv_istore_n (lv' := [(2, .int ((nI (cnt (cF A x) i)) + 1)), (3, .int (nI i)), (1, .int x), (0, .ref (rA_ad G 0))]) hx hb d_M_count_46 rfl hl (by decide) rfl (fun ls hl => ?_)
            refine lv_iinc (k := 1) (v := (nI i + 1)) (lv' := [(3, .int (nI i + 1)), (2, .int ((nI (cnt (cF A x) i)) + 1)), (1, .int x), (0, .ref (rA_ad G 0))]) hx hb d_M_count_47 hl rfl rfl (by decide) rfl (fun ls hl => ?_)
            refine lv_goto (tgt := 4) hx hb d_M_count_50 rfl ?_
            exact ih (i + 1) ls (by omega) (by rw [(show nI (cnt (cF A x) (i + 1)) = nI (cnt (cF A x) i) + 1 by rw [cnt_s, show cF A x i = true from by unfold cF; rw [h28, h37]; simp]; rw [if_pos rfl, nI_1]), ← nI_1]; exact lv_sub hl [1, 0, 2, 3] rfl)
      ·
        refine lv_aload_n hx hb d_M_count_18 rfl (lv_at hl 3 rfl) ?_
        refine lv_iload_n hx hb d_M_count_19 rfl (lv_at hl 1 rfl) ?_
        refine vp_callSi (W.runV (As := [.int (nI i)]) (rest := [.int (nI (cnt (cF A x) i))]) ⟨hx, hb, hml, hown, hts⟩ (c_M_isFinished l X G A i hI hin) (cwV 1 hts (gV (wd_3 58 rfl rfl) (wd_3 60 rfl rfl) (wd_s 22 rfl) (wd_1 6 rfl rfl) (wd_3 61 rfl rfl)) rfl rfl rfl ⟨rfl, hd_M_isFinished⟩ ⟨Nat.le_of_ble_eq_true rfl, Nat.le_of_ble_eq_true rfl⟩) (vx_preV (P := QR X G A) hP hK (va_recv hK.1 hP (ci := 6) rfl rw_0)) rfl rfl hl.1 rfl (lv_room (Nat.le_of_ble_eq_true rfl)) d_M_count_20 ⟨Nat.zero_le _, Nat.zero_le _⟩) (fun r20 e20 => ?_)
        subst e20
        rw [isFin_eq hI hin]
        refine lv_if_ne (tgt := 40) hx hb d_M_count_23 rfl (fun h23 => ?_) (fun h23 => ?_)
        ·
          have h23 := b2i_t h23
          refine lv_iconst (v := 1) hx hb d_M_count_40 rfl ?_
          refine lv_goto (tgt := 45) hx hb d_M_count_41 rfl ?_
          refine lv_iadd hx hb d_M_count_45 ?_
          refine lv_istore_n (lv' := [(2, .int ((nI (cnt (cF A x) i)) + 1)), (3, .int (nI i)), (1, .int x), (0, .ref (rA_ad G 0))]) hx hb d_M_count_46 rfl hl (by decide) rfl (fun ls hl => ?_)
          refine lv_iinc (k := 1) (v := (nI i + 1)) (lv' := [(3, .int (nI i + 1)), (2, .int ((nI (cnt (cF A x) i)) + 1)), (1, .int x), (0, .ref (rA_ad G 0))]) hx hb d_M_count_47 hl rfl rfl (by decide) rfl (fun ls hl => ?_)
          refine lv_goto (tgt := 4) hx hb d_M_count_50 rfl ?_
          exact ih (i + 1) ls (by omega) (by rw [(show nI (cnt (cF A x) (i + 1)) = nI (cnt (cF A x) i) + 1 by rw [cnt_s, show cF A x i = true from by unfold cF; rw [h15, h23]; rfl]; rw [if_pos rfl, nI_1]), ← nI_1]; exact lv_sub hl [1, 0, 2, 3] rfl)
        ·
          have h23 := b2i_f h23
          refine lv_iload_n hx hb d_M_count_26 rfl (lv_at hl 2 rfl) ?_
          refine lv_iconst (v := 2) hx hb d_M_count_27 rfl ?_
          refine lv_icmp_ne (tgt := 44) hx hb d_M_count_28 rfl (fun h28 => ?_) (fun h28 => ?_)
          ·
            refine lv_iconst (v := 0) hx hb d_M_count_44 rfl ?_
            refine lv_iadd hx hb d_M_count_45 ?_
            refine lv_istore_n (lv' := [(2, .int ((nI (cnt (cF A x) i)) + 0)), (3, .int (nI i)), (1, .int x), (0, .ref (rA_ad G 0))]) hx hb d_M_count_46 rfl hl (by decide) rfl (fun ls hl => ?_)
            refine lv_iinc (k := 1) (v := (nI i + 1)) (lv' := [(3, .int (nI i + 1)), (2, .int ((nI (cnt (cF A x) i)) + 0)), (1, .int x), (0, .ref (rA_ad G 0))]) hx hb d_M_count_47 hl rfl rfl (by decide) rfl (fun ls hl => ?_)
            refine lv_goto (tgt := 4) hx hb d_M_count_50 rfl ?_
            exact ih (i + 1) ls (by omega) (by rw [(show nI (cnt (cF A x) (i + 1)) = nI (cnt (cF A x) i) + 0 by rw [cnt_s, show cF A x i = false from by unfold cF; simp [h28, h23]]; rw [if_neg (by decide), Int32.add_zero, Nat.add_zero]), ← nI_1]; exact lv_sub hl [1, 0, 2, 3] rfl)
          ·
            refine lv_aload_n hx hb d_M_count_31 rfl (lv_at hl 3 rfl) ?_
            refine va_get (D := X.1) (ci := 6) (C := R_Model) (T := F_Model) (N := 24) hx hb hts hin_Model hown hK.1 hP 0 rw_0 rfl 10 (by decide) (hts _ (wd_2 164 rfl rfl)) (fun _ h9 => h9) rfl d_M_count_32 ?_
            refine lv_iload_n hx hb d_M_count_35 rfl (lv_at hl 1 rfl) ?_
            refine va_zald hx hb hK.1 hP 10 2 rw_10 rfl (vp_in_nI (n := i) (by omega) (by omega)) d_M_count_36 ?_
            rw [nI_clamp (n := i) (by omega)]
            refine lv_if_eq (tgt := 44) hx hb d_M_count_37 rfl (fun h37 => ?_) (fun h37 => ?_)
            ·
              have h37 := b2i_f h37
              refine lv_iconst (v := 0) hx hb d_M_count_44 rfl ?_
              refine lv_iadd hx hb d_M_count_45 ?_
              refine lv_istore_n (lv' := [(2, .int ((nI (cnt (cF A x) i)) + 0)), (3, .int (nI i)), (1, .int x), (0, .ref (rA_ad G 0))]) hx hb d_M_count_46 rfl hl (by decide) rfl (fun ls hl => ?_)
              refine lv_iinc (k := 1) (v := (nI i + 1)) (lv' := [(3, .int (nI i + 1)), (2, .int ((nI (cnt (cF A x) i)) + 0)), (1, .int x), (0, .ref (rA_ad G 0))]) hx hb d_M_count_47 hl rfl rfl (by decide) rfl (fun ls hl => ?_)
              refine lv_goto (tgt := 4) hx hb d_M_count_50 rfl ?_
              exact ih (i + 1) ls (by omega) (by rw [(show nI (cnt (cF A x) (i + 1)) = nI (cnt (cF A x) i) + 0 by rw [cnt_s, show cF A x i = false from by unfold cF; rw [h37]; simp [h23]]; rw [if_neg (by decide), Int32.add_zero, Nat.add_zero]), ← nI_1]; exact lv_sub hl [1, 0, 2, 3] rfl)
            ·
              have h37 := b2i_t h37
              refine lv_iconst (v := 1) hx hb d_M_count_40 rfl ?_
              refine lv_goto (tgt := 45) hx hb d_M_count_41 rfl ?_
              refine lv_iadd hx hb d_M_count_45 ?_
              refine lv_istore_n (lv' := [(2, .int ((nI (cnt (cF A x) i)) + 1)), (3, .int (nI i)), (1, .int x), (0, .ref (rA_ad G 0))]) hx hb d_M_count_46 rfl hl (by decide) rfl (fun ls hl => ?_)
              refine lv_iinc (k := 1) (v := (nI i + 1)) (lv' := [(3, .int (nI i + 1)), (2, .int ((nI (cnt (cF A x) i)) + 1)), (1, .int x), (0, .ref (rA_ad G 0))]) hx hb d_M_count_47 hl rfl rfl (by decide) rfl (fun ls hl => ?_)
              refine lv_goto (tgt := 4) hx hb d_M_count_50 rfl ?_
              exact ih (i + 1) ls (by omega) (by rw [(show nI (cnt (cF A x) (i + 1)) = nI (cnt (cF A x) i) + 1 by rw [cnt_s, show cF A x i = true from by unfold cF; rw [h28, h37]; simp]; rw [if_pos rfl, nI_1]), ← nI_1]; exact lv_sub hl [1, 0, 2, 3] rfl)
set_option maxRecDepth 20000 in
set_option maxHeartbeats 4000000 in
theorem c_M_count (l : Launch) (X : Xt) (G : Gr) (A : St) (x : Int32) (hI : Inv A) : Met l y_M_count (Cond.code y_M_count b_M_count 4 (some .int) :: WA) rm_M_count (va_Pc [.ref (rA_ad G 0), .int x] (fun U => QR X G A U.heap ∧ KK X U)) (vp_Si (fun ans => ans = countF A x)) 0 0 (fun _ => False) := by
  refine vx_met (cc := b_M_count) (maxL := 4) (ret := (some .int)) (by decide) rfl (Nat.le_of_ble_eq_true rfl) ?_
  intro p e s m below meth c ls hx hb hrt hts hown hlocks hname hml hB hl
  obtain ⟨hP, hK⟩ := hB
  have hown : s.vm.findClass R_Model = some m.cls := hown
  have hl : lv_has ls 4 [(0, .ref (rA_ad G 0)), (1, .int x)] := hl
  have hP : va_P X.1 classes (rw_ X G A) s.heap := hP
  refine lv_iconst (v := 0) hx hb d_M_count_0 rfl ?_
  refine lv_istore_n (lv' := [(2, .int 0), (0, .ref (rA_ad G 0)), (1, .int x)]) hx hb d_M_count_1 rfl hl (by decide) rfl (fun ls hl => ?_)
  refine lv_iconst (v := 0) hx hb d_M_count_2 rfl ?_
  refine lv_istore_n (lv' := [(3, .int 0), (2, .int 0), (0, .ref (rA_ad G 0)), (1, .int x)]) hx hb d_M_count_3 rfl hl (by decide) rfl (fun ls hl => ?_)
  refine lp_M_count (X := X) hx hb hts hown hml hK hI hP (fun ls hl => ?_) (sA_n A) 0 ls (by omega) (lv_sub hl [1, 0, 3, 2] rfl)
  refine lv_iload_n hx hb d_M_count_53 rfl (lv_at hl 1 rfl) ?_
  refine lv_if_ne (tgt := 64) hx hb d_M_count_54 rfl (fun h54 => ?_) (fun h54 => ?_)
  ·
    refine lv_iload_n hx hb d_M_count_64 rfl (lv_at hl 1 rfl) ?_
    refine lv_iconst (v := 1) hx hb d_M_count_65 rfl ?_
    refine lv_icmp_eq (tgt := 74) hx hb d_M_count_66 rfl (fun h66 => ?_) (fun h66 => ?_)
    ·
      refine lv_iload_n hx hb d_M_count_74 rfl (lv_at hl 0 rfl) ?_
      refine lv_goto (tgt := 115) hx hb d_M_count_75 rfl ?_
      exact W.iret (v := nI (cnt (cF A x) (sA_n A))) hx hb hrt (fun t ht hW => ⟨_, rfl, by unfold countF; rw [if_neg h54, if_pos h66]; exact congrArg nI (cnt_congr (fun i _ => by unfold cF; rw [h66]; simp)), ht⟩) (fun q h => by cases h) d_M_count_115
    ·
      refine lv_iload_n hx hb d_M_count_69 rfl (lv_at hl 1 rfl) ?_
      refine lv_iconst (v := 2) hx hb d_M_count_70 rfl ?_
      refine lv_icmp_ne (tgt := 78) hx hb d_M_count_71 rfl (fun h71 => ?_) (fun h71 => ?_)
      ·
        refine lv_iload_n hx hb d_M_count_78 rfl (lv_at hl 1 rfl) ?_
        refine lv_iconst (v := 3) hx hb d_M_count_79 rfl ?_
        refine lv_icmp_ne (tgt := 90) hx hb d_M_count_80 rfl (fun h80 => ?_) (fun h80 => ?_)
        ·
          refine lv_iload_n hx hb d_M_count_90 rfl (lv_at hl 1 rfl) ?_
          refine lv_iconst (v := 4) hx hb d_M_count_91 rfl ?_
          refine lv_icmp_ne (tgt := 102) hx hb d_M_count_92 rfl (fun h92 => ?_) (fun h92 => ?_)
          ·
            refine lv_iload_n hx hb d_M_count_102 rfl (lv_at hl 1 rfl) ?_
            refine lv_iconst (v := 5) hx hb d_M_count_103 rfl ?_
            refine lv_icmp_ne (tgt := 114) hx hb d_M_count_104 rfl (fun h104 => ?_) (fun h104 => ?_)
            ·
              refine lv_iconst (v := (-1)) hx hb d_M_count_114 rfl ?_
              exact W.iret (v := (-1)) hx hb hrt (fun t ht hW => ⟨_, rfl, by unfold countF; rw [if_neg h54, if_neg h66, if_neg h71, if_neg h80, if_neg h92, if_neg h104], ht⟩) (fun q h => by cases h) d_M_count_115
            ·
              refine lv_aload_n hx hb d_M_count_107 rfl (lv_at hl 2 rfl) ?_
              refine va_get (D := X.1) (ci := 6) (C := R_Model) (T := F_Model) (N := 24) hx hb hts hin_Model hown hK.1 hP 0 rw_0 rfl 15 (by decide) (hts _ (wd_2 169 rfl rfl)) (fun _ h9 => h9) rfl d_M_count_108 ?_
              refine lv_goto (tgt := 115) hx hb d_M_count_111 rfl ?_
              exact W.iret (v := sA_ck A) hx hb hrt (fun t ht hW => ⟨_, rfl, by unfold countF; rw [if_neg h54, if_neg h66, if_neg h71, if_neg h80, if_neg h92, if_pos h104], ht⟩) (fun q h => by cases h) d_M_count_115
          ·
            refine lv_aload_n hx hb d_M_count_95 rfl (lv_at hl 2 rfl) ?_
            refine va_get (D := X.1) (ci := 6) (C := R_Model) (T := F_Model) (N := 24) hx hb hts hin_Model hown hK.1 hP 0 rw_0 rfl 19 (by decide) (hts _ (wd_2 173 rfl rfl)) (fun _ h9 => h9) rfl d_M_count_96 ?_
            refine lv_goto (tgt := 115) hx hb d_M_count_99 rfl ?_
            exact W.iret (v := sA_bm A) hx hb hrt (fun t ht hW => ⟨_, rfl, by unfold countF; rw [if_neg h54, if_neg h66, if_neg h71, if_neg h80, if_pos h92], ht⟩) (fun q h => by cases h) d_M_count_115
        ·
          refine lv_aload_n hx hb d_M_count_83 rfl (lv_at hl 2 rfl) ?_
          refine va_get (D := X.1) (ci := 6) (C := R_Model) (T := F_Model) (N := 24) hx hb hts hin_Model hown hK.1 hP 0 rw_0 rfl 18 (by decide) (hts _ (wd_2 172 rfl rfl)) (fun _ h9 => h9) rfl d_M_count_84 ?_
          refine lv_goto (tgt := 115) hx hb d_M_count_87 rfl ?_
          exact W.iret (v := sA_fm A) hx hb hrt (fun t ht hW => ⟨_, rfl, by unfold countF; rw [if_neg h54, if_neg h66, if_neg h71, if_pos h80], ht⟩) (fun q h => by cases h) d_M_count_115
      ·
        refine lv_iload_n hx hb d_M_count_74 rfl (lv_at hl 0 rfl) ?_
        refine lv_goto (tgt := 115) hx hb d_M_count_75 rfl ?_
        exact W.iret (v := nI (cnt (cF A x) (sA_n A))) hx hb hrt (fun t ht hW => ⟨_, rfl, by unfold countF; rw [if_neg h54, if_neg h66, if_pos h71]; exact congrArg nI (cnt_congr (fun i _ => by unfold cF; rw [h71]; simp)), ht⟩) (fun q h => by cases h) d_M_count_115
  ·
    refine lv_aload_n hx hb d_M_count_57 rfl (lv_at hl 2 rfl) ?_
    refine va_get (D := X.1) (ci := 6) (C := R_Model) (T := F_Model) (N := 24) hx hb hts hin_Model hown hK.1 hP 0 rw_0 rfl 4 (by decide) (hts _ (wd_2 158 rfl rfl)) (fun _ h9 => h9) rfl d_M_count_58 ?_
    refine lv_goto (tgt := 115) hx hb d_M_count_61 rfl ?_
    exact W.iret (v := nI (sA_n A)) hx hb hrt (fun t ht hW => ⟨_, rfl, by unfold countF; rw [if_pos h54], ht⟩) (fun q h => by cases h) d_M_count_115
