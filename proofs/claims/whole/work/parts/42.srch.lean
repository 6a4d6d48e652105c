set_option maxRecDepth 20000 in
set_option maxHeartbeats 4000000 in
theorem lp_E_inner {p : Program} {l : Launch} {e : Env} {s : State} {m : MethodId} {args : Array Value} {below : List Frame} {meth : Method} {c : Code} {Q : State → Prop} {X : Xt} {G : Gc} {A : St} {Af : Nat → Prop} {S : Nat → Nat} {d nn : Nat} (hx : p.tables.exec = Jvm.exec) (hb : c.code = b_E_searchMoves) (hts : ∀ w ∈ Cond.code y_E_searchMoves b_E_searchMoves 9 (some .boolean) :: WA, w.before args s = true) (hown : s.vm.findClass R_Emptying = some m.cls) (hml : c.maxLocals = 9) (hK : KK X s) (hR : rOk A) (hfS : fitS S) (hd : phi S + d ≤ 34) (hnn : phi S ≤ nn) (ih : ∀ k, k < nn → CS l X k) {q : Nat} (hq : q < 6) (kontT : ∀ (kn ps : Nat → Int64) (H : Heap) (locs : List Loc) (ls : Array Slot), mvE (envA A) S = true → MI (envA A) kn ps → va_P X.1 classes (cw X (gU_ps (gU_kn G kn) ps) A) H → va_D Af (cw X (gU_ps (gU_kn G kn) ps) A) → va_S Af s.heap H locs → W p l e (rmM nn) s m args below meth c H locs 0 0 Q (F0 m 94 ls [.int 1]))
    (kont : ∀ (kn ps : Nat → Int64) (H : Heap) (locs : List Loc) (ls : Array Slot), triP (envA A) S q 5 → MI (envA A) kn ps → va_P X.1 classes (cw X (gU_ps (gU_kn G kn) ps) A) H → va_D Af (cw X (gU_ps (gU_kn G kn) ps) A) → va_S Af s.heap H locs → lv_has ls 9 [(4, .int (nI q)), (2, .int (nI (enc S))), (3, .int (nI d)), (0, .ref (gA_ad G 2)), (1, .ref (gA_ad G 1))] → W p l e (rmM nn) s m args below meth c H locs 0 0 Q (F0 m 101 ls [])) :
    ∀ (r f : Nat) (kn ps : Nat → Int64) (H : Heap) (locs : List Loc) (ls : Array Slot), f + r = 5 → triP (envA A) S q f → MI (envA A) kn ps → va_P X.1 classes (cw X (gU_ps (gU_kn G kn) ps) A) H → va_D Af (cw X (gU_ps (gU_kn G kn) ps) A) → va_S Af s.heap H locs → lv_has ls 9 [(5, .int (nI f)), (4, .int (nI q)), (2, .int (nI (enc S))), (3, .int (nI d)), (0, .ref (gA_ad G 2)), (1, .ref (gA_ad G 1))] → W p l e (rmM nn) s m args below meth c H locs 0 0 Q (F0 m 11 ls []) := by
  intro r
  induction r with
  | zero =>
    intro f kn ps H locs ls hfr htr hm hP hD hS hl
    have hfr : f = 5 := by omega
    subst hfr
    refine lv_iload hx hb d_E_searchMoves_11 (lv_at hl 0 rfl) ?_
    refine lv_iconst (v := 4) hx hb d_E_searchMoves_13 rfl ?_
    refine lv_icmp_gt (tgt := 101) hx hb d_E_searchMoves_14 rfl (fun h14 => ?_) (fun h14 => ?_)
    ·
      exact kont kn ps H locs ls htr hm hP hD hS (lv_sub hl [1, 2, 3, 4, 5] rfl)
    ·
      exact absurd (by decide) h14
  | succ r ihr =>
    intro f kn ps H locs ls hfr htr hm hP hD hS hl
    have hf5 : f < 5 := by omega
    refine lv_iload hx hb d_E_searchMoves_11 (lv_at hl 0 rfl) ?_
    refine lv_iconst (v := 4) hx hb d_E_searchMoves_13 rfl ?_
    refine lv_icmp_gt (tgt := 101) hx hb d_E_searchMoves_14 rfl (fun h14 => ?_) (fun h14 => ?_)
    ·
      exact absurd h14 (nI_nlt (a := 4) (b := f) (by omega) (by omega))
    ·
      refine lv_iload_n hx hb d_E_searchMoves_17 rfl (lv_at hl 2 rfl) ?_
      refine lv_iload hx hb d_E_searchMoves_18 (lv_at hl 0 rfl) ?_
      refine vp_callSi (W.runS (As := [.int (nI (enc S)), .int (nI f)]) (rest := []) ⟨hx, hb, hml, hown, hts⟩ (c_S_markAt l X (nI (enc S)) (nI f)) (va_cwS 2 hts (gT (wd_2 4 rfl rfl) (wd_1 233 rfl rfl) (wd_1 8 rfl rfl) (wd_1 234 rfl rfl)) rfl rfl rfl hd_S_markAt ⟨Nat.le_trans (m := 3) (Nat.le_of_ble_eq_true rfl) (Nat.le_add_right _ _), Nat.le_trans (m := 300) (Nat.le_of_ble_eq_true rfl) (Nat.le_add_right _ _)⟩) (vx_preS (P := fun _ => True) trivial hK) rfl rfl hl.1 rfl (lv_room (Nat.le_of_ble_eq_true rfl)) d_E_searchMoves_20 ⟨Nat.zero_le _, Nat.zero_le _⟩) (fun r20 e20 => ?_)
      subst e20
      rw [markAt_nI hfS hf5]
      refine lv_istore (lv' := [(6, .int (nI (S f))), (5, .int (nI f)), (4, .int (nI q)), (2, .int (nI (enc S))), (3, .int (nI d)), (0, .ref (gA_ad G 2)), (1, .ref (gA_ad G 1))]) hx hb d_E_searchMoves_23 hl (by decide) rfl (fun ls hl => ?_)
      refine lv_iload hx hb d_E_searchMoves_25 (lv_at hl 0 rfl) ?_
      refine vp_callSi (W.runS (As := [.int (nI (S f))]) (rest := []) ⟨hx, hb, hml, hown, hts⟩ (c_S_routeIn l X (nI (S f))) (va_cwS 1 hts (gT (wd_2 5 rfl rfl) (wd_2 6 rfl rfl) (wd_1 8 rfl rfl) (wd_2 7 rfl rfl)) rfl rfl rfl hd_S_routeIn ⟨Nat.le_trans (m := 3) (Nat.le_of_ble_eq_true rfl) (Nat.le_add_right _ _), Nat.le_trans (m := 300) (Nat.le_of_ble_eq_true rfl) (Nat.le_add_right _ _)⟩) (vx_preS (P := fun _ => True) trivial hK) rfl rfl hl.1 rfl (lv_room (Nat.le_of_ble_eq_true rfl)) d_E_searchMoves_27 ⟨Nat.zero_le _, Nat.zero_le _⟩) (fun r27 e27 => ?_)
      subst e27
      rw [routeIn_nI _ (fit16 hfS hf5)]
      refine lv_istore (lv' := [(7, .int (nI (m_r (S f)))), (6, .int (nI (S f))), (5, .int (nI f)), (4, .int (nI q)), (2, .int (nI (enc S))), (3, .int (nI d)), (0, .ref (gA_ad G 2)), (1, .ref (gA_ad G 1))]) hx hb d_E_searchMoves_30 hl (by decide) rfl (fun ls hl => ?_)
      refine lv_iload hx hb d_E_searchMoves_32 (lv_at hl 1 rfl) ?_
      refine vp_callSi (W.runS (As := [.int (nI (S f))]) (rest := []) ⟨hx, hb, hml, hown, hts⟩ (c_S_stageIn l X (nI (S f))) (va_cwS 1 hts (gT (wd_2 8 rfl rfl) (wd_2 9 rfl rfl) (wd_1 8 rfl rfl) (wd_2 10 rfl rfl)) rfl rfl rfl hd_S_stageIn ⟨Nat.le_trans (m := 3) (Nat.le_of_ble_eq_true rfl) (Nat.le_add_right _ _), Nat.le_trans (m := 300) (Nat.le_of_ble_eq_true rfl) (Nat.le_add_right _ _)⟩) (vx_preS (P := fun _ => True) trivial hK) rfl rfl hl.1 rfl (lv_room (Nat.le_of_ble_eq_true rfl)) d_E_searchMoves_34 ⟨Nat.zero_le _, Nat.zero_le _⟩) (fun r34 e34 => ?_)
      subst e34
      rw [stageIn_nI _ (fit16 hfS hf5)]
      refine lv_istore (lv' := [(8, .int (nI (m_s (S f)))), (7, .int (nI (m_r (S f)))), (6, .int (nI (S f))), (5, .int (nI f)), (4, .int (nI q)), (2, .int (nI (enc S))), (3, .int (nI d)), (0, .ref (gA_ad G 2)), (1, .ref (gA_ad G 1))]) hx hb d_E_searchMoves_37 hl (by decide) rfl (fun ls hl => ?_)
      refine lv_iload hx hb d_E_searchMoves_39 (lv_at hl 2 rfl) ?_
      refine lv_if_eq (tgt := 95) hx hb d_E_searchMoves_41 rfl (fun h41 => ?_) (fun h41 => ?_)
      ·
        refine lv_iinc (k := 3) (v := (nI f + 1)) (lv' := [(5, .int (nI f + 1)), (8, .int (nI (m_s (S f)))), (7, .int (nI (m_r (S f)))), (6, .int (nI (S f))), (4, .int (nI q)), (2, .int (nI (enc S))), (3, .int (nI d)), (0, .ref (gA_ad G 2)), (1, .ref (gA_ad G 1))]) hx hb d_E_searchMoves_95 hl rfl rfl (by decide) rfl (fun ls hl => ?_)
        refine lv_goto (tgt := 11) hx hb d_E_searchMoves_98 rfl ?_
        exact ihr (f + 1) kn ps H locs ls (by omega) (tri_p htr (no_ok1 h41 hfS hf5)) hm hP hD hS (by rw [← nI_1]; exact lv_sub hl [0, 4, 5, 6, 7, 8] rfl)
      ·
        refine lv_iload_n hx hb d_E_searchMoves_44 rfl (lv_at hl 5 rfl) ?_
        refine lv_iload hx hb d_E_searchMoves_45 (lv_at hl 3 rfl) ?_
        refine lv_iload hx hb d_E_searchMoves_47 (lv_at hl 4 rfl) ?_
        refine vp_callSi (W.runS (As := [.int (nI (enc S)), .int (nI f), .int (nI q)]) (rest := []) ⟨hx, hb, hml, hown, hts⟩ (c_S_isFree l X (nI (enc S)) (nI f) (nI q)) (va_cwS 3 hts (gT (wd_2 11 rfl rfl) (wd_2 12 rfl rfl) (wd_1 8 rfl rfl) (wd_2 13 rfl rfl)) rfl rfl rfl hd_S_isFree ⟨Nat.le_trans (m := 3) (Nat.le_of_ble_eq_true rfl) (Nat.le_add_right _ _), Nat.le_trans (m := 300) (Nat.le_of_ble_eq_true rfl) (Nat.le_add_right _ _)⟩) (vx_preS (P := fun _ => True) trivial hK) rfl rfl hl.1 rfl (lv_room (Nat.le_of_ble_eq_true rfl)) d_E_searchMoves_49 ⟨Nat.zero_le _, Nat.zero_le _⟩) (fun r49 e49 => ?_)
        subst e49
        rw [isFree_nI hfS hf5 hq]
        refine lv_if_eq (tgt := 95) hx hb d_E_searchMoves_52 rfl (fun h52 => ?_) (fun h52 => ?_)
        ·
          have h52 := b2i_f h52
          refine lv_iinc (k := 3) (v := (nI f + 1)) (lv' := [(5, .int (nI f + 1)), (8, .int (nI (m_s (S f)))), (7, .int (nI (m_r (S f)))), (6, .int (nI (S f))), (4, .int (nI q)), (2, .int (nI (enc S))), (3, .int (nI d)), (0, .ref (gA_ad G 2)), (1, .ref (gA_ad G 1))]) hx hb d_E_searchMoves_95 hl rfl rfl (by decide) rfl (fun ls hl => ?_)
          refine lv_goto (tgt := 11) hx hb d_E_searchMoves_98 rfl ?_
          exact ihr (f + 1) kn ps H locs ls (by omega) (tri_p htr (no_ok2 h52)) hm hP hD hS (by rw [← nI_1]; exact lv_sub hl [0, 4, 5, 6, 7, 8] rfl)
        ·
          have h52 := b2i_t h52
          refine lv_aload_n hx hb d_E_searchMoves_55 rfl (lv_at hl 8 rfl) ?_
          refine lv_iload hx hb d_E_searchMoves_56 (lv_at hl 1 rfl) ?_
          refine lv_iload hx hb d_E_searchMoves_58 (lv_at hl 0 rfl) ?_
          refine lv_iload hx hb d_E_searchMoves_60 (lv_at hl 3 rfl) ?_
          refine lv_iload hx hb d_E_searchMoves_62 (lv_at hl 4 rfl) ?_
          refine vp_callSi (W.runV (As := [.int (nI (m_r (S f))), .int (nI (m_s (S f))), .int (nI f), .int (nI q)]) (rest := []) ⟨hx, hb, hml, hown, hts⟩ (c_Y_leads l X (gU_ps (gU_kn G kn) ps) A (nI (m_r (S f))) (nI (m_s (S f))) (nI f) (nI q) hR) (cwV 4 hts (gV (wd_2 14 rfl rfl) (wd_1 185 rfl rfl) (wd_1 186 rfl rfl) (wd_1 2 rfl rfl) (wd_1 187 rfl rfl)) rfl rfl rfl ⟨rfl, hd_Y_leads⟩ ⟨Nat.le_trans (m := 3) (Nat.le_of_ble_eq_true rfl) (Nat.le_add_right _ _), Nat.le_trans (m := 300) (Nat.le_of_ble_eq_true rfl) (Nat.le_add_right _ _)⟩) (vx_preV (P := PR X (gU_ps (gU_kn G kn) ps) A) hP hK (va_recv hK.1 hP (ci := 1) rfl cw_1)) rfl rfl hl.1 rfl (lv_room (Nat.le_of_ble_eq_true rfl)) d_E_searchMoves_64 ⟨Nat.zero_le _, Nat.zero_le _⟩) (fun r64 e64 => ?_)
          subst e64
          rw [leads_nI hR (show m_r (S f) < 2 by simp only [m_r]; omega) (show m_s (S f) < 4 by simp only [m_s]; omega) (by omega) hq]
          refine lv_if_eq (tgt := 95) hx hb d_E_searchMoves_67 rfl (fun h67 => ?_) (fun h67 => ?_)
          ·
            have h67 := b2i_f h67
            refine lv_iinc (k := 3) (v := (nI f + 1)) (lv' := [(5, .int (nI f + 1)), (8, .int (nI (m_s (S f)))), (7, .int (nI (m_r (S f)))), (6, .int (nI (S f))), (4, .int (nI q)), (2, .int (nI (enc S))), (3, .int (nI d)), (0, .ref (gA_ad G 2)), (1, .ref (gA_ad G 1))]) hx hb d_E_searchMoves_95 hl rfl rfl (by decide) rfl (fun ls hl => ?_)
            refine lv_goto (tgt := 11) hx hb d_E_searchMoves_98 rfl ?_
            exact ihr (f + 1) kn ps H locs ls (by omega) (tri_p htr (no_ok3 h67)) hm hP hD hS (by rw [← nI_1]; exact lv_sub hl [0, 4, 5, 6, 7, 8] rfl)
          ·
            have h67 := b2i_t h67
            refine lv_aload_n hx hb d_E_searchMoves_70 rfl (lv_at hl 7 rfl) ?_
            refine lv_aload_n hx hb d_E_searchMoves_71 rfl (lv_at hl 8 rfl) ?_
            refine lv_iload_n hx hb d_E_searchMoves_72 rfl (lv_at hl 5 rfl) ?_
            refine lv_iload hx hb d_E_searchMoves_73 (lv_at hl 1 rfl) ?_
            refine lv_iload hx hb d_E_searchMoves_75 (lv_at hl 0 rfl) ?_
            refine lv_iload hx hb d_E_searchMoves_77 (lv_at hl 3 rfl) ?_
            refine lv_iload hx hb d_E_searchMoves_79 (lv_at hl 4 rfl) ?_
            refine vp_callSi (W.runS (As := [.int (nI (enc S)), .int (nI (m_r (S f))), .int (nI (m_s (S f))), .int (nI f), .int (nI q)]) (rest := [.ref (gA_ad G 1), .ref (gA_ad G 2)]) ⟨hx, hb, hml, hown, hts⟩ (c_S_after l X (nI (enc S)) (nI (m_r (S f))) (nI (m_s (S f))) (nI f) (nI q)) (va_cwS 5 hts (gT (wd_2 15 rfl rfl) (wd_1 230 rfl rfl) (wd_1 8 rfl rfl) (wd_1 231 rfl rfl)) rfl rfl rfl hd_S_after ⟨Nat.le_trans (m := 3) (Nat.le_of_ble_eq_true rfl) (Nat.le_add_right _ _), Nat.le_trans (m := 300) (Nat.le_of_ble_eq_true rfl) (Nat.le_add_right _ _)⟩) (vx_preS (P := fun _ => True) trivial hK) rfl rfl hl.1 rfl (lv_room (Nat.le_of_ble_eq_true rfl)) d_E_searchMoves_81 ⟨Nat.zero_le _, Nat.zero_le _⟩) (fun r81 e81 => ?_)
            subst e81
            rw [aft_nI hR hfS hf5 hq h52 h67]
            refine lv_iload_n hx hb d_E_searchMoves_84 rfl (lv_at hl 6 rfl) ?_
            refine lv_iconst (v := 1) hx hb d_E_searchMoves_85 rfl ?_
            refine lv_iadd hx hb d_E_searchMoves_86 ?_
            rw [nI_1]
            have hok : okN (envA A) S f q = true := ok_of h41 h52 h67
            have hph := phi_aft (env_ok hR) hf5 hq hok
            obtain ⟨n, rfl⟩ : ∃ n, nn = n + 1 := ⟨nn - 1, by omega⟩
            refine va_calli (va_runV (As := [.ref (gA_ad G 1), .int (nI (enc (aft S f q))), .int (nI (d + 1))]) (rest := []) ⟨hx, hb, hml, hown, hts⟩ (ih n (by omega) (gU_ps (gU_kn G kn) ps) A Af (aft S f q) (d + 1) hR hm (fit_aft (env_ok hR) hfS (by omega) (by omega) hok) (by omega) (by omega)) (cwV 3 hts (gV (wd_2 16 rfl rfl) (wd_1 238 rfl rfl) (wd_s 5 rfl) (wd_1 4 rfl rfl) (wd_1 239 rfl rfl)) rfl rfl rfl ⟨rfl, hd_E_search⟩ ⟨by show 4 + 2 * n + 1 ≤ 3 + 2 * (n + 1); omega, by show 8 + (8 + 11) + (328 + 55 * n) ≤ 300 + 55 * (n + 1); omega⟩) (vx_preV (P := PW X Af (gU_ps (gU_kn G kn) ps) A) ⟨hP, hD⟩ hK (va_recv hK.1 hP (ci := 2) rfl cw_2)) rfl rfl hl.1 rfl (lv_room (Nat.le_of_ble_eq_true rfl)) d_E_searchMoves_87 ⟨Nat.zero_le _, Nat.zero_le _⟩) hS (fun q _ h => h) (fun q h => h) (fun r87 u87 t87 H locs ht hvm hu87 hB hz hk hS => ?_)
            obtain ⟨hP, hD⟩ := hB
            rw [ht] at hP
            obtain ⟨e87, kn87, ps87, hm87, hz87, hu87⟩ := hu87
            subst e87
            subst hu87
            have hP : va_P X.1 classes (cw X (gU_ps (gU_kn G kn87) ps87) A) H := hP
            have hD : va_D Af (cw X (gU_ps (gU_kn G kn87) ps87) A) := hD
            refine lv_if_eq (tgt := 95) hx hb d_E_searchMoves_90 rfl (fun h90 => ?_) (fun h90 => ?_)
            ·
              have h90 := b2i_f h90
              refine lv_iinc (k := 3) (v := (nI f + 1)) (lv' := [(5, .int (nI f + 1)), (8, .int (nI (m_s (S f)))), (7, .int (nI (m_r (S f)))), (6, .int (nI (S f))), (4, .int (nI q)), (2, .int (nI (enc S))), (3, .int (nI d)), (0, .ref (gA_ad G 2)), (1, .ref (gA_ad G 1))]) hx hb d_E_searchMoves_95 hl rfl rfl (by decide) rfl (fun ls hl => ?_)
              refine lv_goto (tgt := 11) hx hb d_E_searchMoves_98 rfl ?_
              exact ihr (f + 1) kn87 ps87 H locs ls (by omega) (tri_p htr (fun z => absurd z.2 (nt_of h90))) hm87 hP hD hS (by rw [← nI_1]; exact lv_sub hl [0, 4, 5, 6, 7, 8] rfl)
            ·
              have h90 := b2i_t h90
              refine lv_iconst (v := 1) hx hb d_E_searchMoves_93 rfl ?_
              exact kontT kn87 ps87 H locs ls (mvE_iff.mpr ⟨f, hf5, q, hq, hok, h90⟩) hm87 hP hD hS
set_option maxRecDepth 20000 in
set_option maxHeartbeats 4000000 in
theorem lp_E_outer {p : Program} {l : Launch} {e : Env} {s : State} {m : MethodId} {args : Array Value} {below : List Frame} {meth : Method} {c : Code} {Q : State → Prop} {X : Xt} {G : Gc} {A : St} {Af : Nat → Prop} {S : Nat → Nat} {d nn : Nat} (hx : p.tables.exec = Jvm.exec) (hb : c.code = b_E_searchMoves) (hts : ∀ w ∈ Cond.code y_E_searchMoves b_E_searchMoves 9 (some .boolean) :: WA, w.before args s = true) (hown : s.vm.findClass R_Emptying = some m.cls) (hml : c.maxLocals = 9) (hK : KK X s) (hR : rOk A) (hfS : fitS S) (hd : phi S + d ≤ 34) (hnn : phi S ≤ nn) (ih : ∀ k, k < nn → CS l X k) (kontT : ∀ (kn ps : Nat → Int64) (H : Heap) (locs : List Loc) (ls : Array Slot), mvE (envA A) S = true → MI (envA A) kn ps → va_P X.1 classes (cw X (gU_ps (gU_kn G kn) ps) A) H → va_D Af (cw X (gU_ps (gU_kn G kn) ps) A) → va_S Af s.heap H locs → W p l e (rmM nn) s m args below meth c H locs 0 0 Q (F0 m 94 ls [.int 1]))
    (kont : ∀ (kn ps : Nat → Int64) (H : Heap) (locs : List Loc) (ls : Array Slot), mvE (envA A) S = false → MI (envA A) kn ps → va_P X.1 classes (cw X (gU_ps (gU_kn G kn) ps) A) H → va_D Af (cw X (gU_ps (gU_kn G kn) ps) A) → va_S Af s.heap H locs → W p l e (rmM nn) s m args below meth c H locs 0 0 Q (F0 m 107 ls [])) :
    ∀ (q : Nat) (kn ps : Nat → Int64) (H : Heap) (locs : List Loc) (ls : Array Slot), q < 6 → triQ (envA A) S q → MI (envA A) kn ps → va_P X.1 classes (cw X (gU_ps (gU_kn G kn) ps) A) H → va_D Af (cw X (gU_ps (gU_kn G kn) ps) A) → va_S Af s.heap H locs → lv_has ls 9 [(4, .int (nI q)), (2, .int (nI (enc S))), (3, .int (nI d)), (0, .ref (gA_ad G 2)), (1, .ref (gA_ad G 1))] → W p l e (rmM nn) s m args below meth c H locs 0 0 Q (F0 m 3 ls []) := by
  intro q
  induction q with
  | zero =>
    intro kn ps H locs ls hq htq hm hP hD hS hl
    refine lv_iload hx hb d_E_searchMoves_3 (lv_at hl 0 rfl) ?_
    refine lv_if_lt (tgt := 107) hx hb d_E_searchMoves_5 rfl (fun h5 => ?_) (fun h5 => ?_)
    ·
      exact absurd h5 (by decide)
    ·
      refine lv_iconst (v := 0) hx hb d_E_searchMoves_8 rfl ?_
      refine lv_istore (lv' := [(5, .int 0), (4, .int (nI 0)), (2, .int (nI (enc S))), (3, .int (nI d)), (0, .ref (gA_ad G 2)), (1, .ref (gA_ad G 1))]) hx hb d_E_searchMoves_9 hl (by decide) rfl (fun ls hl => ?_)
      refine lp_E_inner (G := G) (q := 0) hx hb hts hown hml hK hR hfS hd hnn ih (by omega) kontT (fun kn ps H locs ls htp hm hP hD hS hl => ?_) 5 0 kn ps H locs ls (by omega) (fun z hz => by omega) hm hP hD hS (lv_sub hl [0, 1, 2, 3, 4, 5] rfl)
      refine lv_iinc (k := 0) (v := (nI (0) + (-1))) (lv' := [(4, .int (nI (0) + (-1))), (2, .int (nI (enc S))), (3, .int (nI d)), (0, .ref (gA_ad G 2)), (1, .ref (gA_ad G 1))]) hx hb d_E_searchMoves_101 hl rfl rfl (by decide) rfl (fun ls hl => ?_)
      refine lv_goto (tgt := 3) hx hb d_E_searchMoves_104 rfl ?_
      refine lv_iload hx hb d_E_searchMoves_3 (lv_at hl 0 rfl) ?_
      refine lv_if_lt (tgt := 107) hx hb d_E_searchMoves_5 rfl (fun h5 => ?_) (fun h5 => absurd (by decide) h5)
      exact kont kn ps H locs ls (tri_end htq htp) hm hP hD hS
  | succ q ihq =>
    intro kn ps H locs ls hq htq hm hP hD hS hl
    refine lv_iload hx hb d_E_searchMoves_3 (lv_at hl 0 rfl) ?_
    refine lv_if_lt (tgt := 107) hx hb d_E_searchMoves_5 rfl (fun h5 => ?_) (fun h5 => ?_)
    ·
      exact absurd h5 (nI_pos (by omega))
    ·
      refine lv_iconst (v := 0) hx hb d_E_searchMoves_8 rfl ?_
      refine lv_istore (lv' := [(5, .int 0), (4, .int (nI (q + 1))), (2, .int (nI (enc S))), (3, .int (nI d)), (0, .ref (gA_ad G 2)), (1, .ref (gA_ad G 1))]) hx hb d_E_searchMoves_9 hl (by decide) rfl (fun ls hl => ?_)
      refine lp_E_inner (G := G) (q := q + 1) hx hb hts hown hml hK hR hfS hd hnn ih (by omega) kontT (fun kn ps H locs ls htp hm hP hD hS hl => ?_) 5 0 kn ps H locs ls (by omega) (fun z hz => by omega) hm hP hD hS (lv_sub hl [0, 1, 2, 3, 4, 5] rfl)
      refine lv_iinc (k := 0) (v := (nI (q + 1) + (-1))) (lv' := [(4, .int (nI (q + 1) + (-1))), (2, .int (nI (enc S))), (3, .int (nI d)), (0, .ref (gA_ad G 2)), (1, .ref (gA_ad G 1))]) hx hb d_E_searchMoves_101 hl rfl rfl (by decide) rfl (fun ls hl => ?_)
      refine lv_goto (tgt := 3) hx hb d_E_searchMoves_104 rfl ?_
      exact ihq kn ps H locs ls (by omega) (tri_next htq htp) hm hP hD hS (by rw [← pk_m1]; exact lv_sub hl [0, 1, 2, 3, 4] rfl)
set_option maxRecDepth 20000 in
set_option maxHeartbeats 4000000 in
theorem c_E_searchMoves_of (l : Launch) (X : Xt) (nn : Nat) (ih : ∀ k, k < nn → CS l X k) : CM l X nn := by
  intro G A Af S d hR hm hfS hnn hd
  refine vx_met (cc := b_E_searchMoves) (maxL := 9) (ret := (some .boolean)) (by decide) rfl (Nat.le_of_ble_eq_true rfl) ?_
  intro p e s m below meth c ls hx hb hrt hts hown hlocks hname hml hB hl
  obtain ⟨hP, hK⟩ := hB
  have hown : s.vm.findClass R_Emptying = some m.cls := hown
  have hl : lv_has ls 9 [(0, .ref (gA_ad G 2)), (1, .ref (gA_ad G 1)), (2, .int (nI (enc S))), (3, .int (nI d))] := hl
  have hD : va_D Af (cw X G A) := hP.2
  have hP : va_P X.1 classes (cw X G A) s.heap := hP.1
  have hS : va_S Af s.heap s.heap [] := va_S.rf
  refine lv_iconst (v := 5) hx hb d_E_searchMoves_0 rfl ?_
  refine lv_istore (lv' := [(4, .int 5), (0, .ref (gA_ad G 2)), (1, .ref (gA_ad G 1)), (2, .int (nI (enc S))), (3, .int (nI d))]) hx hb d_E_searchMoves_1 hl (by decide) rfl (fun ls hl => ?_)
  refine lp_E_outer (G := G) hx hb hts hown hml hK hR hfS hd hnn ih (fun kn ps H locs ls hmv hm hP hD hS => ?_) (fun kn ps H locs ls hmv hm hP hD hS => ?_) 5 (gA_kn G) (gA_ps G) _ _ ls (by omega) (fun q' h1 h2 => by omega) hm hP hD hS (lv_sub hl [0, 3, 4, 1, 2] rfl)
  · exact W.zret (v := b2i true) hx hb hrt (b2i_nar _) (fun t ht hW => ⟨⟨_, ((gU_ps (gU_kn G kn) ps), A), rfl, ⟨by rw [hmv], kn, ps, hm, rfl⟩, ⟨by rw [ht]; exact hP, hD⟩⟩, hS.F ht⟩) hS.2.2 d_E_searchMoves_94
  · refine lv_iconst (v := 0) hx hb d_E_searchMoves_107 rfl ?_
    exact W.zret (v := b2i false) hx hb hrt (b2i_nar _) (fun t ht hW => ⟨⟨_, ((gU_ps (gU_kn G kn) ps), A), rfl, ⟨by rw [hmv], kn, ps, hm, rfl⟩, ⟨by rw [ht]; exact hP, hD⟩⟩, hS.F ht⟩) hS.2.2 d_E_searchMoves_108
set_option maxRecDepth 20000 in
set_option maxHeartbeats 4000000 in
theorem c_E_search_of (l : Launch) (X : Xt) (nn : Nat) (hM : CM l X nn) : CS l X nn := by
  intro G A Af S d hR hm hfS hnn hd
  refine vx_met (cc := b_E_search) (maxL := 8) (ret := (some .boolean)) (by decide) rfl (Nat.le_of_ble_eq_true rfl) ?_
  intro p e s m below meth c ls hx hb hrt hts hown hlocks hname hml hB hl
  obtain ⟨hP, hK⟩ := hB
  have hown : s.vm.findClass R_Emptying = some m.cls := hown
  have hl : lv_has ls 8 [(0, .ref (gA_ad G 2)), (1, .ref (gA_ad G 1)), (2, .int (nI (enc S))), (3, .int (nI d))] := hl
  have hD : va_D Af (cw X G A) := hP.2
  have hP : va_P X.1 classes (cw X G A) s.heap := hP.1
  have hS : va_S Af s.heap s.heap [] := va_S.rf
  have hlt := enc_lt hfS
  refine lv_iload_n hx hb d_E_search_0 rfl (lv_at hl 2 rfl) ?_
  refine lv_if_ne (tgt := 6) hx hb d_E_search_1 rfl (fun h1 => ?_) (fun h1 => ?_)
  ·
    refine lv_iload_n hx hb d_E_search_6 rfl (lv_at hl 3 rfl) ?_
    refine lv_bipush (v := 35) hx hb d_E_search_7 rfl ?_
    refine lv_icmp_lt (tgt := 14) hx hb d_E_search_9 rfl (fun h9 => ?_) (fun h9 => ?_)
    ·
      refine lv_iload_n hx hb d_E_search_14 rfl (lv_at hl 2 rfl) ?_
      refine lv_bipush (v := 6) hx hb d_E_search_15 rfl ?_
      refine lv_ishr hx hb d_E_search_17 ?_
      refine lv_sipush (v := 1023) hx hb d_E_search_18 rfl ?_
      refine lv_iand hx hb d_E_search_21 ?_
      rw [row_ix hlt]
      refine lv_istore (lv' := [(4, .int (nI (enc S / 64))), (0, .ref (gA_ad G 2)), (1, .ref (gA_ad G 1)), (2, .int (nI (enc S))), (3, .int (nI d))]) hx hb d_E_search_22 hl (by decide) rfl (fun ls hl => ?_)
      refine lv_lconst (v := 1) hx hb d_E_search_24 rfl ?_
      refine lv_iload_n hx hb d_E_search_25 rfl (lv_at hl 3 rfl) ?_
      refine lv_bipush (v := 63) hx hb d_E_search_26 rfl ?_
      refine lv_iand hx hb d_E_search_28 ?_
      rw [bit_ix hlt]
      refine lv_lshl hx hb d_E_search_29 rfl ?_
      refine lv_lstore (lv' := [(5, .long (bitL (enc S % 64))), (4, .int (nI (enc S / 64))), (0, .ref (gA_ad G 2)), (1, .ref (gA_ad G 1)), (2, .int (nI (enc S))), (3, .int (nI d))]) hx hb d_E_search_30 hl (by decide) rfl (fun ls hl => ?_)
      refine lv_aload_n hx hb d_E_search_32 rfl (lv_at hl 2 rfl) ?_
      refine va_get (D := X.1) (ci := 2) (C := R_Emptying) (T := F_Emptying) (N := 2) hx hb hts hin_Emptying hown hK.1 hP 2 cw_2 rfl 0 (by decide) (hts _ (wd_1 60 rfl rfl)) (fun _ h9 => h9) rfl d_E_search_33 ?_
      refine lv_iload hx hb d_E_search_36 (lv_at hl 1 rfl) ?_
      refine va_lald hx hb hK.1 hP 16 1 cw_16 rfl (vp_in_nI (n := enc S / 64) (by omega) (by omega)) d_E_search_38 ?_
      rw [nI_clamp (n := enc S / 64) (by omega)]
      refine lv_lload hx hb d_E_search_39 (lv_at hl 0 rfl) ?_
      refine lv_land hx hb d_E_search_41 ?_
      refine lv_lconst (v := 0) hx hb d_E_search_42 rfl ?_
      refine W.lcmp hx hb d_E_search_43 ?_
      refine lv_if_ne (tgt := 89) hx hb d_E_search_44 rfl (fun h44 => ?_) (fun h44 => ?_)
      ·
        refine lv_aload_n hx hb d_E_search_89 rfl (lv_at hl 2 rfl) ?_
        refine va_get (D := X.1) (ci := 2) (C := R_Emptying) (T := F_Emptying) (N := 2) hx hb hts hin_Emptying hown hK.1 hP 2 cw_2 rfl 1 (by decide) (hts _ (wd_1 61 rfl rfl)) (fun _ h9 => h9) rfl d_E_search_90 ?_
        refine lv_iload hx hb d_E_search_93 (lv_at hl 1 rfl) ?_
        refine va_lald hx hb hK.1 hP 17 1 cw_17 rfl (vp_in_nI (n := enc S / 64) (by omega) (by omega)) d_E_search_95 ?_
        rw [nI_clamp (n := enc S / 64) (by omega)]
        refine lv_lload hx hb d_E_search_96 (lv_at hl 0 rfl) ?_
        refine lv_land hx hb d_E_search_98 ?_
        refine lv_lconst (v := 0) hx hb d_E_search_99 rfl ?_
        refine W.lcmp hx hb d_E_search_100 ?_
        refine lv_if_eq (tgt := 108) hx hb d_E_search_101 rfl (fun h101 => ?_) (fun h101 => ?_)
        ·
          refine lv_iconst (v := 0) hx hb d_E_search_108 rfl ?_
          exact W.zret (v := b2i false) hx hb hrt (b2i_nar _) (fun t ht hW => ⟨⟨_, ((gU_ps (gU_kn G (gA_kn G)) (gA_ps G)), A), rfl, ⟨ans_f hfS hm (kb_1 h44) h101, (gA_kn G), (gA_ps G), hm, (fun _ => ⟨rfl, rfl⟩), rfl⟩, ⟨by rw [ht]; exact hP, hD⟩⟩, hS.F ht⟩) hS.2.2 d_E_search_109
        ·
          refine lv_iconst (v := 1) hx hb d_E_search_104 rfl ?_
          refine lv_goto (tgt := 109) hx hb d_E_search_105 rfl ?_
          exact W.zret (v := b2i true) hx hb hrt (b2i_nar _) (fun t ht hW => ⟨⟨_, ((gU_ps (gU_kn G (gA_kn G)) (gA_ps G)), A), rfl, ⟨ans_t hfS hm (kb_1 h44) h101, (gA_kn G), (gA_ps G), hm, (fun _ => ⟨rfl, rfl⟩), rfl⟩, ⟨by rw [ht]; exact hP, hD⟩⟩, hS.F ht⟩) hS.2.2 d_E_search_109
      ·
        refine lv_aload_n hx hb d_E_search_47 rfl (lv_at hl 2 rfl) ?_
        refine lv_aload_n hx hb d_E_search_48 rfl (lv_at hl 3 rfl) ?_
        refine lv_iload_n hx hb d_E_search_49 rfl (lv_at hl 4 rfl) ?_
        refine lv_iload_n hx hb d_E_search_50 rfl (lv_at hl 5 rfl) ?_
        refine va_calli (va_runV (As := [.ref (gA_ad G 1), .int (nI (enc S)), .int (nI d)]) (rest := []) ⟨hx, hb, hml, hown, hts⟩ (hM G A Af S d hR hm hfS hnn hd) (cwV 3 hts (gV (wd_2 0 rfl rfl) (wd_2 2 rfl rfl) (wd_s 6 rfl) (wd_1 4 rfl rfl) (wd_2 3 rfl rfl)) rfl rfl rfl ⟨rfl, hd_E_searchMoves⟩ ⟨by show 3 + 2 * nn + 1 ≤ 4 + 2 * nn; omega, by show 8 + (9 + 11) + (300 + 55 * nn) ≤ 328 + 55 * nn; omega⟩) (vx_preV (P := PW X Af G A) ⟨hP, hD⟩ hK (va_recv hK.1 hP (ci := 2) rfl cw_2)) rfl rfl hl.1 rfl (lv_room (Nat.le_of_ble_eq_true rfl)) d_E_search_51 ⟨Nat.zero_le _, Nat.zero_le _⟩) hS (fun q _ h => h) (fun q h => h) (fun r51 u51 t51 H locs ht hvm hu51 hB hz hk hS => ?_)
        obtain ⟨hP, hD⟩ := hB
        rw [ht] at hP
        obtain ⟨e51, kn51, ps51, hm51, hu51⟩ := hu51
        subst e51
        subst hu51
        have hP : va_P X.1 classes (cw X (gU_ps (gU_kn G kn51) ps51) A) H := hP
        have hD : va_D Af (cw X (gU_ps (gU_kn G kn51) ps51) A) := hD
        refine lv_istore (lv' := [(7, .int (b2i (mvE (envA A) (S)))), (5, .long (bitL (enc S % 64))), (4, .int (nI (enc S / 64))), (0, .ref (gA_ad G 2)), (1, .ref (gA_ad G 1)), (2, .int (nI (enc S))), (3, .int (nI d))]) hx hb d_E_search_54 hl (by decide) rfl (fun ls hl => ?_)
        refine lv_aload_n hx hb d_E_search_56 rfl (lv_at hl 3 rfl) ?_
        refine va_get (D := X.1) (ci := 2) (C := R_Emptying) (T := F_Emptying) (N := 2) hx hb hts hin_Emptying hown hK.1 hP 2 cw_2 rfl 0 (by decide) (hts _ (wd_1 60 rfl rfl)) (fun _ h9 => h9) rfl d_E_search_57 ?_
        refine lv_iload hx hb d_E_search_60 (lv_at hl 2 rfl) ?_
        refine lv_dup2_11 hx hb d_E_search_62 rfl rfl ?_
        refine va_lald hx hb hK.1 hP 16 1 cw_16 rfl (vp_in_nI (n := enc S / 64) (by omega) (by omega)) d_E_search_63 ?_
        rw [nI_clamp (n := enc S / 64) (by omega)]
        refine lv_lload hx hb d_E_search_64 (lv_at hl 1 rfl) ?_
        refine lv_lor hx hb d_E_search_66 ?_
        refine va_last hx hb hK.1 hP hD hS 16 1 cw_16 rfl (vp_in_nI (n := enc S / 64) (by omega) (by omega)) d_E_search_67 (fun H locs hP hD hS => ?_)
        rw [nI_clamp (n := enc S / 64) (by omega)] at hP hD
        replace hP := vx_P (cw_s_kn (X := X) (G := (gU_ps (gU_kn G kn51) ps51)) (A := A) (k := enc S / 64) (v := ((kn51 (enc S / 64)) ||| (bitL (enc S % 64))))) hP
        replace hD := vx_D (cw_s_kn (X := X) (G := (gU_ps (gU_kn G kn51) ps51)) (A := A) (k := enc S / 64) (v := ((kn51 (enc S / 64)) ||| (bitL (enc S % 64))))) hD
        refine lv_aload_n hx hb d_E_search_68 rfl (lv_at hl 3 rfl) ?_
        refine va_get (D := X.1) (ci := 2) (C := R_Emptying) (T := F_Emptying) (N := 2) hx hb hts hin_Emptying hown hK.1 hP 2 cw_2 rfl 1 (by decide) (hts _ (wd_1 61 rfl rfl)) (fun _ h9 => h9) rfl d_E_search_69 ?_
        refine lv_iload hx hb d_E_search_72 (lv_at hl 2 rfl) ?_
        refine lv_dup2_11 hx hb d_E_search_74 rfl rfl ?_
        refine va_lald hx hb hK.1 hP 17 1 cw_17 rfl (vp_in_nI (n := enc S / 64) (by omega) (by omega)) d_E_search_75 ?_
        rw [nI_clamp (n := enc S / 64) (by omega)]
        refine lv_iload hx hb d_E_search_76 (lv_at hl 0 rfl) ?_
        refine lv_if_eq (tgt := 86) hx hb d_E_search_78 rfl (fun h78 => ?_) (fun h78 => ?_)
        ·
          have h78 := b2i_f h78
          refine lv_lconst (v := 0) hx hb d_E_search_86 rfl ?_
          refine lv_lor hx hb d_E_search_87 ?_
          refine va_last hx hb hK.1 hP hD hS 17 1 cw_17 rfl (vp_in_nI (n := enc S / 64) (by omega) (by omega)) d_E_search_88 (fun H locs hP hD hS => ?_)
          rw [nI_clamp (n := enc S / 64) (by omega)] at hP hD
          replace hP := vx_P (cw_s_ps (X := X) (G := (gU_kn (gU_ps (gU_kn G kn51) ps51) (vp_updL kn51 (enc S / 64) ((kn51 (enc S / 64)) ||| (bitL (enc S % 64)))))) (A := A) (k := enc S / 64) (v := ((ps51 (enc S / 64)) ||| 0))) hP
          replace hD := vx_D (cw_s_ps (X := X) (G := (gU_kn (gU_ps (gU_kn G kn51) ps51) (vp_updL kn51 (enc S / 64) ((kn51 (enc S / 64)) ||| (bitL (enc S % 64)))))) (A := A) (k := enc S / 64) (v := ((ps51 (enc S / 64)) ||| 0))) hD
          have hz : ¬ isZ S = true := fun z => h1 (by rw [enc_0.mpr z]; rfl)
          have hcan : false = canE (envA A) (dig (enc S)) := by rw [dig_enc hfS, canE_mv (env_ok hR) (by omega), h78]; simp [hz]
          have hm2 := MI_add2 (c := enc S) hm51 false hcan
          simp only [if_true, Bool.false_eq_true, if_false] at hm2
          refine lv_aload_n hx hb d_E_search_89 rfl (lv_at hl 3 rfl) ?_
          refine va_get (D := X.1) (ci := 2) (C := R_Emptying) (T := F_Emptying) (N := 2) hx hb hts hin_Emptying hown hK.1 hP 2 cw_2 rfl 1 (by decide) (hts _ (wd_1 61 rfl rfl)) (fun _ h9 => h9) rfl d_E_search_90 ?_
          refine lv_iload hx hb d_E_search_93 (lv_at hl 2 rfl) ?_
          refine va_lald hx hb hK.1 hP 17 1 cw_17 rfl (vp_in_nI (n := enc S / 64) (by omega) (by omega)) d_E_search_95 ?_
          rw [nI_clamp (n := enc S / 64) (by omega)]
          refine lv_lload hx hb d_E_search_96 (lv_at hl 1 rfl) ?_
          refine lv_land hx hb d_E_search_98 ?_
          refine lv_lconst (v := 0) hx hb d_E_search_99 rfl ?_
          refine W.lcmp hx hb d_E_search_100 ?_
          refine lv_if_eq (tgt := 108) hx hb d_E_search_101 rfl (fun h101 => ?_) (fun h101 => ?_)
          ·
            refine lv_iconst (v := 0) hx hb d_E_search_108 rfl ?_
            exact W.zret (v := b2i false) hx hb hrt (b2i_nar _) (fun t ht hW => ⟨⟨_, ((gU_ps (gU_kn G (vp_updL kn51 (enc S / 64) (kn51 (enc S / 64) ||| bitL (enc S % 64)))) (vp_updL ps51 (enc S / 64) (ps51 (enc S / 64) ||| 0))), A), rfl, ⟨ans_f hfS hm2 kb_set h101, (vp_updL kn51 (enc S / 64) (kn51 (enc S / 64) ||| bitL (enc S % 64))), (vp_updL ps51 (enc S / 64) (ps51 (enc S / 64) ||| 0)), hm2, (fun z => absurd z hz), rfl⟩, ⟨by rw [ht]; exact hP, hD⟩⟩, hS.F ht⟩) hS.2.2 d_E_search_109
          ·
            refine lv_iconst (v := 1) hx hb d_E_search_104 rfl ?_
            refine lv_goto (tgt := 109) hx hb d_E_search_105 rfl ?_
            exact W.zret (v := b2i true) hx hb hrt (b2i_nar _) (fun t ht hW => ⟨⟨_, ((gU_ps (gU_kn G (vp_updL kn51 (enc S / 64) (kn51 (enc S / 64) ||| bitL (enc S % 64)))) (vp_updL ps51 (enc S / 64) (ps51 (enc S / 64) ||| 0))), A), rfl, ⟨ans_t hfS hm2 kb_set h101, (vp_updL kn51 (enc S / 64) (kn51 (enc S / 64) ||| bitL (enc S % 64))), (vp_updL ps51 (enc S / 64) (ps51 (enc S / 64) ||| 0)), hm2, (fun z => absurd z hz), rfl⟩, ⟨by rw [ht]; exact hP, hD⟩⟩, hS.F ht⟩) hS.2.2 d_E_search_109
        ·
          have h78 := b2i_t h78
          refine lv_lload hx hb d_E_search_81 (lv_at hl 1 rfl) ?_
          refine lv_goto (tgt := 87) hx hb d_E_search_83 rfl ?_
          refine lv_lor hx hb d_E_search_87 ?_
          refine va_last hx hb hK.1 hP hD hS 17 1 cw_17 rfl (vp_in_nI (n := enc S / 64) (by omega) (by omega)) d_E_search_88 (fun H locs hP hD hS => ?_)
          rw [nI_clamp (n := enc S / 64) (by omega)] at hP hD
          replace hP := vx_P (cw_s_ps (X := X) (G := (gU_kn (gU_ps (gU_kn G kn51) ps51) (vp_updL kn51 (enc S / 64) ((kn51 (enc S / 64)) ||| (bitL (enc S % 64)))))) (A := A) (k := enc S / 64) (v := ((ps51 (enc S / 64)) ||| (bitL (enc S % 64))))) hP
          replace hD := vx_D (cw_s_ps (X := X) (G := (gU_kn (gU_ps (gU_kn G kn51) ps51) (vp_updL kn51 (enc S / 64) ((kn51 (enc S / 64)) ||| (bitL (enc S % 64)))))) (A := A) (k := enc S / 64) (v := ((ps51 (enc S / 64)) ||| (bitL (enc S % 64))))) hD
          have hz : ¬ isZ S = true := fun z => h1 (by rw [enc_0.mpr z]; rfl)
          have hcan : true = canE (envA A) (dig (enc S)) := by rw [dig_enc hfS, canE_mv (env_ok hR) (by omega), h78]; simp [hz]
          have hm2 := MI_add2 (c := enc S) hm51 true hcan
          simp only [if_true, Bool.false_eq_true, if_false] at hm2
          refine lv_aload_n hx hb d_E_search_89 rfl (lv_at hl 3 rfl) ?_
          refine va_get (D := X.1) (ci := 2) (C := R_Emptying) (T := F_Emptying) (N := 2) hx hb hts hin_Emptying hown hK.1 hP 2 cw_2 rfl 1 (by decide) (hts _ (wd_1 61 rfl rfl)) (fun _ h9 => h9) rfl d_E_search_90 ?_
          refine lv_iload hx hb d_E_search_93 (lv_at hl 2 rfl) ?_
          refine va_lald hx hb hK.1 hP 17 1 cw_17 rfl (vp_in_nI (n := enc S / 64) (by omega) (by omega)) d_E_search_95 ?_
          rw [nI_clamp (n := enc S / 64) (by omega)]
          refine lv_lload hx hb d_E_search_96 (lv_at hl 1 rfl) ?_
          refine lv_land hx hb d_E_search_98 ?_
          refine lv_lconst (v := 0) hx hb d_E_search_99 rfl ?_
          refine W.lcmp hx hb d_E_search_100 ?_
          refine lv_if_eq (tgt := 108) hx hb d_E_search_101 rfl (fun h101 => ?_) (fun h101 => ?_)
          ·
            refine lv_iconst (v := 0) hx hb d_E_search_108 rfl ?_
            exact W.zret (v := b2i false) hx hb hrt (b2i_nar _) (fun t ht hW => ⟨⟨_, ((gU_ps (gU_kn G (vp_updL kn51 (enc S / 64) (kn51 (enc S / 64) ||| bitL (enc S % 64)))) (vp_updL ps51 (enc S / 64) (ps51 (enc S / 64) ||| bitL (enc S % 64)))), A), rfl, ⟨ans_f hfS hm2 kb_set h101, (vp_updL kn51 (enc S / 64) (kn51 (enc S / 64) ||| bitL (enc S % 64))), (vp_updL ps51 (enc S / 64) (ps51 (enc S / 64) ||| bitL (enc S % 64))), hm2, (fun z => absurd z hz), rfl⟩, ⟨by rw [ht]; exact hP, hD⟩⟩, hS.F ht⟩) hS.2.2 d_E_search_109
          ·
            refine lv_iconst (v := 1) hx hb d_E_search_104 rfl ?_
            refine lv_goto (tgt := 109) hx hb d_E_search_105 rfl ?_
            exact W.zret (v := b2i true) hx hb hrt (b2i_nar _) (fun t ht hW => ⟨⟨_, ((gU_ps (gU_kn G (vp_updL kn51 (enc S / 64) (kn51 (enc S / 64) ||| bitL (enc S % 64)))) (vp_updL ps51 (enc S / 64) (ps51 (enc S / 64) ||| bitL (enc S % 64)))), A), rfl, ⟨ans_t hfS hm2 kb_set h101, (vp_updL kn51 (enc S / 64) (kn51 (enc S / 64) ||| bitL (enc S % 64))), (vp_updL ps51 (enc S / 64) (ps51 (enc S / 64) ||| bitL (enc S % 64))), hm2, (fun z => absurd z hz), rfl⟩, ⟨by rw [ht]; exact hP, hD⟩⟩, hS.F ht⟩) hS.2.2 d_E_search_109
    ·
      exact absurd (nI_lt (a := d) (b := 35) (by omega) (by omega)) h9
  ·
    refine lv_iconst (v := 1) hx hb d_E_search_4 rfl ?_
    exact W.zret (v := b2i true) hx hb hrt (b2i_nar _) (fun t ht hW => ⟨⟨_, ((gU_ps (gU_kn G (gA_kn G)) (gA_ps G)), A), rfl, ⟨by rw [canE_mv (env_ok hR) (by omega), enc_0.mp ((nI_eq (b := 0) (by omega) (by omega)).mp h1)]; rfl, (gA_kn G), (gA_ps G), hm, (fun _ => ⟨rfl, rfl⟩), rfl⟩, ⟨by rw [ht]; exact hP, hD⟩⟩, hS.F ht⟩) hS.2.2 d_E_search_5
theorem c_E_all (l : Launch) (X : Xt) : ∀ n, CS l X n := by
  intro n
  induction n using Nat.strongRecOn with
  | _ n ih => exact c_E_search_of l X n (c_E_searchMoves_of l X n ih)
