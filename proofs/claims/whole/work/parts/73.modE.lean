abbrev rm_M_canBeEmptied : Room := { frames := 4, cells := 0, slots := 0, locals := 95 }
set_option maxRecDepth 20000 in
set_option maxHeartbeats 4000000 in
theorem lp_M_clear {p : Program} {l : Launch} {e : Env} {s : State} {m : MethodId} {args : Array Value} {below : List Frame} {meth : Method} {c : Code} {Q : State → Prop} {X : Xt} {G : Gr} {A : St} {Af : Nat → Prop} {a : Nat} (hx : p.tables.exec = Jvm.exec) (hb : c.code = b_M_canBeEmptied) (hts : ∀ w ∈ Cond.code y_M_canBeEmptied b_M_canBeEmptied 5 (some .boolean) :: WA, w.before args s = true) (hown : s.vm.findClass R_Model = some m.cls) (hml : c.maxLocals = 5) (hK : KK X s) (hR : rOk A) (hst : rA_st G = true)
    (kont : ∀ (kn : Nat → Int32) (H : Heap) (locs : List Loc) (ls : Array Slot), (∀ j, j < 3691 → kn j = 0) → va_P X.1 classes (rw_ X (rU_kn G kn) A) H → va_D Af (rw_ X (rU_kn G kn) A) → va_S Af s.heap H locs → lv_has ls 5 [(1, .int (nI a)), (0, .ref (rA_ad G 0))] → W p l e rm_M_canBeEmptied s m args below meth c H locs 0 0 Q (F0 m 29 ls [])) :
    ∀ (r k : Nat) (kn : Nat → Int32) (H : Heap) (locs : List Loc) (ls : Array Slot), k + r = 3691 → (∀ j, j < k → kn j = 0) → va_P X.1 classes (rw_ X (rU_kn G kn) A) H → va_D Af (rw_ X (rU_kn G kn) A) → va_S Af s.heap H locs → lv_has ls 5 [(2, .int (nI k)), (1, .int (nI a)), (0, .ref (rA_ad G 0))] → W p l e rm_M_canBeEmptied s m args below meth c H locs 0 0 Q (F0 m 2 ls []) := by
  intro r
  induction r with
  | zero =>
    intro k kn H locs ls hk0 hf hP hD hS hl
    have hk1 : k = 3691 := by omega
    subst hk1
    refine lv_iload_n hx hb d_M_canBeEmptied_2 rfl (lv_at hl 0 rfl) ?_
    refine lv_sipush (v := 3691) hx hb d_M_canBeEmptied_3 rfl ?_
    refine lv_icmp_ge (tgt := 29) hx hb d_M_canBeEmptied_6 rfl (fun h6 => ?_) (fun h6 => ?_)
    ·
      exact kont kn H locs ls hf hP hD hS (lv_sub hl [1, 2] rfl)
    ·
      exact absurd (by decide) h6
  | succ r ih =>
    intro k kn H locs ls hk0 hf hP hD hS hl
    refine lv_iload_n hx hb d_M_canBeEmptied_2 rfl (lv_at hl 0 rfl) ?_
    refine lv_sipush (v := 3691) hx hb d_M_canBeEmptied_3 rfl ?_
    refine lv_icmp_ge (tgt := 29) hx hb d_M_canBeEmptied_6 rfl (fun h6 => ?_) (fun h6 => ?_)
    ·
      exact absurd h6 (nI_ge (a := k) (b := 3691) (by omega) (by omega))
    ·
      refine lv_aload_n hx hb d_M_canBeEmptied_9 rfl (lv_at hl 2 rfl) ?_
      refine va_get (D := X.1) (ci := 6) (C := R_Model) (T := F_Model) (N := 24) hx hb hts hin_Model hown hK.1 hP 0 rw_0 rfl 21 (by decide) (hts _ (wd_2 175 rfl rfl)) (fun _ h9 => h9) rfl d_M_canBeEmptied_10 ?_
      refine lv_if_eq (tgt := 29) hx hb d_M_canBeEmptied_13 rfl (fun h13 => ?_) (fun h13 => ?_)
      ·
        have h13 := b2i_f h13
        exact absurd hst (nt_of h13)
      ·
        have h13 := b2i_t h13
        refine lv_aload_n hx hb d_M_canBeEmptied_16 rfl (lv_at hl 2 rfl) ?_
        refine va_get (D := X.1) (ci := 6) (C := R_Model) (T := F_Model) (N := 24) hx hb hts hin_Model hown hK.1 hP 0 rw_0 rfl 20 (by decide) (hts _ (wd_2 174 rfl rfl)) (fun _ h9 => h9) rfl d_M_canBeEmptied_17 ?_
        refine lv_iload_n hx hb d_M_canBeEmptied_20 rfl (lv_at hl 0 rfl) ?_
        refine lv_iconst (v := 0) hx hb d_M_canBeEmptied_21 rfl ?_
        refine va_iast hx hb hK.1 hP hD hS 15 0 rw_15 rfl (vp_in_nI (n := k) (by omega) (by omega)) d_M_canBeEmptied_22 (fun H locs hP hD hS => ?_)
        rw [nI_clamp (n := k) (by omega)] at hP hD
        replace hP := vx_P (rw_s_kn (X := X) (G := (rU_kn G kn)) (A := A) (k := k) (v := 0)) hP
        replace hD := vx_D (rw_s_kn (X := X) (G := (rU_kn G kn)) (A := A) (k := k) (v := 0)) hD
        refine lv_iinc (k := 0) (v := (nI k + 1)) (lv' := [(2, .int (nI k + 1)), (1, .int (nI a)), (0, .ref (rA_ad G 0))]) hx hb d_M_canBeEmptied_23 hl rfl rfl (by decide) rfl (fun ls hl => ?_)
        refine lv_goto (tgt := 2) hx hb d_M_canBeEmptied_26 rfl ?_
        refine ih (k + 1) (upd kn k 0) H locs ls (by omega) (fun j hj => ?_) hP hD hS (by rw [← nI_1]; exact lv_sub hl [0, 1, 2] rfl)
        by_cases e1 : j = k
        · rw [e1]; exact pk_us
        · rw [pk_un e1]; exact hf j (by omega)
set_option maxRecDepth 20000 in
set_option maxHeartbeats 4000000 in
theorem lp_M_can0 {p : Program} {l : Launch} {e : Env} {s : State} {m : MethodId} {args : Array Value} {below : List Frame} {meth : Method} {c : Code} {Q : State → Prop} {X : Xt} {G : Gr} {A : St} {Af : Nat → Prop} {a : Nat} (hx : p.tables.exec = Jvm.exec) (hb : c.code = b_M_canBeEmptied) (hts : ∀ w ∈ Cond.code y_M_canBeEmptied b_M_canBeEmptied 5 (some .boolean) :: WA, w.before args s = true) (hown : s.vm.findClass R_Model = some m.cls) (hml : c.maxLocals = 5) (hK : KK X s) (hR : rOk A) {N : Nat} (kont : ∀ (kn tr tu : Nat → Int32) (H : Heap) (locs : List Loc) (ls : Array Slot), KI (envA A) kn → (k1 kn a = true ∨ k2 kn a = true) → va_P X.1 classes (rw_ X (rU_st (rU_tu (rU_tr (rU_kn G kn) tr) tu) false) A) H → va_D Af (rw_ X (rU_st (rU_tu (rU_tr (rU_kn G kn) tr) tu) false) A) → va_S Af s.heap H locs → lv_has ls 5 [(1, .int (nI a)), (0, .ref (rA_ad G 0))] → W p l e rm_M_canBeEmptied s m args below meth c H locs 0 0 Q (F0 m 202 ls [])) (ih : ∀ (d : Nat) (cd tn : Nat → Nat) (kn tr tu : Nat → Int32) (H : Heap) (locs : List Loc) (ls : Array Slot), muS (envA A) kn d cd tn < N → SV (envA A) a kn d cd tn → trS d cd tn tr tu → va_P X.1 classes (rw_ X (rU_st (rU_tu (rU_tr (rU_kn G kn) tr) tu) false) A) H → va_D Af (rw_ X (rU_st (rU_tu (rU_tr (rU_kn G kn) tr) tu) false) A) → va_S Af s.heap H locs → lv_has ls 5 [(2, .int (nI d)), (1, .int (nI a)), (0, .ref (rA_ad G 0))] → W p l e rm_M_canBeEmptied s m args below meth c H locs 0 0 Q (F0 m 50 ls [])) {cd tn : Nat → Nat} {kn tr tu : Nat → Int32} {H : Heap} {locs : List Loc} {ls : Array Slot} (hmu : muS (envA A) kn 0 cd tn < N + 1) (hv : SV (envA A) a kn 0 cd tn) (htr : trS 0 cd tn tr tu) (hu9 : k1 kn (cd 0) = true ∨ k2 kn (cd 0) = true ∨ isE9 (envA A) (dig9 (cd 0)) = false) (hP : va_P X.1 classes (rw_ X (rU_st (rU_tu (rU_tr (rU_kn G kn) tr) tu) false) A) H) (hD : va_D Af (rw_ X (rU_st (rU_tu (rU_tr (rU_kn G kn) tr) tu) false) A)) (hS : va_S Af s.heap H locs) (hl : lv_has ls 5 [(3, .int (nI (cd 0))), (2, .int (nI 0)), (1, .int (nI a)), (0, .ref (rA_ad G 0))]) : W p l e rm_M_canBeEmptied s m args below meth c H locs 0 0 Q (F0 m 83 ls []) := by
  have hE := env_ok hR
  obtain ⟨n1, n2, n3, n4⟩ := hv.2.2.1 0 (Nat.le_refl _)
  have he9 : k1 kn (cd 0) = false → k2 kn (cd 0) = false → isE9 (envA A) (dig9 (cd 0)) = false := by
    intro z1 z2
    rcases hu9 with h | h | h
    · rw [z1] at h; cases h
    · rw [z2] at h; cases h
    · exact h
  refine lv_aload_n hx hb d_M_canBeEmptied_83 rfl (lv_at hl 3 rfl) ?_
  refine lv_iload_n hx hb d_M_canBeEmptied_84 rfl (lv_at hl 0 rfl) ?_
  refine vp_callSi (W.runV (As := [.int (nI (cd 0))]) (rest := []) ⟨hx, hb, hml, hown, hts⟩ (c_M_knownOf l X (rU_st (rU_tu (rU_tr (rU_kn G kn) tr) tu) false) A (cd 0) n1) (cwV 1 hts (gV (wd_3 18 rfl rfl) (wd_3 20 rfl rfl) (wd_s 16 rfl) (wd_1 6 rfl rfl) (wd_3 21 rfl rfl)) rfl rfl rfl ⟨rfl, hd_M_knownOf⟩ ⟨Nat.le_of_ble_eq_true rfl, Nat.le_of_ble_eq_true rfl⟩) (vx_preV (P := QR X (rU_st (rU_tu (rU_tr (rU_kn G kn) tr) tu) false) A) hP hK (va_recv hK.1 hP (ci := 6) rfl rw_0)) rfl rfl hl.1 rfl (lv_room (Nat.le_of_ble_eq_true rfl)) d_M_canBeEmptied_85 ⟨Nat.zero_le _, Nat.zero_le _⟩) (fun r85 e85 => ?_)
  subst e85
  rw [show f_M_knownOf (rU_st (rU_tu (rU_tr (rU_kn G kn) tr) tu) false) (cd 0) = nI (kvN (k1 kn (cd 0)) (k2 kn (cd 0))) from rfl]
  refine lv_if_eq (tgt := 121) hx hb d_M_canBeEmptied_88 rfl (fun h88 => ?_) (fun h88 => ?_)
  ·
    refine lv_aload_n hx hb d_M_canBeEmptied_121 rfl (lv_at hl 3 rfl) ?_
    refine va_get (D := X.1) (ci := 6) (C := R_Model) (T := F_Model) (N := 24) hx hb hts hin_Model hown hK.1 hP 0 rw_0 rfl 23 (by decide) (hts _ (wd_2 177 rfl rfl)) (fun _ h9 => h9) rfl d_M_canBeEmptied_122 ?_
    refine lv_iload_n hx hb d_M_canBeEmptied_125 rfl (lv_at hl 1 rfl) ?_
    refine va_iald hx hb hK.1 hP 17 0 rw_17 rfl (vp_in_nI (n := 0) (by omega) (by omega)) d_M_canBeEmptied_126 ?_
    rw [nI_clamp (n := 0) (by omega)]
    rw [show rA_tu (rU_st (rU_tu (rU_tr (rU_kn G kn) tr) tu) false) 0 = nI (tn 0) from (htr 0 (Nat.le_refl _)).2]
    refine lv_bipush (v := 30) hx hb d_M_canBeEmptied_127 rfl ?_
    refine lv_icmp_ne (tgt := 141) hx hb d_M_canBeEmptied_129 rfl (fun h129 => ?_) (fun h129 => ?_)
    ·
      have u1 := (kv_0.mp h88).1
      have u2 := (kv_0.mp h88).2
      have ht30 : tn 0 < 30 := by
        have : tn 0 ≠ 30 := fun z => h129 (by rw [z]; rfl)
        omega
      refine lv_aload_n hx hb d_M_canBeEmptied_141 rfl (lv_at hl 3 rfl) ?_
      refine lv_iload_n hx hb d_M_canBeEmptied_142 rfl (lv_at hl 0 rfl) ?_
      refine lv_aload_n hx hb d_M_canBeEmptied_143 rfl (lv_at hl 3 rfl) ?_
      refine va_get (D := X.1) (ci := 6) (C := R_Model) (T := F_Model) (N := 24) hx hb hts hin_Model hown hK.1 hP 0 rw_0 rfl 23 (by decide) (hts _ (wd_2 177 rfl rfl)) (fun _ h9 => h9) rfl d_M_canBeEmptied_144 ?_
      refine lv_iload_n hx hb d_M_canBeEmptied_147 rfl (lv_at hl 1 rfl) ?_
      refine va_iald hx hb hK.1 hP 17 0 rw_17 rfl (vp_in_nI (n := 0) (by omega) (by omega)) d_M_canBeEmptied_148 ?_
      rw [nI_clamp (n := 0) (by omega)]
      rw [show rA_tu (rU_st (rU_tu (rU_tr (rU_kn G kn) tr) tu) false) 0 = nI (tn 0) from (htr 0 (Nat.le_refl _)).2]
      refine lv_bipush (v := 6) hx hb d_M_canBeEmptied_149 rfl ?_
      refine lv_idiv hx hb d_M_canBeEmptied_151 (by decide) ?_
      rw [div6 (by omega)]
      refine lv_aload_n hx hb d_M_canBeEmptied_152 rfl (lv_at hl 3 rfl) ?_
      refine va_get (D := X.1) (ci := 6) (C := R_Model) (T := F_Model) (N := 24) hx hb hts hin_Model hown hK.1 hP 0 rw_0 rfl 23 (by decide) (hts _ (wd_2 177 rfl rfl)) (fun _ h9 => h9) rfl d_M_canBeEmptied_153 ?_
      refine lv_iload_n hx hb d_M_canBeEmptied_156 rfl (lv_at hl 1 rfl) ?_
      refine va_iald hx hb hK.1 hP 17 0 rw_17 rfl (vp_in_nI (n := 0) (by omega) (by omega)) d_M_canBeEmptied_157 ?_
      rw [nI_clamp (n := 0) (by omega)]
      rw [show rA_tu (rU_st (rU_tu (rU_tr (rU_kn G kn) tr) tu) false) 0 = nI (tn 0) from (htr 0 (Nat.le_refl _)).2]
      refine lv_bipush (v := 6) hx hb d_M_canBeEmptied_158 rfl ?_
      refine lv_irem hx hb d_M_canBeEmptied_160 (by decide) ?_
      rw [rem6 (by omega)]
      refine vp_callSi (W.runV (As := [.int (nI (cd 0)), .int (nI (tn 0 / 6)), .int (nI (tn 0 % 6))]) (rest := []) ⟨hx, hb, hml, hown, hts⟩ (c_M_after l X (rU_st (rU_tu (rU_tr (rU_kn G kn) tr) tu) false) A (cd 0) (tn 0 / 6) (tn 0 % 6) hR n1 (show tn 0 / 6 < 5 by omega) (show tn 0 % 6 < 6 by omega) n2) (cwV 3 hts (gV (wd_3 33 rfl rfl) (wd_3 35 rfl rfl) (wd_s 19 rfl) (wd_1 6 rfl rfl) (wd_3 36 rfl rfl)) rfl rfl rfl ⟨rfl, hd_M_after⟩ ⟨Nat.le_of_ble_eq_true rfl, Nat.le_of_ble_eq_true rfl⟩) (vx_preV (P := QR X (rU_st (rU_tu (rU_tr (rU_kn G kn) tr) tu) false) A) hP hK (va_recv hK.1 hP (ci := 6) rfl rw_0)) rfl rfl hl.1 rfl (lv_room (Nat.le_of_ble_eq_true rfl)) d_M_canBeEmptied_161 ⟨Nat.zero_le _, Nat.zero_le _⟩) (fun r161 e161 => ?_)
      subst e161
      refine lv_istore (lv' := [(4, .int (f_M_after A (cd 0) (tn 0 / 6) (tn 0 % 6))), (3, .int (nI (cd 0))), (2, .int (nI 0)), (1, .int (nI a)), (0, .ref (rA_ad G 0))]) hx hb d_M_canBeEmptied_164 hl (by decide) rfl (fun ls hl => ?_)
      refine lv_aload_n hx hb d_M_canBeEmptied_166 rfl (lv_at hl 4 rfl) ?_
      refine va_get (D := X.1) (ci := 6) (C := R_Model) (T := F_Model) (N := 24) hx hb hts hin_Model hown hK.1 hP 0 rw_0 rfl 23 (by decide) (hts _ (wd_2 177 rfl rfl)) (fun _ h9 => h9) rfl d_M_canBeEmptied_167 ?_
      refine lv_iload_n hx hb d_M_canBeEmptied_170 rfl (lv_at hl 2 rfl) ?_
      refine lv_dup2_11 hx hb d_M_canBeEmptied_171 rfl rfl ?_
      refine va_iald hx hb hK.1 hP 17 0 rw_17 rfl (vp_in_nI (n := 0) (by omega) (by omega)) d_M_canBeEmptied_172 ?_
      rw [nI_clamp (n := 0) (by omega)]
      rw [show rA_tu (rU_st (rU_tu (rU_tr (rU_kn G kn) tr) tu) false) 0 = nI (tn 0) from (htr 0 (Nat.le_refl _)).2]
      refine lv_iconst (v := 1) hx hb d_M_canBeEmptied_173 rfl ?_
      refine lv_iadd hx hb d_M_canBeEmptied_174 ?_
      rw [nI_1]
      refine va_iast hx hb hK.1 hP hD hS 17 0 rw_17 rfl (vp_in_nI (n := 0) (by omega) (by omega)) d_M_canBeEmptied_175 (fun H locs hP hD hS => ?_)
      rw [nI_clamp (n := 0) (by omega)] at hP hD
      replace hP := vx_P (rw_s_tu (X := X) (G := (rU_st (rU_tu (rU_tr (rU_kn G kn) tr) tu) false)) (A := A) (k := 0) (v := nI (tn 0 + 1))) hP
      replace hD := vx_D (rw_s_tu (X := X) (G := (rU_st (rU_tu (rU_tr (rU_kn G kn) tr) tu) false)) (A := A) (k := 0) (v := nI (tn 0 + 1))) hD
      refine lv_iload hx hb d_M_canBeEmptied_176 (lv_at hl 0 rfl) ?_
      refine lv_if_lt (tgt := 199) hx hb d_M_canBeEmptied_178 rfl (fun h178 => ?_) (fun h178 => ?_)
      ·
        refine lv_goto (tgt := 50) hx hb d_M_canBeEmptied_199 rfl ?_
        exact ih 0 cd (va_up tn 0 (tn 0 + 1)) kn tr (upd tu 0 (nI (tn 0 + 1))) H locs ls (by have := mu_no (E := envA A) (K := kn) (cd := cd) ht30; omega) (SV_no hv ht30 (aft_neg hE n2 ht30 h178)) (trS_turn htr) hP hD hS (lv_sub hl [2, 3, 4] rfl)
      ·
        obtain ⟨hm, haf⟩ := aft_pos h178
        rw [show f_M_after A (cd 0) (tn 0 / 6) (tn 0 % 6) = nI (aftC (cd 0) (tn 0)) from haf] at hl
        refine lv_iinc (k := 2) (v := (nI 0 + 1)) (lv' := [(2, .int (nI 0 + 1)), (4, .int (nI (aftC (cd 0) (tn 0)))), (3, .int (nI (cd 0))), (1, .int (nI a)), (0, .ref (rA_ad G 0))]) hx hb d_M_canBeEmptied_181 hl rfl rfl (by decide) rfl (fun ls hl => ?_)
        rw [nI_1] at hl
        refine lv_aload_n hx hb d_M_canBeEmptied_184 rfl (lv_at hl 4 rfl) ?_
        refine va_get (D := X.1) (ci := 6) (C := R_Model) (T := F_Model) (N := 24) hx hb hts hin_Model hown hK.1 hP 0 rw_0 rfl 22 (by decide) (hts _ (wd_2 176 rfl rfl)) (fun _ h9 => h9) rfl d_M_canBeEmptied_185 ?_
        refine lv_iload_n hx hb d_M_canBeEmptied_188 rfl (lv_at hl 0 rfl) ?_
        refine lv_iload hx hb d_M_canBeEmptied_189 (lv_at hl 1 rfl) ?_
        refine va_iast hx hb hK.1 hP hD hS 16 0 rw_16 rfl (vp_in_nI (n := 0 + 1) (by omega) (by omega)) d_M_canBeEmptied_191 (fun H locs hP hD hS => ?_)
        rw [nI_clamp (n := 0 + 1) (by omega)] at hP hD
        replace hP := vx_P (rw_s_tr (X := X) (G := (rU_tu (rU_st (rU_tu (rU_tr (rU_kn G kn) tr) tu) false) (upd tu 0 (nI (tn 0 + 1))))) (A := A) (k := 0 + 1) (v := nI (aftC (cd 0) (tn 0)))) hP
        replace hD := vx_D (rw_s_tr (X := X) (G := (rU_tu (rU_st (rU_tu (rU_tr (rU_kn G kn) tr) tu) false) (upd tu 0 (nI (tn 0 + 1))))) (A := A) (k := 0 + 1) (v := nI (aftC (cd 0) (tn 0)))) hD
        refine lv_aload_n hx hb d_M_canBeEmptied_192 rfl (lv_at hl 4 rfl) ?_
        refine va_get (D := X.1) (ci := 6) (C := R_Model) (T := F_Model) (N := 24) hx hb hts hin_Model hown hK.1 hP 0 rw_0 rfl 23 (by decide) (hts _ (wd_2 177 rfl rfl)) (fun _ h9 => h9) rfl d_M_canBeEmptied_193 ?_
        refine lv_iload_n hx hb d_M_canBeEmptied_196 rfl (lv_at hl 0 rfl) ?_
        refine lv_iconst (v := 0) hx hb d_M_canBeEmptied_197 rfl ?_
        refine va_iast hx hb hK.1 hP hD hS 17 0 rw_17 rfl (vp_in_nI (n := 0 + 1) (by omega) (by omega)) d_M_canBeEmptied_198 (fun H locs hP hD hS => ?_)
        rw [nI_clamp (n := 0 + 1) (by omega)] at hP hD
        replace hP := vx_P (rw_s_tu (X := X) (G := (rU_tr (rU_tu (rU_st (rU_tu (rU_tr (rU_kn G kn) tr) tu) false) (upd tu 0 (nI (tn 0 + 1)))) (upd tr (0 + 1) (nI (aftC (cd 0) (tn 0)))))) (A := A) (k := 0 + 1) (v := 0)) hP
        replace hD := vx_D (rw_s_tu (X := X) (G := (rU_tr (rU_tu (rU_st (rU_tu (rU_tr (rU_kn G kn) tr) tu) false) (upd tu 0 (nI (tn 0 + 1)))) (upd tr (0 + 1) (nI (aftC (cd 0) (tn 0)))))) (A := A) (k := 0 + 1) (v := 0)) hD
        refine lv_goto (tgt := 50) hx hb d_M_canBeEmptied_199 rfl ?_
        exact ih (0 + 1) (va_up cd (0 + 1) (aftC (cd 0) (tn 0))) (va_up (va_up tn 0 (tn 0 + 1)) (0 + 1) 0) kn (upd tr (0 + 1) (nI (aftC (cd 0) (tn 0)))) (upd (upd tu 0 (nI (tn 0 + 1))) (0 + 1) 0) H locs ls (by have := mu_push hE hv u1 u2 ht30 hm; omega) (SV_push hE hv u1 u2 ht30 hm) (trS_push (trS_turn htr)) hP hD hS (lv_sub hl [0, 3, 4] rfl)
    ·
      refine lv_aload_n hx hb d_M_canBeEmptied_132 rfl (lv_at hl 3 rfl) ?_
      refine lv_iload_n hx hb d_M_canBeEmptied_133 rfl (lv_at hl 0 rfl) ?_
      refine lv_iconst (v := 2) hx hb d_M_canBeEmptied_134 rfl ?_
      refine va_callv (va_runV (As := [.int (nI (cd 0)), .int 2]) (rest := []) ⟨hx, hb, hml, hown, hts⟩ (c_M_know l X (rU_st (rU_tu (rU_tr (rU_kn G kn) tr) tu) false) A Af (cd 0) 2 n1) (cwV 2 hts (gV (wd_3 29 rfl rfl) (wd_3 31 rfl rfl) (wd_s 18 rfl) (wd_1 6 rfl rfl) (wd_3 32 rfl rfl)) rfl rfl rfl ⟨rfl, hd_M_know⟩ ⟨Nat.le_of_ble_eq_true rfl, Nat.le_of_ble_eq_true rfl⟩) (vx_preV (P := QW X Af (rU_st (rU_tu (rU_tr (rU_kn G kn) tr) tu) false) A) ⟨hP, hD⟩ hK (va_recv hK.1 hP (ci := 6) rfl rw_0)) rfl rfl hl.1 rfl (lv_room (Nat.le_of_ble_eq_true rfl)) d_M_canBeEmptied_135 ⟨Nat.zero_le _, Nat.zero_le _⟩) hS (fun q _ h => h) (fun q h => h) (fun u135 t135 H locs ht hvm hu135 hB hz hk hS => ?_)
      obtain ⟨hP, hD⟩ := hB
      rw [ht] at hP
      subst hu135
      have hP : va_P X.1 classes (rw_ X (rU_kn (rU_st (rU_tu (rU_tr (rU_kn G kn) tr) tu) false) (knU kn (cd 0) 2)) A) H := hP
      have hD : va_D Af (rw_ X (rU_kn (rU_st (rU_tu (rU_tr (rU_kn G kn) tr) tu) false) (knU kn (cd 0) 2)) A) := hD
      refine lv_goto (tgt := 199) hx hb d_M_canBeEmptied_138 rfl ?_
      refine lv_goto (tgt := 50) hx hb d_M_canBeEmptied_199 rfl ?_
      obtain ⟨v1, v2⟩ := SV_30 hE hv (kv_0.mp h88).1 (kv_0.mp h88).2 (he9 (kv_0.mp h88).1 (kv_0.mp h88).2) ((nI_eq (b := 30) (by omega) (by omega)).mp h129)
      exact ih 0 cd tn (knU kn (cd 0) 2) tr tu H locs ls (by have := mu_known (E := envA A) (tn := tn) (kv_0.mp h88).1 (kv_0.mp h88).2 (Or.inr v2); omega) v1 htr hP hD hS (lv_sub hl [1, 2, 3] rfl)
  ·
    refine lv_iinc (k := 1) (v := (nI 0 + (-1))) (lv' := [(2, .int (nI 0 + (-1))), (3, .int (nI (cd 0))), (1, .int (nI a)), (0, .ref (rA_ad G 0))]) hx hb d_M_canBeEmptied_91 hl rfl rfl (by decide) rfl (fun ls hl => ?_)
    refine lv_iload_n hx hb d_M_canBeEmptied_94 rfl (lv_at hl 0 rfl) ?_
    refine lv_if_lt (tgt := 199) hx hb d_M_canBeEmptied_95 rfl (fun h95 => ?_) (fun h95 => ?_)
    ·
      refine lv_goto (tgt := 50) hx hb d_M_canBeEmptied_199 rfl ?_
      refine lv_iload_n hx hb d_M_canBeEmptied_50 rfl (lv_at hl 0 rfl) ?_
      refine lv_if_lt (tgt := 202) hx hb d_M_canBeEmptied_51 rfl (fun h51 => ?_) (fun h51 => absurd (by decide) h51)
      exact kont kn tr tu H locs ls hv.1 (by have h := kn_or h88; rw [hv.2.1] at h; exact h) hP hD hS (lv_sub hl [2, 3] rfl)
    ·
      exact absurd (by decide) h95
set_option maxRecDepth 20000 in
set_option maxHeartbeats 4000000 in
theorem lp_M_cans {p : Program} {l : Launch} {e : Env} {s : State} {m : MethodId} {args : Array Value} {below : List Frame} {meth : Method} {c : Code} {Q : State → Prop} {X : Xt} {G : Gr} {A : St} {Af : Nat → Prop} {a : Nat} (hx : p.tables.exec = Jvm.exec) (hb : c.code = b_M_canBeEmptied) (hts : ∀ w ∈ Cond.code y_M_canBeEmptied b_M_canBeEmptied 5 (some .boolean) :: WA, w.before args s = true) (hown : s.vm.findClass R_Model = some m.cls) (hml : c.maxLocals = 5) (hK : KK X s) (hR : rOk A) {N : Nat} (kont : ∀ (kn tr tu : Nat → Int32) (H : Heap) (locs : List Loc) (ls : Array Slot), KI (envA A) kn → (k1 kn a = true ∨ k2 kn a = true) → va_P X.1 classes (rw_ X (rU_st (rU_tu (rU_tr (rU_kn G kn) tr) tu) false) A) H → va_D Af (rw_ X (rU_st (rU_tu (rU_tr (rU_kn G kn) tr) tu) false) A) → va_S Af s.heap H locs → lv_has ls 5 [(1, .int (nI a)), (0, .ref (rA_ad G 0))] → W p l e rm_M_canBeEmptied s m args below meth c H locs 0 0 Q (F0 m 202 ls [])) (ih : ∀ (d : Nat) (cd tn : Nat → Nat) (kn tr tu : Nat → Int32) (H : Heap) (locs : List Loc) (ls : Array Slot), muS (envA A) kn d cd tn < N → SV (envA A) a kn d cd tn → trS d cd tn tr tu → va_P X.1 classes (rw_ X (rU_st (rU_tu (rU_tr (rU_kn G kn) tr) tu) false) A) H → va_D Af (rw_ X (rU_st (rU_tu (rU_tr (rU_kn G kn) tr) tu) false) A) → va_S Af s.heap H locs → lv_has ls 5 [(2, .int (nI d)), (1, .int (nI a)), (0, .ref (rA_ad G 0))] → W p l e rm_M_canBeEmptied s m args below meth c H locs 0 0 Q (F0 m 50 ls [])) {d : Nat} {cd tn : Nat → Nat} {kn tr tu : Nat → Int32} {H : Heap} {locs : List Loc} {ls : Array Slot} (hmu : muS (envA A) kn (d + 1) cd tn < N + 1) (hv : SV (envA A) a kn (d + 1) cd tn) (htr : trS (d + 1) cd tn tr tu) (hu9 : k1 kn (cd (d + 1)) = true ∨ k2 kn (cd (d + 1)) = true ∨ isE9 (envA A) (dig9 (cd (d + 1))) = false) (hP : va_P X.1 classes (rw_ X (rU_st (rU_tu (rU_tr (rU_kn G kn) tr) tu) false) A) H) (hD : va_D Af (rw_ X (rU_st (rU_tu (rU_tr (rU_kn G kn) tr) tu) false) A)) (hS : va_S Af s.heap H locs) (hl : lv_has ls 5 [(3, .int (nI (cd (d + 1)))), (2, .int (nI (d + 1))), (1, .int (nI a)), (0, .ref (rA_ad G 0))]) : W p l e rm_M_canBeEmptied s m args below meth c H locs 0 0 Q (F0 m 83 ls []) := by
  have hE := env_ok hR
  obtain ⟨n1, n2, n3, n4⟩ := hv.2.2.1 (d + 1) (Nat.le_refl _)
  have he9 : k1 kn (cd (d + 1)) = false → k2 kn (cd (d + 1)) = false → isE9 (envA A) (dig9 (cd (d + 1))) = false := by
    intro z1 z2
    rcases hu9 with h | h | h
    · rw [z1] at h; cases h
    · rw [z2] at h; cases h
    · exact h
  refine lv_aload_n hx hb d_M_canBeEmptied_83 rfl (lv_at hl 3 rfl) ?_
  refine lv_iload_n hx hb d_M_canBeEmptied_84 rfl (lv_at hl 0 rfl) ?_
  refine vp_callSi (W.runV (As := [.int (nI (cd (d + 1)))]) (rest := []) ⟨hx, hb, hml, hown, hts⟩ (c_M_knownOf l X (rU_st (rU_tu (rU_tr (rU_kn G kn) tr) tu) false) A (cd (d + 1)) n1) (cwV 1 hts (gV (wd_3 18 rfl rfl) (wd_3 20 rfl rfl) (wd_s 16 rfl) (wd_1 6 rfl rfl) (wd_3 21 rfl rfl)) rfl rfl rfl ⟨rfl, hd_M_knownOf⟩ ⟨Nat.le_of_ble_eq_true rfl, Nat.le_of_ble_eq_true rfl⟩) (vx_preV (P := QR X (rU_st (rU_tu (rU_tr (rU_kn G kn) tr) tu) false) A) hP hK (va_recv hK.1 hP (ci := 6) rfl rw_0)) rfl rfl hl.1 rfl (lv_room (Nat.le_of_ble_eq_true rfl)) d_M_canBeEmptied_85 ⟨Nat.zero_le _, Nat.zero_le _⟩) (fun r85 e85 => ?_)
  subst e85
  rw [show f_M_knownOf (rU_st (rU_tu (rU_tr (rU_kn G kn) tr) tu) false) (cd (d + 1)) = nI (kvN (k1 kn (cd (d + 1))) (k2 kn (cd (d + 1)))) from rfl]
  refine lv_if_eq (tgt := 121) hx hb d_M_canBeEmptied_88 rfl (fun h88 => ?_) (fun h88 => ?_)
  ·
    refine lv_aload_n hx hb d_M_canBeEmptied_121 rfl (lv_at hl 3 rfl) ?_
    refine va_get (D := X.1) (ci := 6) (C := R_Model) (T := F_Model) (N := 24) hx hb hts hin_Model hown hK.1 hP 0 rw_0 rfl 23 (by decide) (hts _ (wd_2 177 rfl rfl)) (fun _ h9 => h9) rfl d_M_canBeEmptied_122 ?_
    refine lv_iload_n hx hb d_M_canBeEmptied_125 rfl (lv_at hl 1 rfl) ?_
    refine va_iald hx hb hK.1 hP 17 0 rw_17 rfl (vp_in_nI (n := d + 1) (by omega) (by omega)) d_M_canBeEmptied_126 ?_
    rw [nI_clamp (n := d + 1) (by omega)]
    rw [show rA_tu (rU_st (rU_tu (rU_tr (rU_kn G kn) tr) tu) false) (d + 1) = nI (tn (d + 1)) from (htr (d + 1) (Nat.le_refl _)).2]
    refine lv_bipush (v := 30) hx hb d_M_canBeEmptied_127 rfl ?_
    refine lv_icmp_ne (tgt := 141) hx hb d_M_canBeEmptied_129 rfl (fun h129 => ?_) (fun h129 => ?_)
    ·
      have u1 := (kv_0.mp h88).1
      have u2 := (kv_0.mp h88).2
      have ht30 : tn (d + 1) < 30 := by
        have : tn (d + 1) ≠ 30 := fun z => h129 (by rw [z]; rfl)
        omega
      refine lv_aload_n hx hb d_M_canBeEmptied_141 rfl (lv_at hl 3 rfl) ?_
      refine lv_iload_n hx hb d_M_canBeEmptied_142 rfl (lv_at hl 0 rfl) ?_
      refine lv_aload_n hx hb d_M_canBeEmptied_143 rfl (lv_at hl 3 rfl) ?_
      refine va_get (D := X.1) (ci := 6) (C := R_Model) (T := F_Model) (N := 24) hx hb hts hin_Model hown hK.1 hP 0 rw_0 rfl 23 (by decide) (hts _ (wd_2 177 rfl rfl)) (fun _ h9 => h9) rfl d_M_canBeEmptied_144 ?_
      refine lv_iload_n hx hb d_M_canBeEmptied_147 rfl (lv_at hl 1 rfl) ?_
      refine va_iald hx hb hK.1 hP 17 0 rw_17 rfl (vp_in_nI (n := d + 1) (by omega) (by omega)) d_M_canBeEmptied_148 ?_
      rw [nI_clamp (n := d + 1) (by omega)]
      rw [show rA_tu (rU_st (rU_tu (rU_tr (rU_kn G kn) tr) tu) false) (d + 1) = nI (tn (d + 1)) from (htr (d + 1) (Nat.le_refl _)).2]
      refine lv_bipush (v := 6) hx hb d_M_canBeEmptied_149 rfl ?_
      refine lv_idiv hx hb d_M_canBeEmptied_151 (by decide) ?_
      rw [div6 (by omega)]
      refine lv_aload_n hx hb d_M_canBeEmptied_152 rfl (lv_at hl 3 rfl) ?_
      refine va_get (D := X.1) (ci := 6) (C := R_Model) (T := F_Model) (N := 24) hx hb hts hin_Model hown hK.1 hP 0 rw_0 rfl 23 (by decide) (hts _ (wd_2 177 rfl rfl)) (fun _ h9 => h9) rfl d_M_canBeEmptied_153 ?_
      refine lv_iload_n hx hb d_M_canBeEmptied_156 rfl (lv_at hl 1 rfl) ?_
      refine va_iald hx hb hK.1 hP 17 0 rw_17 rfl (vp_in_nI (n := d + 1) (by omega) (by omega)) d_M_canBeEmptied_157 ?_
      rw [nI_clamp (n := d + 1) (by omega)]
      rw [show rA_tu (rU_st (rU_tu (rU_tr (rU_kn G kn) tr) tu) false) (d + 1) = nI (tn (d + 1)) from (htr (d + 1) (Nat.le_refl _)).2]
      refine lv_bipush (v := 6) hx hb d_M_canBeEmptied_158 rfl ?_
      refine lv_irem hx hb d_M_canBeEmptied_160 (by decide) ?_
      rw [rem6 (by omega)]
      refine vp_callSi (W.runV (As := [.int (nI (cd (d + 1))), .int (nI (tn (d + 1) / 6)), .int (nI (tn (d + 1) % 6))]) (rest := []) ⟨hx, hb, hml, hown, hts⟩ (c_M_after l X (rU_st (rU_tu (rU_tr (rU_kn G kn) tr) tu) false) A (cd (d + 1)) (tn (d + 1) / 6) (tn (d + 1) % 6) hR n1 (show tn (d + 1) / 6 < 5 by omega) (show tn (d + 1) % 6 < 6 by omega) n2) (cwV 3 hts (gV (wd_3 33 rfl rfl) (wd_3 35 rfl rfl) (wd_s 19 rfl) (wd_1 6 rfl rfl) (wd_3 36 rfl rfl)) rfl rfl rfl ⟨rfl, hd_M_after⟩ ⟨Nat.le_of_ble_eq_true rfl, Nat.le_of_ble_eq_true rfl⟩) (vx_preV (P := QR X (rU_st (rU_tu (rU_tr (rU_kn G kn) tr) tu) false) A) hP hK (va_recv hK.1 hP (ci := 6) rfl rw_0)) rfl rfl hl.1 rfl (lv_room (Nat.le_of_ble_eq_true rfl)) d_M_canBeEmptied_161 ⟨Nat.zero_le _, Nat.zero_le _⟩) (fun r161 e161 => ?_)
      subst e161
      refine lv_istore (lv' := [(4, .int (f_M_after A (cd (d + 1)) (tn (d + 1) / 6) (tn (d + 1) % 6))), (3, .int (nI (cd (d + 1)))), (2, .int (nI (d + 1))), (1, .int (nI a)), (0, .ref (rA_ad G 0))]) hx hb d_M_canBeEmptied_164 hl (by decide) rfl (fun ls hl => ?_)
      refine lv_aload_n hx hb d_M_canBeEmptied_166 rfl (lv_at hl 4 rfl) ?_
      refine va_get (D := X.1) (ci := 6) (C := R_Model) (T := F_Model) (N := 24) hx hb hts hin_Model hown hK.1 hP 0 rw_0 rfl 23 (by decide) (hts _ (wd_2 177 rfl rfl)) (fun _ h9 => h9) rfl d_M_canBeEmptied_167 ?_
      refine lv_iload_n hx hb d_M_canBeEmptied_170 rfl (lv_at hl 2 rfl) ?_
      refine lv_dup2_11 hx hb d_M_canBeEmptied_171 rfl rfl ?_
      refine va_iald hx hb hK.1 hP 17 0 rw_17 rfl (vp_in_nI (n := d + 1) (by omega) (by omega)) d_M_canBeEmptied_172 ?_
      rw [nI_clamp (n := d + 1) (by omega)]
      rw [show rA_tu (rU_st (rU_tu (rU_tr (rU_kn G kn) tr) tu) false) (d + 1) = nI (tn (d + 1)) from (htr (d + 1) (Nat.le_refl _)).2]
      refine lv_iconst (v := 1) hx hb d_M_canBeEmptied_173 rfl ?_
      refine lv_iadd hx hb d_M_canBeEmptied_174 ?_
      rw [nI_1]
      refine va_iast hx hb hK.1 hP hD hS 17 0 rw_17 rfl (vp_in_nI (n := d + 1) (by omega) (by omega)) d_M_canBeEmptied_175 (fun H locs hP hD hS => ?_)
      rw [nI_clamp (n := d + 1) (by omega)] at hP hD
      replace hP := vx_P (rw_s_tu (X := X) (G := (rU_st (rU_tu (rU_tr (rU_kn G kn) tr) tu) false)) (A := A) (k := d + 1) (v := nI (tn (d + 1) + 1))) hP
      replace hD := vx_D (rw_s_tu (X := X) (G := (rU_st (rU_tu (rU_tr (rU_kn G kn) tr) tu) false)) (A := A) (k := d + 1) (v := nI (tn (d + 1) + 1))) hD
      refine lv_iload hx hb d_M_canBeEmptied_176 (lv_at hl 0 rfl) ?_
      refine lv_if_lt (tgt := 199) hx hb d_M_canBeEmptied_178 rfl (fun h178 => ?_) (fun h178 => ?_)
      ·
        refine lv_goto (tgt := 50) hx hb d_M_canBeEmptied_199 rfl ?_
        exact ih (d + 1) cd (va_up tn (d + 1) (tn (d + 1) + 1)) kn tr (upd tu (d + 1) (nI (tn (d + 1) + 1))) H locs ls (by have := mu_no (E := envA A) (K := kn) (cd := cd) ht30; omega) (SV_no hv ht30 (aft_neg hE n2 ht30 h178)) (trS_turn htr) hP hD hS (lv_sub hl [2, 3, 4] rfl)
      ·
        obtain ⟨hm, haf⟩ := aft_pos h178
        rw [show f_M_after A (cd (d + 1)) (tn (d + 1) / 6) (tn (d + 1) % 6) = nI (aftC (cd (d + 1)) (tn (d + 1))) from haf] at hl
        refine lv_iinc (k := 2) (v := (nI (d + 1) + 1)) (lv' := [(2, .int (nI (d + 1) + 1)), (4, .int (nI (aftC (cd (d + 1)) (tn (d + 1))))), (3, .int (nI (cd (d + 1)))), (1, .int (nI a)), (0, .ref (rA_ad G 0))]) hx hb d_M_canBeEmptied_181 hl rfl rfl (by decide) rfl (fun ls hl => ?_)
        rw [nI_1] at hl
        refine lv_aload_n hx hb d_M_canBeEmptied_184 rfl (lv_at hl 4 rfl) ?_
        refine va_get (D := X.1) (ci := 6) (C := R_Model) (T := F_Model) (N := 24) hx hb hts hin_Model hown hK.1 hP 0 rw_0 rfl 22 (by decide) (hts _ (wd_2 176 rfl rfl)) (fun _ h9 => h9) rfl d_M_canBeEmptied_185 ?_
        refine lv_iload_n hx hb d_M_canBeEmptied_188 rfl (lv_at hl 0 rfl) ?_
        refine lv_iload hx hb d_M_canBeEmptied_189 (lv_at hl 1 rfl) ?_
        refine va_iast hx hb hK.1 hP hD hS 16 0 rw_16 rfl (vp_in_nI (n := d + 1 + 1) (by omega) (by omega)) d_M_canBeEmptied_191 (fun H locs hP hD hS => ?_)
        rw [nI_clamp (n := d + 1 + 1) (by omega)] at hP hD
        replace hP := vx_P (rw_s_tr (X := X) (G := (rU_tu (rU_st (rU_tu (rU_tr (rU_kn G kn) tr) tu) false) (upd tu (d + 1) (nI (tn (d + 1) + 1))))) (A := A) (k := d + 1 + 1) (v := nI (aftC (cd (d + 1)) (tn (d + 1))))) hP
        replace hD := vx_D (rw_s_tr (X := X) (G := (rU_tu (rU_st (rU_tu (rU_tr (rU_kn G kn) tr) tu) false) (upd tu (d + 1) (nI (tn (d + 1) + 1))))) (A := A) (k := d + 1 + 1) (v := nI (aftC (cd (d + 1)) (tn (d + 1))))) hD
        refine lv_aload_n hx hb d_M_canBeEmptied_192 rfl (lv_at hl 4 rfl) ?_
        refine va_get (D := X.1) (ci := 6) (C := R_Model) (T := F_Model) (N := 24) hx hb hts hin_Model hown hK.1 hP 0 rw_0 rfl 23 (by decide) (hts _ (wd_2 177 rfl rfl)) (fun _ h9 => h9) rfl d_M_canBeEmptied_193 ?_
        refine lv_iload_n hx hb d_M_canBeEmptied_196 rfl (lv_at hl 0 rfl) ?_
        refine lv_iconst (v := 0) hx hb d_M_canBeEmptied_197 rfl ?_
        refine va_iast hx hb hK.1 hP hD hS 17 0 rw_17 rfl (vp_in_nI (n := d + 1 + 1) (by omega) (by omega)) d_M_canBeEmptied_198 (fun H locs hP hD hS => ?_)
        rw [nI_clamp (n := d + 1 + 1) (by omega)] at hP hD
        replace hP := vx_P (rw_s_tu (X := X) (G := (rU_tr (rU_tu (rU_st (rU_tu (rU_tr (rU_kn G kn) tr) tu) false) (upd tu (d + 1) (nI (tn (d + 1) + 1)))) (upd tr (d + 1 + 1) (nI (aftC (cd (d + 1)) (tn (d + 1))))))) (A := A) (k := d + 1 + 1) (v := 0)) hP
        replace hD := vx_D (rw_s_tu (X := X) (G := (rU_tr (rU_tu (rU_st (rU_tu (rU_tr (rU_kn G kn) tr) tu) false) (upd tu (d + 1) (nI (tn (d + 1) + 1)))) (upd tr (d + 1 + 1) (nI (aftC (cd (d + 1)) (tn (d + 1))))))) (A := A) (k := d + 1 + 1) (v := 0)) hD
        refine lv_goto (tgt := 50) hx hb d_M_canBeEmptied_199 rfl ?_
        exact ih (d + 1 + 1) (va_up cd (d + 1 + 1) (aftC (cd (d + 1)) (tn (d + 1)))) (va_up (va_up tn (d + 1) (tn (d + 1) + 1)) (d + 1 + 1) 0) kn (upd tr (d + 1 + 1) (nI (aftC (cd (d + 1)) (tn (d + 1))))) (upd (upd tu (d + 1) (nI (tn (d + 1) + 1))) (d + 1 + 1) 0) H locs ls (by have := mu_push hE hv u1 u2 ht30 hm; omega) (SV_push hE hv u1 u2 ht30 hm) (trS_push (trS_turn htr)) hP hD hS (lv_sub hl [0, 3, 4] rfl)
    ·
      refine lv_aload_n hx hb d_M_canBeEmptied_132 rfl (lv_at hl 3 rfl) ?_
      refine lv_iload_n hx hb d_M_canBeEmptied_133 rfl (lv_at hl 0 rfl) ?_
      refine lv_iconst (v := 2) hx hb d_M_canBeEmptied_134 rfl ?_
      refine va_callv (va_runV (As := [.int (nI (cd (d + 1))), .int 2]) (rest := []) ⟨hx, hb, hml, hown, hts⟩ (c_M_know l X (rU_st (rU_tu (rU_tr (rU_kn G kn) tr) tu) false) A Af (cd (d + 1)) 2 n1) (cwV 2 hts (gV (wd_3 29 rfl rfl) (wd_3 31 rfl rfl) (wd_s 18 rfl) (wd_1 6 rfl rfl) (wd_3 32 rfl rfl)) rfl rfl rfl ⟨rfl, hd_M_know⟩ ⟨Nat.le_of_ble_eq_true rfl, Nat.le_of_ble_eq_true rfl⟩) (vx_preV (P := QW X Af (rU_st (rU_tu (rU_tr (rU_kn G kn) tr) tu) false) A) ⟨hP, hD⟩ hK (va_recv hK.1 hP (ci := 6) rfl rw_0)) rfl rfl hl.1 rfl (lv_room (Nat.le_of_ble_eq_true rfl)) d_M_canBeEmptied_135 ⟨Nat.zero_le _, Nat.zero_le _⟩) hS (fun q _ h => h) (fun q h => h) (fun u135 t135 H locs ht hvm hu135 hB hz hk hS => ?_)
      obtain ⟨hP, hD⟩ := hB
      rw [ht] at hP
      subst hu135
      have hP : va_P X.1 classes (rw_ X (rU_kn (rU_st (rU_tu (rU_tr (rU_kn G kn) tr) tu) false) (knU kn (cd (d + 1)) 2)) A) H := hP
      have hD : va_D Af (rw_ X (rU_kn (rU_st (rU_tu (rU_tr (rU_kn G kn) tr) tu) false) (knU kn (cd (d + 1)) 2)) A) := hD
      refine lv_goto (tgt := 199) hx hb d_M_canBeEmptied_138 rfl ?_
      refine lv_goto (tgt := 50) hx hb d_M_canBeEmptied_199 rfl ?_
      obtain ⟨v1, v2⟩ := SV_30 hE hv (kv_0.mp h88).1 (kv_0.mp h88).2 (he9 (kv_0.mp h88).1 (kv_0.mp h88).2) ((nI_eq (b := 30) (by omega) (by omega)).mp h129)
      exact ih (d + 1) cd tn (knU kn (cd (d + 1)) 2) tr tu H locs ls (by have := mu_known (E := envA A) (tn := tn) (kv_0.mp h88).1 (kv_0.mp h88).2 (Or.inr v2); omega) v1 htr hP hD hS (lv_sub hl [1, 2, 3] rfl)
  ·
    refine lv_iinc (k := 1) (v := (nI (d + 1) + (-1))) (lv' := [(2, .int (nI (d + 1) + (-1))), (3, .int (nI (cd (d + 1)))), (1, .int (nI a)), (0, .ref (rA_ad G 0))]) hx hb d_M_canBeEmptied_91 hl rfl rfl (by decide) rfl (fun ls hl => ?_)
    rw [pk_m1] at hl
    refine lv_iload_n hx hb d_M_canBeEmptied_94 rfl (lv_at hl 0 rfl) ?_
    refine lv_if_lt (tgt := 199) hx hb d_M_canBeEmptied_95 rfl (fun h95 => ?_) (fun h95 => ?_)
    ·
      exact absurd h95 (nI_pos (by omega))
    ·
      refine lv_aload_n hx hb d_M_canBeEmptied_98 rfl (lv_at hl 3 rfl) ?_
      refine lv_iload_n hx hb d_M_canBeEmptied_99 rfl (lv_at hl 1 rfl) ?_
      refine vp_callSi (W.runV (As := [.int (nI (cd (d + 1)))]) (rest := []) ⟨hx, hb, hml, hown, hts⟩ (c_M_knownOf l X (rU_st (rU_tu (rU_tr (rU_kn G kn) tr) tu) false) A (cd (d + 1)) n1) (cwV 1 hts (gV (wd_3 18 rfl rfl) (wd_3 20 rfl rfl) (wd_s 16 rfl) (wd_1 6 rfl rfl) (wd_3 21 rfl rfl)) rfl rfl rfl ⟨rfl, hd_M_knownOf⟩ ⟨Nat.le_of_ble_eq_true rfl, Nat.le_of_ble_eq_true rfl⟩) (vx_preV (P := QR X (rU_st (rU_tu (rU_tr (rU_kn G kn) tr) tu) false) A) hP hK (va_recv hK.1 hP (ci := 6) rfl rw_0)) rfl rfl hl.1 rfl (lv_room (Nat.le_of_ble_eq_true rfl)) d_M_canBeEmptied_100 ⟨Nat.zero_le _, Nat.zero_le _⟩) (fun r100 e100 => ?_)
      subst e100
      rw [show f_M_knownOf (rU_st (rU_tu (rU_tr (rU_kn G kn) tr) tu) false) (cd (d + 1)) = nI (kvN (k1 kn (cd (d + 1))) (k2 kn (cd (d + 1)))) from rfl]
      refine lv_iconst (v := 1) hx hb d_M_canBeEmptied_103 rfl ?_
      refine lv_icmp_ne (tgt := 199) hx hb d_M_canBeEmptied_104 rfl (fun h104 => ?_) (fun h104 => ?_)
      ·
        refine lv_goto (tgt := 50) hx hb d_M_canBeEmptied_199 rfl ?_
        exact ih d cd tn kn tr tu H locs ls (by have := mu_pop (K' := kn) hv; omega) (SV_pop2 hv (kn_2 h88 h104)) (trS_pop htr) hP hD hS (lv_sub hl [0, 2, 3] rfl)
      ·
        refine lv_aload_n hx hb d_M_canBeEmptied_107 rfl (lv_at hl 3 rfl) ?_
        refine lv_aload_n hx hb d_M_canBeEmptied_108 rfl (lv_at hl 3 rfl) ?_
        refine va_get (D := X.1) (ci := 6) (C := R_Model) (T := F_Model) (N := 24) hx hb hts hin_Model hown hK.1 hP 0 rw_0 rfl 22 (by decide) (hts _ (wd_2 176 rfl rfl)) (fun _ h9 => h9) rfl d_M_canBeEmptied_109 ?_
        refine lv_iload_n hx hb d_M_canBeEmptied_112 rfl (lv_at hl 0 rfl) ?_
        refine va_iald hx hb hK.1 hP 16 0 rw_16 rfl (vp_in_nI (n := d) (by omega) (by omega)) d_M_canBeEmptied_113 ?_
        rw [nI_clamp (n := d) (by omega)]
        rw [show rA_tr (rU_st (rU_tu (rU_tr (rU_kn G kn) tr) tu) false) d = nI (cd d) from (htr d (by omega)).1]
        refine lv_iconst (v := 1) hx hb d_M_canBeEmptied_114 rfl ?_
        refine va_callv (va_runV (As := [.int (nI (cd d)), .int 1]) (rest := []) ⟨hx, hb, hml, hown, hts⟩ (c_M_know l X (rU_st (rU_tu (rU_tr (rU_kn G kn) tr) tu) false) A Af (cd d) 1 ((hv.2.2.1 d (by omega)).1)) (cwV 2 hts (gV (wd_3 29 rfl rfl) (wd_3 31 rfl rfl) (wd_s 18 rfl) (wd_1 6 rfl rfl) (wd_3 32 rfl rfl)) rfl rfl rfl ⟨rfl, hd_M_know⟩ ⟨Nat.le_of_ble_eq_true rfl, Nat.le_of_ble_eq_true rfl⟩) (vx_preV (P := QW X Af (rU_st (rU_tu (rU_tr (rU_kn G kn) tr) tu) false) A) ⟨hP, hD⟩ hK (va_recv hK.1 hP (ci := 6) rfl rw_0)) rfl rfl hl.1 rfl (lv_room (Nat.le_of_ble_eq_true rfl)) d_M_canBeEmptied_115 ⟨Nat.zero_le _, Nat.zero_le _⟩) hS (fun q _ h => h) (fun q h => h) (fun u115 t115 H locs ht hvm hu115 hB hz hk hS => ?_)
        obtain ⟨hP, hD⟩ := hB
        rw [ht] at hP
        subst hu115
        have hP : va_P X.1 classes (rw_ X (rU_kn (rU_st (rU_tu (rU_tr (rU_kn G kn) tr) tu) false) (knU kn (cd d) 1)) A) H := hP
        have hD : va_D Af (rw_ X (rU_kn (rU_st (rU_tu (rU_tr (rU_kn G kn) tr) tu) false) (knU kn (cd d) 1)) A) := hD
        refine lv_goto (tgt := 199) hx hb d_M_canBeEmptied_118 rfl ?_
        refine lv_goto (tgt := 50) hx hb d_M_canBeEmptied_199 rfl ?_
        exact ih d cd tn (knU kn (cd d) 1) tr tu H locs ls (by have := mu_pop (K' := knU kn (cd d) 1) hv; omega) (SV_pop1 hE hv (kv_1.mp h104).1) (trS_pop htr) hP hD hS (lv_sub hl [0, 2, 3] rfl)
set_option maxRecDepth 20000 in
set_option maxHeartbeats 4000000 in
theorem lp_M_can {p : Program} {l : Launch} {e : Env} {s : State} {m : MethodId} {args : Array Value} {below : List Frame} {meth : Method} {c : Code} {Q : State → Prop} {X : Xt} {G : Gr} {A : St} {Af : Nat → Prop} {a : Nat} (hx : p.tables.exec = Jvm.exec) (hb : c.code = b_M_canBeEmptied) (hts : ∀ w ∈ Cond.code y_M_canBeEmptied b_M_canBeEmptied 5 (some .boolean) :: WA, w.before args s = true) (hown : s.vm.findClass R_Model = some m.cls) (hml : c.maxLocals = 5) (hK : KK X s) (hR : rOk A) (kont : ∀ (kn tr tu : Nat → Int32) (H : Heap) (locs : List Loc) (ls : Array Slot), KI (envA A) kn → (k1 kn a = true ∨ k2 kn a = true) → va_P X.1 classes (rw_ X (rU_st (rU_tu (rU_tr (rU_kn G kn) tr) tu) false) A) H → va_D Af (rw_ X (rU_st (rU_tu (rU_tr (rU_kn G kn) tr) tu) false) A) → va_S Af s.heap H locs → lv_has ls 5 [(1, .int (nI a)), (0, .ref (rA_ad G 0))] → W p l e rm_M_canBeEmptied s m args below meth c H locs 0 0 Q (F0 m 202 ls [])) :
    ∀ (N d : Nat) (cd tn : Nat → Nat) (kn tr tu : Nat → Int32) (H : Heap) (locs : List Loc) (ls : Array Slot), muS (envA A) kn d cd tn < N → SV (envA A) a kn d cd tn → trS d cd tn tr tu → va_P X.1 classes (rw_ X (rU_st (rU_tu (rU_tr (rU_kn G kn) tr) tu) false) A) H → va_D Af (rw_ X (rU_st (rU_tu (rU_tr (rU_kn G kn) tr) tu) false) A) → va_S Af s.heap H locs → lv_has ls 5 [(2, .int (nI d)), (1, .int (nI a)), (0, .ref (rA_ad G 0))] → W p l e rm_M_canBeEmptied s m args below meth c H locs 0 0 Q (F0 m 50 ls []) := by
  intro N
  induction N with
  | zero => intro d cd tn kn tr tu H locs ls h; omega
  | succ N ih =>
    intro d cd tn kn tr tu H locs ls hmu hv htr hP hD hS hl
    have hE := env_ok hR
    obtain ⟨n1, n2, n3, n4⟩ := hv.2.2.1 d (Nat.le_refl _)
    refine lv_iload_n hx hb d_M_canBeEmptied_50 rfl (lv_at hl 0 rfl) ?_
    refine lv_if_lt (tgt := 202) hx hb d_M_canBeEmptied_51 rfl (fun h51 => ?_) (fun h51 => ?_)
    ·
      exact absurd h51 (nI_pos (by omega))
    ·
      refine lv_aload_n hx hb d_M_canBeEmptied_54 rfl (lv_at hl 2 rfl) ?_
      refine va_get (D := X.1) (ci := 6) (C := R_Model) (T := F_Model) (N := 24) hx hb hts hin_Model hown hK.1 hP 0 rw_0 rfl 22 (by decide) (hts _ (wd_2 176 rfl rfl)) (fun _ h9 => h9) rfl d_M_canBeEmptied_55 ?_
      refine lv_iload_n hx hb d_M_canBeEmptied_58 rfl (lv_at hl 0 rfl) ?_
      refine va_iald hx hb hK.1 hP 16 0 rw_16 rfl (vp_in_nI (n := d) (by omega) (by omega)) d_M_canBeEmptied_59 ?_
      rw [nI_clamp (n := d) (by omega)]
      rw [show rA_tr (rU_st (rU_tu (rU_tr (rU_kn G kn) tr) tu) false) d = nI (cd d) from (htr d (Nat.le_refl _)).1]
      refine lv_istore_n (lv' := [(3, .int (nI (cd d))), (2, .int (nI d)), (1, .int (nI a)), (0, .ref (rA_ad G 0))]) hx hb d_M_canBeEmptied_60 rfl hl (by decide) rfl (fun ls hl => ?_)
      refine lv_aload_n hx hb d_M_canBeEmptied_61 rfl (lv_at hl 3 rfl) ?_
      refine lv_iload_n hx hb d_M_canBeEmptied_62 rfl (lv_at hl 0 rfl) ?_
      refine vp_callSi (W.runV (As := [.int (nI (cd d))]) (rest := []) ⟨hx, hb, hml, hown, hts⟩ (c_M_knownOf l X (rU_st (rU_tu (rU_tr (rU_kn G kn) tr) tu) false) A (cd d) n1) (cwV 1 hts (gV (wd_3 18 rfl rfl) (wd_3 20 rfl rfl) (wd_s 16 rfl) (wd_1 6 rfl rfl) (wd_3 21 rfl rfl)) rfl rfl rfl ⟨rfl, hd_M_knownOf⟩ ⟨Nat.le_of_ble_eq_true rfl, Nat.le_of_ble_eq_true rfl⟩) (vx_preV (P := QR X (rU_st (rU_tu (rU_tr (rU_kn G kn) tr) tu) false) A) hP hK (va_recv hK.1 hP (ci := 6) rfl rw_0)) rfl rfl hl.1 rfl (lv_room (Nat.le_of_ble_eq_true rfl)) d_M_canBeEmptied_63 ⟨Nat.zero_le _, Nat.zero_le _⟩) (fun r63 e63 => ?_)
      subst e63
      rw [show f_M_knownOf (rU_st (rU_tu (rU_tr (rU_kn G kn) tr) tu) false) (cd d) = nI (kvN (k1 kn (cd d)) (k2 kn (cd d))) from rfl]
      refine lv_if_ne (tgt := 83) hx hb d_M_canBeEmptied_66 rfl (fun h66 => ?_) (fun h66 => ?_)
      ·
        have hkn : k1 kn (cd d) = true ∨ k2 kn (cd d) = true ∨ isE9 (envA A) (dig9 (cd d)) = false := (kn_or h66).elim Or.inl (fun h => Or.inr (Or.inl h))
        cases d with
        | zero => exact lp_M_can0 (G := G) (cd := cd) (tn := tn) (kn := kn) (tr := tr) (tu := tu) hx hb hts hown hml hK hR kont ih hmu hv htr hkn hP hD hS (lv_sub hl [0, 1, 2, 3] rfl)
        | succ d => exact lp_M_cans (G := G) (d := d) (cd := cd) (tn := tn) (kn := kn) (tr := tr) (tu := tu) hx hb hts hown hml hK hR kont ih hmu hv htr hkn hP hD hS (lv_sub hl [0, 1, 2, 3] rfl)
      ·
        refine lv_aload_n hx hb d_M_canBeEmptied_69 rfl (lv_at hl 3 rfl) ?_
        refine lv_iload_n hx hb d_M_canBeEmptied_70 rfl (lv_at hl 0 rfl) ?_
        refine vp_callSi (W.runV (As := [.int (nI (cd d))]) (rest := []) ⟨hx, hb, hml, hown, hts⟩ (c_M_isEmpty l X (rU_st (rU_tu (rU_tr (rU_kn G kn) tr) tu) false) A (cd d) hR n1) (cwV 1 hts (gV (wd_3 22 rfl rfl) (wd_3 24 rfl rfl) (wd_s 17 rfl) (wd_1 6 rfl rfl) (wd_3 25 rfl rfl)) rfl rfl rfl ⟨rfl, hd_M_isEmpty⟩ ⟨Nat.le_of_ble_eq_true rfl, Nat.le_of_ble_eq_true rfl⟩) (vx_preV (P := QR X (rU_st (rU_tu (rU_tr (rU_kn G kn) tr) tu) false) A) hP hK (va_recv hK.1 hP (ci := 6) rfl rw_0)) rfl rfl hl.1 rfl (lv_room (Nat.le_of_ble_eq_true rfl)) d_M_canBeEmptied_71 ⟨Nat.zero_le _, Nat.zero_le _⟩) (fun r71 e71 => ?_)
        subst e71
        rw [show f_M_isEmpty A (cd d) = isE9 (envA A) (dig9 (cd d)) from em_9]
        refine lv_if_eq (tgt := 83) hx hb d_M_canBeEmptied_74 rfl (fun h74 => ?_) (fun h74 => ?_)
        ·
          have h74 := b2i_f h74
          cases d with
          | zero => exact lp_M_can0 (G := G) (cd := cd) (tn := tn) (kn := kn) (tr := tr) (tu := tu) hx hb hts hown hml hK hR kont ih hmu hv htr (Or.inr (Or.inr h74)) hP hD hS (lv_sub hl [0, 1, 2, 3] rfl)
          | succ d => exact lp_M_cans (G := G) (d := d) (cd := cd) (tn := tn) (kn := kn) (tr := tr) (tu := tu) hx hb hts hown hml hK hR kont ih hmu hv htr (Or.inr (Or.inr h74)) hP hD hS (lv_sub hl [0, 1, 2, 3] rfl)
        ·
          have h74 := b2i_t h74
          refine lv_aload_n hx hb d_M_canBeEmptied_77 rfl (lv_at hl 3 rfl) ?_
          refine lv_iload_n hx hb d_M_canBeEmptied_78 rfl (lv_at hl 0 rfl) ?_
          refine lv_iconst (v := 1) hx hb d_M_canBeEmptied_79 rfl ?_
          refine va_callv (va_runV (As := [.int (nI (cd d)), .int 1]) (rest := []) ⟨hx, hb, hml, hown, hts⟩ (c_M_know l X (rU_st (rU_tu (rU_tr (rU_kn G kn) tr) tu) false) A Af (cd d) 1 n1) (cwV 2 hts (gV (wd_3 29 rfl rfl) (wd_3 31 rfl rfl) (wd_s 18 rfl) (wd_1 6 rfl rfl) (wd_3 32 rfl rfl)) rfl rfl rfl ⟨rfl, hd_M_know⟩ ⟨Nat.le_of_ble_eq_true rfl, Nat.le_of_ble_eq_true rfl⟩) (vx_preV (P := QW X Af (rU_st (rU_tu (rU_tr (rU_kn G kn) tr) tu) false) A) ⟨hP, hD⟩ hK (va_recv hK.1 hP (ci := 6) rfl rw_0)) rfl rfl hl.1 rfl (lv_room (Nat.le_of_ble_eq_true rfl)) d_M_canBeEmptied_80 ⟨Nat.zero_le _, Nat.zero_le _⟩) hS (fun q _ h => h) (fun q h => h) (fun u80 t80 H locs ht hvm hu80 hB hz hk hS => ?_)
          obtain ⟨hP, hD⟩ := hB
          rw [ht] at hP
          subst hu80
          have hP : va_P X.1 classes (rw_ X (rU_kn (rU_st (rU_tu (rU_tr (rU_kn G kn) tr) tu) false) (knU kn (cd d) 1)) A) H := hP
          have hD : va_D Af (rw_ X (rU_kn (rU_st (rU_tu (rU_tr (rU_kn G kn) tr) tu) false) (knU kn (cd d) 1)) A) := hD
          obtain ⟨v1, v2⟩ := SV_empty hE hv h74
          cases d with
          | zero => exact lp_M_can0 (G := G) (cd := cd) (tn := tn) (kn := (knU kn (cd 0) 1)) (tr := tr) (tu := tu) hx hb hts hown hml hK hR kont ih (by have := mu_known (E := envA A) (tn := tn) (kv_0.mp h66).1 (kv_0.mp h66).2 (Or.inl v2); omega) v1 htr (Or.inl v2) hP hD hS (lv_sub hl [0, 1, 2, 3] rfl)
          | succ d => exact lp_M_cans (G := G) (d := d) (cd := cd) (tn := tn) (kn := (knU kn (cd (d + 1)) 1)) (tr := tr) (tu := tu) hx hb hts hown hml hK hR kont ih (by have := mu_known (E := envA A) (tn := tn) (kv_0.mp h66).1 (kv_0.mp h66).2 (Or.inl v2); omega) v1 htr (Or.inl v2) hP hD hS (lv_sub hl [0, 1, 2, 3] rfl)
set_option maxRecDepth 20000 in
set_option maxHeartbeats 4000000 in
theorem lp_M_can29 {p : Program} {l : Launch} {e : Env} {s : State} {m : MethodId} {args : Array Value} {below : List Frame} {meth : Method} {c : Code} {Q : State → Prop} {X : Xt} {G : Gr} {A : St} {Af : Nat → Prop} {a : Nat} (hx : p.tables.exec = Jvm.exec) (hb : c.code = b_M_canBeEmptied) (hts : ∀ w ∈ Cond.code y_M_canBeEmptied b_M_canBeEmptied 5 (some .boolean) :: WA, w.before args s = true) (hown : s.vm.findClass R_Model = some m.cls) (hml : c.maxLocals = 5) (hK : KK X s) (hR : rOk A) (ha : a < 59049) (hok : ok9 (envA A) (dig9 a)) (kont : ∀ (kn tr tu : Nat → Int32) (H : Heap) (locs : List Loc) (ls : Array Slot), KI (envA A) kn → (k1 kn a = true ∨ k2 kn a = true) → va_P X.1 classes (rw_ X (rU_st (rU_tu (rU_tr (rU_kn G kn) tr) tu) false) A) H → va_D Af (rw_ X (rU_st (rU_tu (rU_tr (rU_kn G kn) tr) tu) false) A) → va_S Af s.heap H locs → lv_has ls 5 [(1, .int (nI a)), (0, .ref (rA_ad G 0))] → W p l e rm_M_canBeEmptied s m args below meth c H locs 0 0 Q (F0 m 202 ls [])) {kn : Nat → Int32} {H : Heap} {locs : List Loc} {ls : Array Slot} (hki : KI (envA A) kn) (hP : va_P X.1 classes (rw_ X (rU_kn G kn) A) H) (hD : va_D Af (rw_ X (rU_kn G kn) A)) (hS : va_S Af s.heap H locs) (hl : lv_has ls 5 [(1, .int (nI a)), (0, .ref (rA_ad G 0))]) : W p l e rm_M_canBeEmptied s m args below meth c H locs 0 0 Q (F0 m 29 ls []) := by
  refine lv_aload_n hx hb d_M_canBeEmptied_29 rfl (lv_at hl 1 rfl) ?_
  refine lv_iconst (v := 0) hx hb d_M_canBeEmptied_30 rfl ?_
  refine va_put (D := X.1) (ci := 6) (v := .int (b2i false)) (ty := .boolean) (C := R_Model) (T := F_Model) (N := 24) hx hb hts hin_Model t_Model t_Model_ok n_Model hown hK.1 hP hD hS 0 rw_0 rfl 21 (by decide) (hts _ (wd_2 175 rfl rfl)) (fun _ h9 => h9) rfl (by decide +kernel) (b2i_nar _) (b2i_fit _) (Nat.le_of_ble_eq_true rfl) d_M_canBeEmptied_31 (fun H locs hP hD hS => ?_)
  replace hP := vx_P (rw_s_st (X := X) (G := (rU_kn G kn)) (A := A) (v := false)) hP
  replace hD := vx_D (rw_s_st (X := X) (G := (rU_kn G kn)) (A := A) (v := false)) hD
  refine lv_iconst (v := 0) hx hb d_M_canBeEmptied_34 rfl ?_
  refine lv_istore_n (lv' := [(2, .int 0), (1, .int (nI a)), (0, .ref (rA_ad G 0))]) hx hb d_M_canBeEmptied_35 rfl hl (by decide) rfl (fun ls hl => ?_)
  refine lv_aload_n hx hb d_M_canBeEmptied_36 rfl (lv_at hl 2 rfl) ?_
  refine va_get (D := X.1) (ci := 6) (C := R_Model) (T := F_Model) (N := 24) hx hb hts hin_Model hown hK.1 hP 0 rw_0 rfl 22 (by decide) (hts _ (wd_2 176 rfl rfl)) (fun _ h9 => h9) rfl d_M_canBeEmptied_37 ?_
  refine lv_iconst (v := 0) hx hb d_M_canBeEmptied_40 rfl ?_
  refine lv_iload_n hx hb d_M_canBeEmptied_41 rfl (lv_at hl 1 rfl) ?_
  refine va_iast hx hb hK.1 hP hD hS 16 0 rw_16 rfl (vp_in_nI (n := 0) (by omega) (by omega)) d_M_canBeEmptied_42 (fun H locs hP hD hS => ?_)
  rw [show (0 : Int32).toNatClampNeg = 0 from rfl] at hP hD
  replace hP := vx_P (rw_s_tr (X := X) (G := (rU_st (rU_kn G kn) false)) (A := A) (k := 0) (v := nI a)) hP
  replace hD := vx_D (rw_s_tr (X := X) (G := (rU_st (rU_kn G kn) false)) (A := A) (k := 0) (v := nI a)) hD
  refine lv_aload_n hx hb d_M_canBeEmptied_43 rfl (lv_at hl 2 rfl) ?_
  refine va_get (D := X.1) (ci := 6) (C := R_Model) (T := F_Model) (N := 24) hx hb hts hin_Model hown hK.1 hP 0 rw_0 rfl 23 (by decide) (hts _ (wd_2 177 rfl rfl)) (fun _ h9 => h9) rfl d_M_canBeEmptied_44 ?_
  refine lv_iconst (v := 0) hx hb d_M_canBeEmptied_47 rfl ?_
  refine lv_iconst (v := 0) hx hb d_M_canBeEmptied_48 rfl ?_
  refine va_iast hx hb hK.1 hP hD hS 17 0 rw_17 rfl (vp_in_nI (n := 0) (by omega) (by omega)) d_M_canBeEmptied_49 (fun H locs hP hD hS => ?_)
  rw [show (0 : Int32).toNatClampNeg = 0 from rfl] at hP hD
  replace hP := vx_P (rw_s_tu (X := X) (G := (rU_tr (rU_st (rU_kn G kn) false) (upd (rA_tr G) 0 (nI a)))) (A := A) (k := 0) (v := 0)) hP
  replace hD := vx_D (rw_s_tu (X := X) (G := (rU_tr (rU_st (rU_kn G kn) false) (upd (rA_tr G) 0 (nI a)))) (A := A) (k := 0) (v := 0)) hD
  exact lp_M_can (G := G) hx hb hts hown hml hK hR kont _ 0 (fun _ => a) (fun _ => 0) kn (upd (rA_tr G) 0 (nI a)) (upd (rA_tu G) 0 0) H locs ls (Nat.lt_succ_self _) (SV_0 hki ha hok (phi_9 hok)) trS_0 hP hD hS (lv_sub hl [0, 1, 2] rfl)
set_option maxRecDepth 20000 in
set_option maxHeartbeats 4000000 in
theorem lp_M_canA {p : Program} {l : Launch} {e : Env} {s : State} {m : MethodId} {args : Array Value} {below : List Frame} {meth : Method} {c : Code} {Q : State → Prop} {X : Xt} {G : Gr} {A : St} {Af : Nat → Prop} {a : Nat} (hx : p.tables.exec = Jvm.exec) (hb : c.code = b_M_canBeEmptied) (hts : ∀ w ∈ Cond.code y_M_canBeEmptied b_M_canBeEmptied 5 (some .boolean) :: WA, w.before args s = true) (hown : s.vm.findClass R_Model = some m.cls) (hml : c.maxLocals = 5) (hK : KK X s) (hR : rOk A) (hRR : RR G A) (ha : a < 59049) (hok : ok9 (envA A) (dig9 a)) (kont : ∀ (kn tr tu : Nat → Int32) (H : Heap) (locs : List Loc) (ls : Array Slot), KI (envA A) kn → (k1 kn a = true ∨ k2 kn a = true) → va_P X.1 classes (rw_ X (rU_st (rU_tu (rU_tr (rU_kn G kn) tr) tu) false) A) H → va_D Af (rw_ X (rU_st (rU_tu (rU_tr (rU_kn G kn) tr) tu) false) A) → va_S Af s.heap H locs → lv_has ls 5 [(1, .int (nI a)), (0, .ref (rA_ad G 0))] → W p l e rm_M_canBeEmptied s m args below meth c H locs 0 0 Q (F0 m 202 ls [])) {H : Heap} {locs : List Loc} {ls : Array Slot} (hP : va_P X.1 classes (rw_ X G A) H) (hD : va_D Af (rw_ X G A)) (hS : va_S Af s.heap H locs) (hl : lv_has ls 5 [(2, .int 0), (1, .int (nI a)), (0, .ref (rA_ad G 0))]) : W p l e rm_M_canBeEmptied s m args below meth c H locs 0 0 Q (F0 m 2 ls []) := by
  cases hst : rA_st G with
  | true =>
    refine lp_M_clear (G := G) hx hb hts hown hml hK hR hst (fun kn H locs ls hz0 hP hD hS hl => ?_) 3691 0 (rA_kn G) _ _ ls (by omega) (fun j hj => absurd hj (Nat.not_lt_zero _)) hP hD hS (lv_sub hl [0, 1, 2] rfl)
    exact lp_M_can29 (G := G) hx hb hts hown hml hK hR ha hok kont (KI_0 hz0) hP hD hS hl
  | false =>
    have hki : KI (envA A) (rA_kn G) := hRR.resolve_left (nt_of hst)
    refine lv_iload_n hx hb d_M_canBeEmptied_2 rfl (lv_at hl 0 rfl) ?_
    refine lv_sipush (v := 3691) hx hb d_M_canBeEmptied_3 rfl ?_
    refine lv_icmp_ge (tgt := 29) hx hb d_M_canBeEmptied_6 rfl (fun h6 => ?_) (fun h6 => ?_)
    ·
      exact absurd h6 (by decide)
    ·
      refine lv_aload_n hx hb d_M_canBeEmptied_9 rfl (lv_at hl 2 rfl) ?_
      refine va_get (D := X.1) (ci := 6) (C := R_Model) (T := F_Model) (N := 24) hx hb hts hin_Model hown hK.1 hP 0 rw_0 rfl 21 (by decide) (hts _ (wd_2 175 rfl rfl)) (fun _ h9 => h9) rfl d_M_canBeEmptied_10 ?_
      refine lv_if_eq (tgt := 29) hx hb d_M_canBeEmptied_13 rfl (fun h13 => ?_) (fun h13 => ?_)
      ·
        have h13 := b2i_f h13
        exact lp_M_can29 (G := G) (kn := rA_kn G) hx hb hts hown hml hK hR ha hok kont hki hP hD hS (lv_sub hl [1, 2] rfl)
      ·
        have h13 := b2i_t h13
        exact absurd h13 (nt_of hst)
set_option maxRecDepth 20000 in
set_option maxHeartbeats 4000000 in
theorem c_M_canBeEmptied (l : Launch) (X : Xt) (G : Gr) (A : St) (Af : Nat → Prop) (a : Nat) (hR : rOk A) (hRR : RR G A) (ha : a < 59049) (hok : ok9 (envA A) (dig9 a)) : Met l y_M_canBeEmptied (Cond.code y_M_canBeEmptied b_M_canBeEmptied 5 (some .boolean) :: WA) rm_M_canBeEmptied (va_Pc [.ref (rA_ad G 0), .int (nI a)] (fun U => QW X Af G A U.heap ∧ KK X U)) (va_Qi (CB G A a) (atR X Af) Af) 0 0 Af := by
  refine vx_met (cc := b_M_canBeEmptied) (maxL := 5) (ret := (some .boolean)) (by decide) rfl (Nat.le_of_ble_eq_true rfl) ?_
  intro p e s m below meth c ls hx hb hrt hts hown hlocks hname hml hB hl
  obtain ⟨hP, hK⟩ := hB
  have hown : s.vm.findClass R_Model = some m.cls := hown
  have hl : lv_has ls 5 [(0, .ref (rA_ad G 0)), (1, .int (nI a))] := hl
  have hD : va_D Af (rw_ X G A) := hP.2
  have hP : va_P X.1 classes (rw_ X G A) s.heap := hP.1
  have hS : va_S Af s.heap s.heap [] := va_S.rf
  refine lv_iconst (v := 0) hx hb d_M_canBeEmptied_0 rfl ?_
  refine lv_istore_n (lv' := [(2, .int 0), (0, .ref (rA_ad G 0)), (1, .int (nI a))]) hx hb d_M_canBeEmptied_1 rfl hl (by decide) rfl (fun ls hl => ?_)
  refine lp_M_canA (G := G) (A := A) (Af := Af) hx hb hts hown hml hK hR hRR ha hok (fun kn tr tu H locs ls hki hkk hP hD hS hl => ?_) hP hD hS (lv_sub hl [0, 2, 1] rfl)
  refine lv_aload_n hx hb d_M_canBeEmptied_202 rfl (lv_at hl 1 rfl) ?_
  refine lv_iload_n hx hb d_M_canBeEmptied_203 rfl (lv_at hl 0 rfl) ?_
  refine vp_callSi (W.runV (As := [.int (nI a)]) (rest := []) ⟨hx, hb, hml, hown, hts⟩ (c_M_knownOf l X (rU_st (rU_tu (rU_tr (rU_kn G kn) tr) tu) false) A a ha) (cwV 1 hts (gV (wd_3 18 rfl rfl) (wd_3 20 rfl rfl) (wd_s 16 rfl) (wd_1 6 rfl rfl) (wd_3 21 rfl rfl)) rfl rfl rfl ⟨rfl, hd_M_knownOf⟩ ⟨Nat.le_of_ble_eq_true rfl, Nat.le_of_ble_eq_true rfl⟩) (vx_preV (P := QR X (rU_st (rU_tu (rU_tr (rU_kn G kn) tr) tu) false) A) hP hK (va_recv hK.1 hP (ci := 6) rfl rw_0)) rfl rfl hl.1 rfl (lv_room (Nat.le_of_ble_eq_true rfl)) d_M_canBeEmptied_204 ⟨Nat.zero_le _, Nat.zero_le _⟩) (fun r204 e204 => ?_)
  subst e204
  rw [show f_M_knownOf (rU_st (rU_tu (rU_tr (rU_kn G kn) tr) tu) false) a = nI (kvN (k1 kn a) (k2 kn a)) from rfl]
  refine lv_iconst (v := 1) hx hb d_M_canBeEmptied_207 rfl ?_
  refine lv_icmp_ne (tgt := 215) hx hb d_M_canBeEmptied_208 rfl (fun h208 => ?_) (fun h208 => ?_)
  ·
    refine lv_iconst (v := 0) hx hb d_M_canBeEmptied_215 rfl ?_
    exact W.zret (v := b2i false) hx hb hrt (b2i_nar _) (fun t ht hW => ⟨⟨_, ((rU_st (rU_tu (rU_tr (rU_kn G kn) tr) tu) false), A), rfl, ⟨by rw [(hki a ha hok).2 (k_not1 hkk h208)], kn, tr, tu, hki, rfl⟩, ⟨by rw [ht]; exact hP, hD⟩⟩, hS.F ht⟩) hS.2.2 d_M_canBeEmptied_216
  ·
    refine lv_iconst (v := 1) hx hb d_M_canBeEmptied_211 rfl ?_
    refine lv_goto (tgt := 216) hx hb d_M_canBeEmptied_212 rfl ?_
    exact W.zret (v := b2i true) hx hb hrt (b2i_nar _) (fun t ht hW => ⟨⟨_, ((rU_st (rU_tu (rU_tr (rU_kn G kn) tr) tu) false), A), rfl, ⟨by rw [(hki a ha hok).1 (kv_1.mp h208).1], kn, tr, tu, hki, rfl⟩, ⟨by rw [ht]; exact hP, hD⟩⟩, hS.F ht⟩) hS.2.2 d_M_canBeEmptied_216
