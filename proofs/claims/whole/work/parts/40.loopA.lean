abbrev rm_T_situation : Room := { frames := 2, cells := 0, slots := 0, locals := 43 }
def f_T_situation (A : St) : Int32 := nI (enc (SA A))
set_option maxRecDepth 20000 in
set_option maxHeartbeats 4000000 in
theorem lp_T_situation {p : Program} {l : Launch} {e : Env} {s : State} {m : MethodId} {args : Array Value} {below : List Frame} {meth : Method} {c : Code} {Q : State → Prop} {X : Xt} {G : Gc} {A : St} (hx : p.tables.exec = Jvm.exec) (hb : c.code = b_T_situation) (hts : ∀ w ∈ Cond.code y_T_situation b_T_situation 4 (some .int) :: WA, w.before args s = true) (hown : s.vm.findClass R_ClusterTool = some m.cls) (hml : c.maxLocals = 4) (hK : KK X s) (hI : Inv A) (hC : RC G A) (hP : va_P X.1 classes (cw X G A) s.heap)
    (kont : ∀ ls : Array Slot, lv_has ls 4 [(1, .int (nI (enc (SA A))))] → W p l e rm_T_situation s m args below meth c s.heap [] 0 0 Q (F0 m 55 ls [])) :
    ∀ (r q : Nat) (ls : Array Slot), q + r = 5 → lv_has ls 4 [(1, .int (nI (enc (parS (SA A) q)))), (2, .int (nI q)), (0, .ref (gA_ad G 0))] → W p l e rm_T_situation s m args below meth c s.heap [] 0 0 Q (F0 m 4 ls []) := by
  have hn := hI.1
  intro r
  induction r with
  | zero =>
    intro q ls hq hl
    have hq : q = 5 := by omega
    subst hq
    refine lv_iload_n hx hb d_T_situation_4 rfl (lv_at hl 1 rfl) ?_
    refine lv_iconst (v := 4) hx hb d_T_situation_5 rfl ?_
    refine lv_icmp_gt (tgt := 55) hx hb d_T_situation_6 rfl (fun h6 => ?_) (fun h6 => ?_)
    ·
      exact kont ls (by rw [par_5 SA_5] at hl; exact lv_sub hl [0] rfl)
    ·
      exact absurd (by decide) h6
  | succ r ih =>
    intro q ls hq hl
    refine lv_iload_n hx hb d_T_situation_4 rfl (lv_at hl 1 rfl) ?_
    refine lv_iconst (v := 4) hx hb d_T_situation_5 rfl ?_
    refine lv_icmp_gt (tgt := 55) hx hb d_T_situation_6 rfl (fun h6 => ?_) (fun h6 => ?_)
    ·
      exact absurd h6 (nI_nlt (a := 4) (b := q) (by omega) (by omega))
    ·
      refine lv_aload_n hx hb d_T_situation_9 rfl (lv_at hl 2 rfl) ?_
      refine lv_aload_n hx hb d_T_situation_10 rfl (lv_at hl 2 rfl) ?_
      refine va_get (D := X.1) (ci := 0) (C := R_ClusterTool) (T := F_ClusterTool) (N := 8) hx hb hts hin_ClusterTool hown hK.1 hP 0 cw_0 rfl 5 (by decide) (hts _ (wd_1 90 rfl rfl)) (fun _ h9 => h9) rfl d_T_situation_11 ?_
      refine lv_iload_n hx hb d_T_situation_14 rfl (lv_at hl 1 rfl) ?_
      refine va_iald hx hb hK.1 hP 6 0 cw_6 rfl (vp_in_nI (n := q) (by omega) (by omega)) d_T_situation_15 ?_
      rw [nI_clamp (n := q) (by omega)]
      refine va_csq (W.runV (As := [.int (gA_ins G q)]) (rest := []) ⟨hx, hb, hml, hown, hts⟩ (c_T_waferOf l X G A (gA_ins G q) hn) (cwV 1 hts (gV (wd_1 180 rfl rfl) (wd_1 182 rfl rfl) (wd_s 0 rfl) (wd_1 1 rfl rfl) (wd_1 183 rfl rfl)) rfl rfl rfl ⟨rfl, hd_T_waferOf⟩ ⟨Nat.le_of_ble_eq_true rfl, Nat.le_of_ble_eq_true rfl⟩) (vx_preV (P := PR X G A) hP hK (va_recv hK.1 hP (ci := 0) rfl cw_0)) rfl rfl hl.1 rfl (lv_room (Nat.le_of_ble_eq_true rfl)) d_T_situation_16 ⟨Nat.zero_le _, Nat.zero_le _⟩) (fun r16 e16 => ?_)
      cases q16 : f_T_waferOf A (gA_ins G q) with
      | none =>
        have e16 : r16 = none := by rw [e16, q16]; rfl
        subst e16
        refine lv_astore_nN (lv' := [(3, .null), (1, .int (nI (enc (parS (SA A) q)))), (2, .int (nI q)), (0, .ref (gA_ad G 0))]) hx hb d_T_situation_19 rfl hl (by decide) rfl (fun ls hl => ?_)
        refine lv_aload_nN hx hb d_T_situation_20 rfl (lv_at hl 0 rfl) ?_
        refine lv_ifnullN (tgt := 49) hx hb d_T_situation_21 rfl ?_
        refine lv_iinc (k := 2) (v := (nI q + 1)) (lv' := [(2, .int (nI q + 1)), (3, .null), (1, .int (nI (enc (parS (SA A) q)))), (0, .ref (gA_ad G 0))]) hx hb d_T_situation_49 hl rfl rfl (by decide) rfl (fun ls hl => ?_)
        refine lv_goto (tgt := 4) hx hb d_T_situation_52 rfl ?_
        exact ih (q + 1) ls (by omega) (by rw [par_z (SA_none hI hC (by omega) q16), ← nI_1]; exact lv_sub hl [2, 0, 3] rfl)
      | some i16 =>
        have e16 : r16 = some (gA_ad G (18 + 4 * i16)) := by rw [e16, q16]; rfl
        subst e16
        have hli16 := waferOf_lt hn q16
        refine lv_astore_n (lv' := [(3, .ref (gA_ad G (18 + 4 * i16))), (1, .int (nI (enc (parS (SA A) q)))), (2, .int (nI q)), (0, .ref (gA_ad G 0))]) hx hb d_T_situation_19 rfl hl (by decide) rfl (fun ls hl => ?_)
        refine lv_aload_n hx hb d_T_situation_20 rfl (lv_at hl 0 rfl) ?_
        refine lv_ifnull hx hb d_T_situation_21 ?_
        refine lv_aload_n hx hb d_T_situation_24 rfl (lv_at hl 3 rfl) ?_
        refine va_get (D := X.1) (ci := 0) (C := R_ClusterTool) (T := F_ClusterTool) (N := 8) hx hb hts hin_ClusterTool hown hK.1 hP 0 cw_0 rfl 0 (by decide) (hts _ (wd_1 85 rfl rfl)) (fun _ h9 => h9) rfl d_T_situation_25 ?_
        refine lv_iload_n hx hb d_T_situation_28 rfl (lv_at hl 2 rfl) ?_
        refine vp_callSi (W.runV (As := [.int (nI q)]) (rest := []) ⟨hx, hb, hml, hown, hts⟩ (c_Y_isDown l X G A (nI q)) (cwV 1 hts (gV (wd_1 225 rfl rfl) (wd_1 190 rfl rfl) (wd_1 191 rfl rfl) (wd_1 2 rfl rfl) (wd_1 192 rfl rfl)) rfl rfl rfl ⟨rfl, hd_Y_isDown⟩ ⟨Nat.le_of_ble_eq_true rfl, Nat.le_of_ble_eq_true rfl⟩) (vx_preV (P := PR X G A) hP hK (va_recv hK.1 hP (ci := 1) rfl cw_1)) rfl rfl hl.1 rfl (lv_room (Nat.le_of_ble_eq_true rfl)) d_T_situation_29 ⟨Nat.zero_le _, Nat.zero_le _⟩) (fun r29 e29 => ?_)
        subst e29
        refine lv_if_ne (tgt := 49) hx hb d_T_situation_32 rfl (fun h32 => ?_) (fun h32 => ?_)
        ·
          have h32 := b2i_t h32
          refine lv_iinc (k := 2) (v := (nI q + 1)) (lv' := [(2, .int (nI q + 1)), (3, .ref (gA_ad G (18 + 4 * i16))), (1, .int (nI (enc (parS (SA A) q)))), (0, .ref (gA_ad G 0))]) hx hb d_T_situation_49 hl rfl rfl (by decide) rfl (fun ls hl => ?_)
          refine lv_goto (tgt := 4) hx hb d_T_situation_52 rfl ?_
          exact ih (q + 1) ls (by omega) (by rw [par_z (SA_dn hI (by omega) h32), ← nI_1]; exact lv_sub hl [2, 0, 3] rfl)
        ·
          have h32 := b2i_f h32
          refine lv_iload_n hx hb d_T_situation_35 rfl (lv_at hl 1 rfl) ?_
          refine lv_iload_n hx hb d_T_situation_36 rfl (lv_at hl 2 rfl) ?_
          refine lv_aload_n hx hb d_T_situation_37 rfl (lv_at hl 0 rfl) ?_
          refine va_getN (D := X.1) (ci := 5) (C := R_Wafer) (T := F_Wafer) (N := 10) hx hb hts hin_Wafer hown hK.1 hP (18 + 4 * i16) (cw_w hli16) rfl 0 (by decide) (va_Nw.use rfl (hK.2.1 _ (List.mem_of_getElem? (i := 8) rfl))) (fun _ h9 => h9) rfl d_T_situation_38 ?_
          refine lv_aload_n hx hb d_T_situation_41 rfl (lv_at hl 0 rfl) ?_
          refine va_getN (D := X.1) (ci := 5) (C := R_Wafer) (T := F_Wafer) (N := 10) hx hb hts hin_Wafer hown hK.1 hP (18 + 4 * i16) (cw_w hli16) rfl 5 (by decide) (va_Nw.use rfl (hK.2.1 _ (List.mem_of_getElem? (i := 13) rfl))) (fun _ h9 => h9) rfl d_T_situation_42 ?_
          refine vp_callSi (W.runS (As := [.int (nI (enc (parS (SA A) q))), .int (nI q), .int (nI (sA_rt A i16)), .int (nI (sA_sg A i16))]) (rest := []) ⟨hx, hb, hml, hown, hts⟩ (c_S_with l X (nI (enc (parS (SA A) q))) (nI q) (nI (sA_rt A i16)) (nI (sA_sg A i16))) (va_cwS 4 hts (gT (wd_1 226 rfl rfl) (wd_1 227 rfl rfl) (wd_1 8 rfl rfl) (wd_1 228 rfl rfl)) rfl rfl rfl hd_S_with ⟨Nat.le_of_ble_eq_true rfl, Nat.le_of_ble_eq_true rfl⟩) (vx_preS (P := fun _ => True) trivial hK) rfl rfl hl.1 rfl (lv_room (Nat.le_of_ble_eq_true rfl)) d_T_situation_45 ⟨Nat.zero_le _, Nat.zero_le _⟩) (fun r45 e45 => ?_)
          subst e45
          refine lv_istore_n (lv' := [(1, .int (f_S_with (nI (enc (parS (SA A) q))) (nI q) (nI (sA_rt A i16)) (nI (sA_sg A i16)))), (3, .ref (gA_ad G (18 + 4 * i16))), (2, .int (nI q)), (0, .ref (gA_ad G 0))]) hx hb d_T_situation_48 rfl hl (by decide) rfl (fun ls hl => ?_)
          refine lv_iinc (k := 2) (v := (nI q + 1)) (lv' := [(2, .int (nI q + 1)), (1, .int (f_S_with (nI (enc (parS (SA A) q))) (nI q) (nI (sA_rt A i16)) (nI (sA_sg A i16)))), (3, .ref (gA_ad G (18 + 4 * i16))), (0, .ref (gA_ad G 0))]) hx hb d_T_situation_49 hl rfl rfl (by decide) rfl (fun ls hl => ?_)
          refine lv_goto (tgt := 4) hx hb d_T_situation_52 rfl ?_
          exact ih (q + 1) ls (by omega) (by rw [← sit_with hI (by omega) h32 hli16 (SA_some hI hC (by omega) q16).2.2.1, ← nI_1]; exact lv_sub hl [1, 0, 3] rfl)
set_option maxRecDepth 20000 in
set_option maxHeartbeats 4000000 in
theorem c_T_situation (l : Launch) (X : Xt) (G : Gc) (A : St) (hI : Inv A) (hC : RC G A) : Met l y_T_situation (Cond.code y_T_situation b_T_situation 4 (some .int) :: WA) rm_T_situation (va_Pc [.ref (gA_ad G 0)] (fun U => PR X G A U.heap ∧ KK X U)) (vp_Si (fun ans => ans = f_T_situation A)) 0 0 (fun _ => False) := by
  refine vx_met (cc := b_T_situation) (maxL := 4) (ret := (some .int)) (by decide) rfl (Nat.le_of_ble_eq_true rfl) ?_
  intro p e s m below meth c ls hx hb hrt hts hown hlocks hname hml hB hl
  obtain ⟨hP, hK⟩ := hB
  have hown : s.vm.findClass R_ClusterTool = some m.cls := hown
  have hl : lv_has ls 4 [(0, .ref (gA_ad G 0))] := hl
  have hP : va_P X.1 classes (cw X G A) s.heap := hP
  refine lv_iconst (v := 0) hx hb d_T_situation_0 rfl ?_
  refine lv_istore_n (lv' := [(1, .int 0), (0, .ref (gA_ad G 0))]) hx hb d_T_situation_1 rfl hl (by decide) rfl (fun ls hl => ?_)
  refine lv_iconst (v := 0) hx hb d_T_situation_2 rfl ?_
  refine lv_istore_n (lv' := [(2, .int 0), (1, .int 0), (0, .ref (gA_ad G 0))]) hx hb d_T_situation_3 rfl hl (by decide) rfl (fun ls hl => ?_)
  refine lp_T_situation (G := G) (A := A) hx hb hts hown hml hK hI hC hP (fun ls hl => ?_) 5 0 ls (by omega) (by rw [par_0]; exact lv_sub hl [1, 0, 2] rfl)
  refine lv_iload_n hx hb d_T_situation_55 rfl (lv_at hl 0 rfl) ?_
  exact W.iret (v := nI (enc (SA A))) hx hb hrt (fun t ht hW => ⟨_, rfl, rfl, ht⟩) (fun q h => by cases h) d_T_situation_56
abbrev rm_T_situationAfter : Room := { frames := 3, cells := 0, slots := 0, locals := 66 }
def f_T_situationAfter (A : St) (i : Nat) (x : Int32) : Int32 :=
  f_S_after (f_T_situation A) (nI (sA_rt A i)) (nI (sA_sg A i)) (nI (sA_pl A i)) x
set_option maxRecDepth 20000 in
set_option maxHeartbeats 4000000 in
theorem c_T_situationAfter (l : Launch) (X : Xt) (G : Gc) (A : St) (i : Nat) (hi : i < sA_n A) (x : Int32) (hI : Inv A) (hC : RC G A) : Met l y_T_situationAfter (Cond.code y_T_situationAfter b_T_situationAfter 3 (some .int) :: WA) rm_T_situationAfter (va_Pc [.ref (gA_ad G 0), .ref (gA_ad G (18 + 4 * i)), .int x] (fun U => PR X G A U.heap ∧ KK X U)) (vp_Si (fun ans => ans = f_T_situationAfter A i x)) 0 0 (fun _ => False) := by
  refine vx_met (cc := b_T_situationAfter) (maxL := 3) (ret := (some .int)) (by decide) rfl (Nat.le_of_ble_eq_true rfl) ?_
  intro p e s m below meth c ls hx hb hrt hts hown hlocks hname hml hB hl
  obtain ⟨hP, hK⟩ := hB
  have hown : s.vm.findClass R_ClusterTool = some m.cls := hown
  have hl : lv_has ls 3 [(0, .ref (gA_ad G 0)), (1, .ref (gA_ad G (18 + 4 * i))), (2, .int x)] := hl
  have hP : va_P X.1 classes (cw X G A) s.heap := hP
  refine lv_aload_n hx hb d_T_situationAfter_0 rfl (lv_at hl 0 rfl) ?_
  refine vp_callSi (W.runV (As := []) (rest := []) ⟨hx, hb, hml, hown, hts⟩ (c_T_situation l X G A hI hC) (cwV 0 hts (gV (wd_1 221 rfl rfl) (wd_1 223 rfl rfl) (wd_s 4 rfl) (wd_1 1 rfl rfl) (wd_1 224 rfl rfl)) rfl rfl rfl ⟨rfl, hd_T_situation⟩ ⟨Nat.le_of_ble_eq_true rfl, Nat.le_of_ble_eq_true rfl⟩) (vx_preV (P := PR X G A) hP hK (va_recv hK.1 hP (ci := 0) rfl cw_0)) rfl rfl hl.1 rfl (lv_room (Nat.le_of_ble_eq_true rfl)) d_T_situationAfter_1 ⟨Nat.zero_le _, Nat.zero_le _⟩) (fun r1 e1 => ?_)
  subst e1
  refine lv_aload_n hx hb d_T_situationAfter_4 rfl (lv_at hl 1 rfl) ?_
  refine va_getN (D := X.1) (ci := 5) (C := R_Wafer) (T := F_Wafer) (N := 10) hx hb hts hin_Wafer hown hK.1 hP (18 + 4 * i) (cw_w hi) rfl 0 (by decide) (va_Nw.use rfl (hK.2.1 _ (List.mem_of_getElem? (i := 8) rfl))) (fun _ h9 => h9) rfl d_T_situationAfter_5 ?_
  refine lv_aload_n hx hb d_T_situationAfter_8 rfl (lv_at hl 1 rfl) ?_
  refine va_getN (D := X.1) (ci := 5) (C := R_Wafer) (T := F_Wafer) (N := 10) hx hb hts hin_Wafer hown hK.1 hP (18 + 4 * i) (cw_w hi) rfl 5 (by decide) (va_Nw.use rfl (hK.2.1 _ (List.mem_of_getElem? (i := 13) rfl))) (fun _ h9 => h9) rfl d_T_situationAfter_9 ?_
  refine lv_aload_n hx hb d_T_situationAfter_12 rfl (lv_at hl 1 rfl) ?_
  refine va_getN (D := X.1) (ci := 5) (C := R_Wafer) (T := F_Wafer) (N := 10) hx hb hts hin_Wafer hown hK.1 hP (18 + 4 * i) (cw_w hi) rfl 4 (by decide) (va_Nw.use rfl (hK.2.1 _ (List.mem_of_getElem? (i := 12) rfl))) (fun _ h9 => h9) rfl d_T_situationAfter_13 ?_
  refine lv_iload_n hx hb d_T_situationAfter_16 rfl (lv_at hl 2 rfl) ?_
  refine vp_callSi (W.runS (As := [.int (f_T_situation A), .int (nI (sA_rt A i)), .int (nI (sA_sg A i)), .int (nI (sA_pl A i)), .int x]) (rest := []) ⟨hx, hb, hml, hown, hts⟩ (c_S_after l X (f_T_situation A) (nI (sA_rt A i)) (nI (sA_sg A i)) (nI (sA_pl A i)) x) (va_cwS 5 hts (gT (wd_1 229 rfl rfl) (wd_1 230 rfl rfl) (wd_1 8 rfl rfl) (wd_1 231 rfl rfl)) rfl rfl rfl hd_S_after ⟨Nat.le_of_ble_eq_true rfl, Nat.le_of_ble_eq_true rfl⟩) (vx_preS (P := fun _ => True) trivial hK) rfl rfl hl.1 rfl (lv_room (Nat.le_of_ble_eq_true rfl)) d_T_situationAfter_17 ⟨Nat.zero_le _, Nat.zero_le _⟩) (fun r17 e17 => ?_)
  subst e17
  exact W.iret (v := f_S_after (f_T_situation A) (nI (sA_rt A i)) (nI (sA_sg A i)) (nI (sA_pl A i)) x) hx hb hrt (fun t ht hW => ⟨_, rfl, by rw [f_T_situationAfter], ht⟩) (fun q h => by cases h) d_T_situationAfter_20
abbrev rm_T_countFinished : Room := { frames := 2, cells := 0, slots := 0, locals := 43 }
def f_T_countFinished (G : Gc) (A : St) : Int32 := nI (cnt (gA_fi G) (sA_n A))
set_option maxRecDepth 20000 in
set_option maxHeartbeats 4000000 in
theorem lp_T_countFinished {p : Program} {l : Launch} {e : Env} {s : State} {m : MethodId} {args : Array Value} {below : List Frame} {meth : Method} {c : Code} {Q : State → Prop} {X : Xt} {G : Gc} {A : St} (hx : p.tables.exec = Jvm.exec) (hb : c.code = b_T_countFinished) (hts : ∀ w ∈ Cond.code y_T_countFinished b_T_countFinished 4 (some .int) :: WA, w.before args s = true) (hown : s.vm.findClass R_ClusterTool = some m.cls) (hml : c.maxLocals = 4) (hK : KK X s) (hn : sA_n A ≤ 25) (hP : va_P X.1 classes (cw X G A) s.heap)
    (kont : ∀ ls : Array Slot, lv_has ls 4 [(1, .int (nI (cnt (gA_fi G) (sA_n A))))] → W p l e rm_T_countFinished s m args below meth c s.heap [] 0 0 Q (F0 m 43 ls [])) :
    ∀ (r i : Nat) (ls : Array Slot), i + r = sA_n A → lv_has ls 4 [(1, .int (nI (cnt (gA_fi G) i))), (2, .int (nI i)), (0, .ref (gA_ad G 0))] → W p l e rm_T_countFinished s m args below meth c s.heap [] 0 0 Q (F0 m 4 ls []) := by
  intro r
  induction r with
  | zero =>
    intro i ls hi hl
    have hi : i = sA_n A := by omega
    subst hi
    refine lv_iload_n hx hb d_T_countFinished_4 rfl (lv_at hl 1 rfl) ?_
    refine lv_aload_n hx hb d_T_countFinished_5 rfl (lv_at hl 2 rfl) ?_
    refine va_get (D := X.1) (ci := 0) (C := R_ClusterTool) (T := F_ClusterTool) (N := 8) hx hb hts hin_ClusterTool hown hK.1 hP 0 cw_0 rfl 6 (by decide) (hts _ (wd_1 91 rfl rfl)) (fun _ h9 => h9) rfl d_T_countFinished_6 ?_
    refine lv_icmp_ge (tgt := 43) hx hb d_T_countFinished_9 rfl (fun h9 => ?_) (fun h9 => ?_)
    ·
      exact kont ls (lv_sub hl [0] rfl)
    ·
      exact absurd (nI_le (Nat.le_refl _) (by omega)) h9
  | succ r ih =>
    intro i ls hi hl
    have hin : i < sA_n A := by omega
    refine lv_iload_n hx hb d_T_countFinished_4 rfl (lv_at hl 1 rfl) ?_
    refine lv_aload_n hx hb d_T_countFinished_5 rfl (lv_at hl 2 rfl) ?_
    refine va_get (D := X.1) (ci := 0) (C := R_ClusterTool) (T := F_ClusterTool) (N := 8) hx hb hts hin_ClusterTool hown hK.1 hP 0 cw_0 rfl 6 (by decide) (hts _ (wd_1 91 rfl rfl)) (fun _ h9 => h9) rfl d_T_countFinished_6 ?_
    refine lv_icmp_ge (tgt := 43) hx hb d_T_countFinished_9 rfl (fun h9 => ?_) (fun h9 => ?_)
    ·
      exact absurd h9 (nI_ge hin (by omega))
    ·
      refine lv_aload_n hx hb d_T_countFinished_12 rfl (lv_at hl 2 rfl) ?_
      refine lv_iload_n hx hb d_T_countFinished_13 rfl (lv_at hl 1 rfl) ?_
      refine va_csq (W.runV (As := [.int (nI i)]) (rest := []) ⟨hx, hb, hml, hown, hts⟩ (c_T_waferOf l X G A (nI i) hn) (cwV 1 hts (gV (wd_1 180 rfl rfl) (wd_1 182 rfl rfl) (wd_s 0 rfl) (wd_1 1 rfl rfl) (wd_1 183 rfl rfl)) rfl rfl rfl ⟨rfl, hd_T_waferOf⟩ ⟨Nat.le_of_ble_eq_true rfl, Nat.le_of_ble_eq_true rfl⟩) (vx_preV (P := PR X G A) hP hK (va_recv hK.1 hP (ci := 0) rfl cw_0)) rfl rfl hl.1 rfl (lv_room (Nat.le_of_ble_eq_true rfl)) d_T_countFinished_14 ⟨Nat.zero_le _, Nat.zero_le _⟩) (fun r14 e14 => ?_)
      cases q14 : f_T_waferOf A (nI i) with
      | none =>
        have e14 : r14 = none := by rw [e14, q14]; rfl
        subst e14
        exact absurd (waferOf_nI hn hin) (by rw [q14]; exact fun z => by cases z)
      | some i14 =>
        have e14 : r14 = some (gA_ad G (18 + 4 * i14)) := by rw [e14, q14]; rfl
        subst e14
        have hli14 := waferOf_lt hn q14
        have ei : i = i14 := Option.some.inj ((waferOf_nI hn hin).symm.trans q14)
        subst ei
        refine lv_astore_n (lv' := [(3, .ref (gA_ad G (18 + 4 * i))), (1, .int (nI (cnt (gA_fi G) i))), (2, .int (nI i)), (0, .ref (gA_ad G 0))]) hx hb d_T_countFinished_17 rfl hl (by decide) rfl (fun ls hl => ?_)
        refine lv_iload_n hx hb d_T_countFinished_18 rfl (lv_at hl 1 rfl) ?_
        refine lv_aload_n hx hb d_T_countFinished_19 rfl (lv_at hl 0 rfl) ?_
        refine lv_ifnull hx hb d_T_countFinished_20 ?_
        refine lv_aload_n hx hb d_T_countFinished_23 rfl (lv_at hl 0 rfl) ?_
        refine va_getN (D := X.1) (ci := 5) (C := R_Wafer) (T := F_Wafer) (N := 10) hx hb hts hin_Wafer hown hK.1 hP (18 + 4 * i) (cw_w hli14) rfl 8 (by decide) (va_Nw.use rfl (hK.2.1 _ (List.mem_of_getElem? (i := 16) rfl))) (fun _ h9 => h9) rfl d_T_countFinished_24 ?_
        refine lv_if_eq (tgt := 34) hx hb d_T_countFinished_27 rfl (fun h27 => ?_) (fun h27 => ?_)
        ·
          have h27 := b2i_f h27
          refine lv_iconst (v := 0) hx hb d_T_countFinished_34 rfl ?_
          refine lv_iadd hx hb d_T_countFinished_35 ?_
          rw [Int32.add_zero]
          refine lv_istore_n (lv' := [(1, .int (nI (cnt (gA_fi G) i))), (3, .ref (gA_ad G (18 + 4 * i))), (2, .int (nI i)), (0, .ref (gA_ad G 0))]) hx hb d_T_countFinished_36 rfl hl (by decide) rfl (fun ls hl => ?_)
          refine lv_iinc (k := 2) (v := (nI i + 1)) (lv' := [(2, .int (nI i + 1)), (1, .int (nI (cnt (gA_fi G) i))), (3, .ref (gA_ad G (18 + 4 * i))), (0, .ref (gA_ad G 0))]) hx hb d_T_countFinished_37 hl rfl rfl (by decide) rfl (fun ls hl => ?_)
          refine lv_goto (tgt := 4) hx hb d_T_countFinished_40 rfl ?_
          exact ih (i + 1) ls (by omega) (by unfold cnt; rw [if_neg (nt_of h27), Nat.add_zero, ← nI_1 i]; exact lv_sub hl [1, 0, 3] rfl)
        ·
          have h27 := b2i_t h27
          refine lv_iconst (v := 1) hx hb d_T_countFinished_30 rfl ?_
          refine lv_goto (tgt := 35) hx hb d_T_countFinished_31 rfl ?_
          refine lv_iadd hx hb d_T_countFinished_35 ?_
          refine lv_istore_n (lv' := [(1, .int ((nI (cnt (gA_fi G) i)) + 1)), (3, .ref (gA_ad G (18 + 4 * i))), (2, .int (nI i)), (0, .ref (gA_ad G 0))]) hx hb d_T_countFinished_36 rfl hl (by decide) rfl (fun ls hl => ?_)
          refine lv_iinc (k := 2) (v := (nI i + 1)) (lv' := [(2, .int (nI i + 1)), (1, .int ((nI (cnt (gA_fi G) i)) + 1)), (3, .ref (gA_ad G (18 + 4 * i))), (0, .ref (gA_ad G 0))]) hx hb d_T_countFinished_37 hl rfl rfl (by decide) rfl (fun ls hl => ?_)
          refine lv_goto (tgt := 4) hx hb d_T_countFinished_40 rfl ?_
          exact ih (i + 1) ls (by omega) (by unfold cnt; rw [if_pos h27, ← nI_1 i, ← nI_1 (cnt (gA_fi G) i)]; exact lv_sub hl [1, 0, 3] rfl)
set_option maxRecDepth 20000 in
set_option maxHeartbeats 4000000 in
theorem c_T_countFinished (l : Launch) (X : Xt) (G : Gc) (A : St) (hn : sA_n A ≤ 25) : Met l y_T_countFinished (Cond.code y_T_countFinished b_T_countFinished 4 (some .int) :: WA) rm_T_countFinished (va_Pc [.ref (gA_ad G 0)] (fun U => PR X G A U.heap ∧ KK X U)) (vp_Si (fun ans => ans = f_T_countFinished G A)) 0 0 (fun _ => False) := by
  refine vx_met (cc := b_T_countFinished) (maxL := 4) (ret := (some .int)) (by decide) rfl (Nat.le_of_ble_eq_true rfl) ?_
  intro p e s m below meth c ls hx hb hrt hts hown hlocks hname hml hB hl
  obtain ⟨hP, hK⟩ := hB
  have hown : s.vm.findClass R_ClusterTool = some m.cls := hown
  have hl : lv_has ls 4 [(0, .ref (gA_ad G 0))] := hl
  have hP : va_P X.1 classes (cw X G A) s.heap := hP
  refine lv_iconst (v := 0) hx hb d_T_countFinished_0 rfl ?_
  refine lv_istore_n (lv' := [(1, .int 0), (0, .ref (gA_ad G 0))]) hx hb d_T_countFinished_1 rfl hl (by decide) rfl (fun ls hl => ?_)
  refine lv_iconst (v := 0) hx hb d_T_countFinished_2 rfl ?_
  refine lv_istore_n (lv' := [(2, .int 0), (1, .int 0), (0, .ref (gA_ad G 0))]) hx hb d_T_countFinished_3 rfl hl (by decide) rfl (fun ls hl => ?_)
  refine lp_T_countFinished (G := G) (A := A) hx hb hts hown hml hK hn hP (fun ls hl => ?_) (sA_n A) 0 ls (by omega) (lv_sub hl [1, 0, 2] rfl)
  refine lv_iload_n hx hb d_T_countFinished_43 rfl (lv_at hl 0 rfl) ?_
  exact W.iret (v := nI (cnt (gA_fi G) (sA_n A))) hx hb hrt (fun t ht hW => ⟨_, rfl, rfl, ht⟩) (fun q h => by cases h) d_T_countFinished_44
abbrev rm_T_countLate : Room := { frames := 2, cells := 0, slots := 0, locals := 43 }
def f_T_countLate (A : St) : Int32 := nI (cnt (sA_la A) (sA_n A))
set_option maxRecDepth 20000 in
set_option maxHeartbeats 4000000 in
theorem lp_T_countLate {p : Program} {l : Launch} {e : Env} {s : State} {m : MethodId} {args : Array Value} {below : List Frame} {meth : Method} {c : Code} {Q : State → Prop} {X : Xt} {G : Gc} {A : St} (hx : p.tables.exec = Jvm.exec) (hb : c.code = b_T_countLate) (hts : ∀ w ∈ Cond.code y_T_countLate b_T_countLate 4 (some .int) :: WA, w.before args s = true) (hown : s.vm.findClass R_ClusterTool = some m.cls) (hml : c.maxLocals = 4) (hK : KK X s) (hn : sA_n A ≤ 25) (hP : va_P X.1 classes (cw X G A) s.heap)
    (kont : ∀ ls : Array Slot, lv_has ls 4 [(1, .int (nI (cnt (sA_la A) (sA_n A))))] → W p l e rm_T_countLate s m args below meth c s.heap [] 0 0 Q (F0 m 43 ls [])) :
    ∀ (r i : Nat) (ls : Array Slot), i + r = sA_n A → lv_has ls 4 [(1, .int (nI (cnt (sA_la A) i))), (2, .int (nI i)), (0, .ref (gA_ad G 0))] → W p l e rm_T_countLate s m args below meth c s.heap [] 0 0 Q (F0 m 4 ls []) := by
  intro r
  induction r with
  | zero =>
    intro i ls hi hl
    have hi : i = sA_n A := by omega
    subst hi
    refine lv_iload_n hx hb d_T_countLate_4 rfl (lv_at hl 1 rfl) ?_
    refine lv_aload_n hx hb d_T_countLate_5 rfl (lv_at hl 2 rfl) ?_
    refine va_get (D := X.1) (ci := 0) (C := R_ClusterTool) (T := F_ClusterTool) (N := 8) hx hb hts hin_ClusterTool hown hK.1 hP 0 cw_0 rfl 6 (by decide) (hts _ (wd_1 91 rfl rfl)) (fun _ h9 => h9) rfl d_T_countLate_6 ?_
    refine lv_icmp_ge (tgt := 43) hx hb d_T_countLate_9 rfl (fun h9 => ?_) (fun h9 => ?_)
    ·
      exact kont ls (lv_sub hl [0] rfl)
    ·
      exact absurd (nI_le (Nat.le_refl _) (by omega)) h9
  | succ r ih =>
    intro i ls hi hl
    have hin : i < sA_n A := by omega
    refine lv_iload_n hx hb d_T_countLate_4 rfl (lv_at hl 1 rfl) ?_
    refine lv_aload_n hx hb d_T_countLate_5 rfl (lv_at hl 2 rfl) ?_
    refine va_get (D := X.1) (ci := 0) (C := R_ClusterTool) (T := F_ClusterTool) (N := 8) hx hb hts hin_ClusterTool hown hK.1 hP 0 cw_0 rfl 6 (by decide) (hts _ (wd_1 91 rfl rfl)) (fun _ h9 => h9) rfl d_T_countLate_6 ?_
    refine lv_icmp_ge (tgt := 43) hx hb d_T_countLate_9 rfl (fun h9 => ?_) (fun h9 => ?_)
    ·
      exact absurd h9 (nI_ge hin (by omega))
    ·
      refine lv_aload_n hx hb d_T_countLate_12 rfl (lv_at hl 2 rfl) ?_
      refine lv_iload_n hx hb d_T_countLate_13 rfl (lv_at hl 1 rfl) ?_
      refine va_csq (W.runV (As := [.int (nI i)]) (rest := []) ⟨hx, hb, hml, hown, hts⟩ (c_T_waferOf l X G A (nI i) hn) (cwV 1 hts (gV (wd_1 180 rfl rfl) (wd_1 182 rfl rfl) (wd_s 0 rfl) (wd_1 1 rfl rfl) (wd_1 183 rfl rfl)) rfl rfl rfl ⟨rfl, hd_T_waferOf⟩ ⟨Nat.le_of_ble_eq_true rfl, Nat.le_of_ble_eq_true rfl⟩) (vx_preV (P := PR X G A) hP hK (va_recv hK.1 hP (ci := 0) rfl cw_0)) rfl rfl hl.1 rfl (lv_room (Nat.le_of_ble_eq_true rfl)) d_T_countLate_14 ⟨Nat.zero_le _, Nat.zero_le _⟩) (fun r14 e14 => ?_)
      cases q14 : f_T_waferOf A (nI i) with
      | none =>
        have e14 : r14 = none := by rw [e14, q14]; rfl
        subst e14
        exact absurd (waferOf_nI hn hin) (by rw [q14]; exact fun z => by cases z)
      | some i14 =>
        have e14 : r14 = some (gA_ad G (18 + 4 * i14)) := by rw [e14, q14]; rfl
        subst e14
        have hli14 := waferOf_lt hn q14
        have ei : i = i14 := Option.some.inj ((waferOf_nI hn hin).symm.trans q14)
        subst ei
        refine lv_astore_n (lv' := [(3, .ref (gA_ad G (18 + 4 * i))), (1, .int (nI (cnt (sA_la A) i))), (2, .int (nI i)), (0, .ref (gA_ad G 0))]) hx hb d_T_countLate_17 rfl hl (by decide) rfl (fun ls hl => ?_)
        refine lv_iload_n hx hb d_T_countLate_18 rfl (lv_at hl 1 rfl) ?_
        refine lv_aload_n hx hb d_T_countLate_19 rfl (lv_at hl 0 rfl) ?_
        refine lv_ifnull hx hb d_T_countLate_20 ?_
        refine lv_aload_n hx hb d_T_countLate_23 rfl (lv_at hl 0 rfl) ?_
        refine va_getN (D := X.1) (ci := 5) (C := R_Wafer) (T := F_Wafer) (N := 10) hx hb hts hin_Wafer hown hK.1 hP (18 + 4 * i) (cw_w hli14) rfl 9 (by decide) (va_Nw.use rfl (hK.2.1 _ (List.mem_of_getElem? (i := 17) rfl))) (fun _ h9 => h9) rfl d_T_countLate_24 ?_
        refine lv_if_eq (tgt := 34) hx hb d_T_countLate_27 rfl (fun h27 => ?_) (fun h27 => ?_)
        ·
          have h27 := b2i_f h27
          refine lv_iconst (v := 0) hx hb d_T_countLate_34 rfl ?_
          refine lv_iadd hx hb d_T_countLate_35 ?_
          rw [Int32.add_zero]
          refine lv_istore_n (lv' := [(1, .int (nI (cnt (sA_la A) i))), (3, .ref (gA_ad G (18 + 4 * i))), (2, .int (nI i)), (0, .ref (gA_ad G 0))]) hx hb d_T_countLate_36 rfl hl (by decide) rfl (fun ls hl => ?_)
          refine lv_iinc (k := 2) (v := (nI i + 1)) (lv' := [(2, .int (nI i + 1)), (1, .int (nI (cnt (sA_la A) i))), (3, .ref (gA_ad G (18 + 4 * i))), (0, .ref (gA_ad G 0))]) hx hb d_T_countLate_37 hl rfl rfl (by decide) rfl (fun ls hl => ?_)
          refine lv_goto (tgt := 4) hx hb d_T_countLate_40 rfl ?_
          exact ih (i + 1) ls (by omega) (by unfold cnt; rw [if_neg (nt_of h27), Nat.add_zero, ← nI_1 i]; exact lv_sub hl [1, 0, 3] rfl)
        ·
          have h27 := b2i_t h27
          refine lv_iconst (v := 1) hx hb d_T_countLate_30 rfl ?_
          refine lv_goto (tgt := 35) hx hb d_T_countLate_31 rfl ?_
          refine lv_iadd hx hb d_T_countLate_35 ?_
          refine lv_istore_n (lv' := [(1, .int ((nI (cnt (sA_la A) i)) + 1)), (3, .ref (gA_ad G (18 + 4 * i))), (2, .int (nI i)), (0, .ref (gA_ad G 0))]) hx hb d_T_countLate_36 rfl hl (by decide) rfl (fun ls hl => ?_)
          refine lv_iinc (k := 2) (v := (nI i + 1)) (lv' := [(2, .int (nI i + 1)), (1, .int ((nI (cnt (sA_la A) i)) + 1)), (3, .ref (gA_ad G (18 + 4 * i))), (0, .ref (gA_ad G 0))]) hx hb d_T_countLate_37 hl rfl rfl (by decide) rfl (fun ls hl => ?_)
          refine lv_goto (tgt := 4) hx hb d_T_countLate_40 rfl ?_
          exact ih (i + 1) ls (by omega) (by unfold cnt; rw [if_pos h27, ← nI_1 i, ← nI_1 (cnt (sA_la A) i)]; exact lv_sub hl [1, 0, 3] rfl)
set_option maxRecDepth 20000 in
set_option maxHeartbeats 4000000 in
theorem c_T_countLate (l : Launch) (X : Xt) (G : Gc) (A : St) (hn : sA_n A ≤ 25) : Met l y_T_countLate (Cond.code y_T_countLate b_T_countLate 4 (some .int) :: WA) rm_T_countLate (va_Pc [.ref (gA_ad G 0)] (fun U => PR X G A U.heap ∧ KK X U)) (vp_Si (fun ans => ans = f_T_countLate A)) 0 0 (fun _ => False) := by
  refine vx_met (cc := b_T_countLate) (maxL := 4) (ret := (some .int)) (by decide) rfl (Nat.le_of_ble_eq_true rfl) ?_
  intro p e s m below meth c ls hx hb hrt hts hown hlocks hname hml hB hl
  obtain ⟨hP, hK⟩ := hB
  have hown : s.vm.findClass R_ClusterTool = some m.cls := hown
  have hl : lv_has ls 4 [(0, .ref (gA_ad G 0))] := hl
  have hP : va_P X.1 classes (cw X G A) s.heap := hP
  refine lv_iconst (v := 0) hx hb d_T_countLate_0 rfl ?_
  refine lv_istore_n (lv' := [(1, .int 0), (0, .ref (gA_ad G 0))]) hx hb d_T_countLate_1 rfl hl (by decide) rfl (fun ls hl => ?_)
  refine lv_iconst (v := 0) hx hb d_T_countLate_2 rfl ?_
  refine lv_istore_n (lv' := [(2, .int 0), (1, .int 0), (0, .ref (gA_ad G 0))]) hx hb d_T_countLate_3 rfl hl (by decide) rfl (fun ls hl => ?_)
  refine lp_T_countLate (G := G) (A := A) hx hb hts hown hml hK hn hP (fun ls hl => ?_) (sA_n A) 0 ls (by omega) (lv_sub hl [1, 0, 2] rfl)
  refine lv_iload_n hx hb d_T_countLate_43 rfl (lv_at hl 0 rfl) ?_
  exact W.iret (v := nI (cnt (sA_la A) (sA_n A))) hx hb hrt (fun t ht hW => ⟨_, rfl, rfl, ht⟩) (fun q h => by cases h) d_T_countLate_44
