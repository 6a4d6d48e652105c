abbrev rm_M_next : Room := { frames := 6, cells := 0, slots := 0, locals := 145 }
set_option maxRecDepth 20000 in
set_option maxHeartbeats 4000000 in
theorem lp_M_next_in {p : Program} {l : Launch} {e : Env} {s : State} {m : MethodId} {args : Array Value} {below : List Frame} {meth : Method} {c : Code} {Q : State → Prop} {X : Xt} {G : Gr} {A : St} {Af : Nat → Prop} (hx : p.tables.exec = Jvm.exec) (hb : c.code = b_M_next) (hts : ∀ w ∈ Cond.code y_M_next b_M_next 5 (some .int) :: WA, w.before args s = true) (hown : s.vm.findClass R_Model = some m.cls) (hml : c.maxLocals = 5) (hK : KK X s) (hI : Inv A) (hBd : snB A) {i : Nat} {b : Int32 × Nat} (hi : i < sA_n A) (hb2 : rnk b.2)
    (kont : ∀ (kn tr tu : Nat → Int32) (st : Bool) (H : Heap) (locs : List Loc) (ls : Array Slot), RR (rU_st (rU_tu (rU_tr (rU_kn G kn) tr) tu) st) A → va_P X.1 classes (rw_ X (rU_st (rU_tu (rU_tr (rU_kn G kn) tr) tu) st) A) H → va_D Af (rw_ X (rU_st (rU_tu (rU_tr (rU_kn G kn) tr) tu) st) A) → va_S Af s.heap H locs → lv_has ls 5 [(1, .int ((stepN A i b).1)), (2, .int (nI (stepN A i b).2)), (3, .int (nI i)), (0, .ref (rA_ad G 0))] → W p l e rm_M_next s m args below meth c H locs 0 0 Q (F0 m 65 ls [])) :
    ∀ (r q : Nat) (kn tr tu : Nat → Int32) (st : Bool) (H : Heap) (locs : List Loc) (ls : Array Slot), q + r = 6 → (∀ z, z < q → mayN A i z ≠ 0) → RR (rU_st (rU_tu (rU_tr (rU_kn G kn) tr) tu) st) A → va_P X.1 classes (rw_ X (rU_st (rU_tu (rU_tr (rU_kn G kn) tr) tu) st) A) H → va_D Af (rw_ X (rU_st (rU_tu (rU_tr (rU_kn G kn) tr) tu) st) A) → va_S Af s.heap H locs → lv_has ls 5 [(4, .int (nI q)), (1, .int b.1), (2, .int (nI b.2)), (3, .int (nI i)), (0, .ref (rA_ad G 0))] → W p l e rm_M_next s m args below meth c H locs 0 0 Q (F0 m 19 ls []) := by
  have hn := hI.1
  have hrk := rk_rnk hI hi
  have hb3 : b.2 ≤ 3000 := by unfold rnk at hb2; omega
  intro r
  induction r with
  | zero =>
    intro q kn tr tu st H locs ls hq hno hRR hP hD hS hl
    have hq : q = 6 := by omega
    subst hq
    refine lv_iload hx hb d_M_next_19 (lv_at hl 0 rfl) ?_
    refine lv_bipush (v := 6) hx hb d_M_next_21 rfl ?_
    refine lv_icmp_ge (tgt := 65) hx hb d_M_next_23 rfl (fun h23 => ?_) (fun h23 => ?_)
    ·
      exact kont kn tr tu st H locs ls hRR hP hD hS (by rw [step_none hno]; exact lv_sub hl [1, 2, 3, 4] rfl)
    ·
      exact absurd (by decide) h23
  | succ r ih =>
    intro q kn tr tu st H locs ls hq hno hRR hP hD hS hl
    have hq6 : q < 6 := by omega
    refine lv_iload hx hb d_M_next_19 (lv_at hl 0 rfl) ?_
    refine lv_bipush (v := 6) hx hb d_M_next_21 rfl ?_
    refine lv_icmp_ge (tgt := 65) hx hb d_M_next_23 rfl (fun h23 => ?_) (fun h23 => ?_)
    ·
      exact absurd h23 (nI_ge (a := q) (b := 6) hq6 (by omega))
    ·
      refine lv_aload_n hx hb d_M_next_26 rfl (lv_at hl 4 rfl) ?_
      refine lv_iload_n hx hb d_M_next_27 rfl (lv_at hl 3 rfl) ?_
      refine vp_callSi (W.runV (As := [.int (nI i)]) (rest := []) ⟨hx, hb, hml, hown, hts⟩ (c_M_rank l X (rU_st (rU_tu (rU_tr (rU_kn G kn) tr) tu) st) A i hI hi hBd) (cwV 1 hts (gV (wd_3 82 rfl rfl) (wd_3 84 rfl rfl) (wd_s 24 rfl) (wd_1 6 rfl rfl) (wd_3 85 rfl rfl)) rfl rfl rfl ⟨rfl, hd_M_rank⟩ ⟨Nat.le_of_ble_eq_true rfl, Nat.le_of_ble_eq_true rfl⟩) (vx_preV (P := QR X (rU_st (rU_tu (rU_tr (rU_kn G kn) tr) tu) st) A) hP hK (va_recv hK.1 hP (ci := 6) rfl rw_0)) rfl rfl hl.1 rfl (lv_room (Nat.le_of_ble_eq_true rfl)) d_M_next_28 ⟨Nat.zero_le _, Nat.zero_le _⟩) (fun r28 e28 => ?_)
      subst e28
      rw [show f_M_rank A i = nI (rkA A i) from rfl]
      refine lv_iload_n hx hb d_M_next_31 rfl (lv_at hl 2 rfl) ?_
      refine lv_icmp_ge (tgt := 65) hx hb d_M_next_32 rfl (fun h32 => ?_) (fun h32 => ?_)
      ·
        exact kont kn tr tu st H locs ls hRR hP hD hS (by rw [step_ge (fun z => nI_ge z (by omega) h32)]; exact lv_sub hl [1, 2, 3, 4] rfl)
      ·
        have hlt : rkA A i < b.2 := Nat.lt_of_not_le fun z => h32 (nI_le z (by omega))
        refine lv_aload_n hx hb d_M_next_35 rfl (lv_at hl 4 rfl) ?_
        refine lv_iload_n hx hb d_M_next_36 rfl (lv_at hl 3 rfl) ?_
        refine lv_iload hx hb d_M_next_37 (lv_at hl 0 rfl) ?_
        refine va_calli (va_runV (As := [.int (nI i), .int (nI q)]) (rest := []) ⟨hx, hb, hml, hown, hts⟩ (c_M_may l X (rU_st (rU_tu (rU_tr (rU_kn G kn) tr) tu) st) A Af (nI i) (nI q) hI hRR) (cwV 2 hts (gV (wd_3 73 rfl rfl) (wd_3 51 rfl rfl) (wd_3 52 rfl rfl) (wd_1 6 rfl rfl) (wd_3 53 rfl rfl)) rfl rfl rfl ⟨rfl, hd_M_may⟩ ⟨Nat.le_of_ble_eq_true rfl, Nat.le_of_ble_eq_true rfl⟩) (vx_preV (P := QW X Af (rU_st (rU_tu (rU_tr (rU_kn G kn) tr) tu) st) A) ⟨hP, hD⟩ hK (va_recv hK.1 hP (ci := 6) rfl rw_0)) rfl rfl hl.1 rfl (lv_room (Nat.le_of_ble_eq_true rfl)) d_M_next_39 ⟨Nat.zero_le _, Nat.zero_le _⟩) hS (fun q _ h => h) (fun q h => h) (fun r39 u39 t39 H locs ht hvm hu39 hB hz hk hS => ?_)
        obtain ⟨hP, hD⟩ := hB
        rw [ht] at hP
        obtain ⟨e39, kn39, tr39, tu39, st39, hRR39, hu39⟩ := hu39
        subst e39
        subst hu39
        have hRR39 : RR (rU_st (rU_tu (rU_tr (rU_kn G kn39) tr39) tu39) st39) A := hRR39
        have hP : va_P X.1 classes (rw_ X (rU_st (rU_tu (rU_tr (rU_kn G kn39) tr39) tu39) st39) A) H := hP
        have hD : va_D Af (rw_ X (rU_st (rU_tu (rU_tr (rU_kn G kn39) tr39) tu39) st39) A) := hD
        refine lv_if_ne (tgt := 59) hx hb d_M_next_42 rfl (fun h42 => ?_) (fun h42 => ?_)
        ·
          refine lv_iinc (k := 0) (v := (nI q + 1)) (lv' := [(4, .int (nI q + 1)), (1, .int b.1), (2, .int (nI b.2)), (3, .int (nI i)), (0, .ref (rA_ad G 0))]) hx hb d_M_next_59 hl rfl rfl (by decide) rfl (fun ls hl => ?_)
          refine lv_goto (tgt := 19) hx hb d_M_next_62 rfl ?_
          exact ih (q + 1) kn39 tr39 tu39 st39 H locs ls (by omega) (lt_s hno (by rw [← mayF_nI hI hi hq6]; exact h42)) hRR39 hP hD hS (by rw [← nI_1]; exact lv_sub hl [0, 1, 2, 3, 4] rfl)
        ·
          refine lv_bipush (v := 8) hx hb d_M_next_45 rfl ?_
          refine lv_iload_n hx hb d_M_next_47 rfl (lv_at hl 3 rfl) ?_
          refine lv_imul hx hb d_M_next_48 ?_
          refine lv_iload hx hb d_M_next_49 (lv_at hl 0 rfl) ?_
          refine lv_iadd hx hb d_M_next_51 ?_
          rw [show (8 : Int32) * nI i = nI (8 * i) from pk_mul 8 i, nI_add]
          refine lv_istore_n (lv' := [(1, .int (nI (8 * i + q))), (4, .int (nI q)), (2, .int (nI b.2)), (3, .int (nI i)), (0, .ref (rA_ad G 0))]) hx hb d_M_next_52 rfl hl (by decide) rfl (fun ls hl => ?_)
          refine lv_aload_n hx hb d_M_next_53 rfl (lv_at hl 4 rfl) ?_
          refine lv_iload_n hx hb d_M_next_54 rfl (lv_at hl 3 rfl) ?_
          refine vp_callSi (W.runV (As := [.int (nI i)]) (rest := []) ⟨hx, hb, hml, hown, hts⟩ (c_M_rank l X (rU_st (rU_tu (rU_tr (rU_kn G kn39) tr39) tu39) st39) A i hI hi hBd) (cwV 1 hts (gV (wd_3 82 rfl rfl) (wd_3 84 rfl rfl) (wd_s 24 rfl) (wd_1 6 rfl rfl) (wd_3 85 rfl rfl)) rfl rfl rfl ⟨rfl, hd_M_rank⟩ ⟨Nat.le_of_ble_eq_true rfl, Nat.le_of_ble_eq_true rfl⟩) (vx_preV (P := QR X (rU_st (rU_tu (rU_tr (rU_kn G kn39) tr39) tu39) st39) A) hP hK (va_recv hK.1 hP (ci := 6) rfl rw_0)) rfl rfl hl.1 rfl (lv_room (Nat.le_of_ble_eq_true rfl)) d_M_next_55 ⟨Nat.zero_le _, Nat.zero_le _⟩) (fun r55 e55 => ?_)
          subst e55
          rw [show f_M_rank A i = nI (rkA A i) from rfl]
          refine lv_istore_n (lv' := [(2, .int (nI (rkA A i))), (1, .int (nI (8 * i + q))), (4, .int (nI q)), (3, .int (nI i)), (0, .ref (rA_ad G 0))]) hx hb d_M_next_58 rfl hl (by decide) rfl (fun ls hl => ?_)
          refine lv_iinc (k := 2) (v := (nI q + 1)) (lv' := [(4, .int (nI q + 1)), (2, .int (nI (rkA A i))), (1, .int (nI (8 * i + q))), (3, .int (nI i)), (0, .ref (rA_ad G 0))]) hx hb d_M_next_59 hl rfl rfl (by decide) rfl (fun ls hl => ?_)
          refine lv_goto (tgt := 19) hx hb d_M_next_62 rfl ?_
          refine lv_iload hx hb d_M_next_19 (lv_at hl 0 rfl) ?_
          refine lv_bipush (v := 6) hx hb d_M_next_21 rfl ?_
          refine lv_icmp_ge (tgt := 65) hx hb d_M_next_23 rfl (fun h23_2 => ?_) (fun h23_2 => ?_)
          ·
            have hst := step_some (b := b) hlt hq6 hno (by rw [← mayF_nI hI hi hq6]; exact h42)
            exact kont kn39 tr39 tu39 st39 H locs ls hRR39 hP hD hS (by rw [hst]; exact lv_sub hl [2, 1, 3, 4] rfl)
          ·
            refine lv_aload_n hx hb d_M_next_26 rfl (lv_at hl 4 rfl) ?_
            refine lv_iload_n hx hb d_M_next_27 rfl (lv_at hl 3 rfl) ?_
            refine vp_callSi (W.runV (As := [.int (nI i)]) (rest := []) ⟨hx, hb, hml, hown, hts⟩ (c_M_rank l X (rU_st (rU_tu (rU_tr (rU_kn G kn39) tr39) tu39) st39) A i hI hi hBd) (cwV 1 hts (gV (wd_3 82 rfl rfl) (wd_3 84 rfl rfl) (wd_s 24 rfl) (wd_1 6 rfl rfl) (wd_3 85 rfl rfl)) rfl rfl rfl ⟨rfl, hd_M_rank⟩ ⟨Nat.le_of_ble_eq_true rfl, Nat.le_of_ble_eq_true rfl⟩) (vx_preV (P := QR X (rU_st (rU_tu (rU_tr (rU_kn G kn39) tr39) tu39) st39) A) hP hK (va_recv hK.1 hP (ci := 6) rfl rw_0)) rfl rfl hl.1 rfl (lv_room (Nat.le_of_ble_eq_true rfl)) d_M_next_28 ⟨Nat.zero_le _, Nat.zero_le _⟩) (fun r28 e28 => ?_)
            subst e28
            rw [show f_M_rank A i = nI (rkA A i) from rfl]
            refine lv_iload_n hx hb d_M_next_31 rfl (lv_at hl 1 rfl) ?_
            refine lv_icmp_ge (tgt := 65) hx hb d_M_next_32 rfl (fun h32_2 => ?_) (fun h32_2 => ?_)
            ·
              have hst := step_some (b := b) hlt hq6 hno (by rw [← mayF_nI hI hi hq6]; exact h42)
              exact kont kn39 tr39 tu39 st39 H locs ls hRR39 hP hD hS (by rw [hst]; exact lv_sub hl [2, 1, 3, 4] rfl)
            ·
              exact absurd (Int32.le_refl _) h32_2
set_option maxRecDepth 20000 in
set_option maxHeartbeats 4000000 in
theorem lp_M_next {p : Program} {l : Launch} {e : Env} {s : State} {m : MethodId} {args : Array Value} {below : List Frame} {meth : Method} {c : Code} {Q : State → Prop} {X : Xt} {G : Gr} {A : St} {Af : Nat → Prop} (hx : p.tables.exec = Jvm.exec) (hb : c.code = b_M_next) (hts : ∀ w ∈ Cond.code y_M_next b_M_next 5 (some .int) :: WA, w.before args s = true) (hown : s.vm.findClass R_Model = some m.cls) (hml : c.maxLocals = 5) (hK : KK X s) (hI : Inv A) (hBd : snB A)
    (kont : ∀ (kn tr tu : Nat → Int32) (st : Bool) (H : Heap) (locs : List Loc) (ls : Array Slot), RR (rU_st (rU_tu (rU_tr (rU_kn G kn) tr) tu) st) A → va_P X.1 classes (rw_ X (rU_st (rU_tu (rU_tr (rU_kn G kn) tr) tu) st) A) H → va_D Af (rw_ X (rU_st (rU_tu (rU_tr (rU_kn G kn) tr) tu) st) A) → va_S Af s.heap H locs → lv_has ls 5 [(1, .int (nextF A))] → W p l e rm_M_next s m args below meth c H locs 0 0 Q (F0 m 71 ls [])) :
    ∀ (r i : Nat) (kn tr tu : Nat → Int32) (st : Bool) (H : Heap) (locs : List Loc) (ls : Array Slot), i + r = sA_n A → RR (rU_st (rU_tu (rU_tr (rU_kn G kn) tr) tu) st) A → va_P X.1 classes (rw_ X (rU_st (rU_tu (rU_tr (rU_kn G kn) tr) tu) st) A) H → va_D Af (rw_ X (rU_st (rU_tu (rU_tr (rU_kn G kn) tr) tu) st) A) → va_S Af s.heap H locs → lv_has ls 5 [(1, .int ((nextK A i).1)), (2, .int (nI (nextK A i).2)), (3, .int (nI i)), (0, .ref (rA_ad G 0))] → W p l e rm_M_next s m args below meth c H locs 0 0 Q (F0 m 8 ls []) := by
  have hn := hI.1
  intro r
  induction r with
  | zero =>
    intro i kn tr tu st H locs ls hi hRR hP hD hS hl
    have hi : i = sA_n A := by omega
    subst hi
    refine lv_iload_n hx hb d_M_next_8 rfl (lv_at hl 2 rfl) ?_
    refine lv_aload_n hx hb d_M_next_9 rfl (lv_at hl 3 rfl) ?_
    refine va_get (D := X.1) (ci := 6) (C := R_Model) (T := F_Model) (N := 24) hx hb hts hin_Model hown hK.1 hP 0 rw_0 rfl 4 (by decide) (hts _ (wd_2 158 rfl rfl)) (fun _ h9 => h9) rfl d_M_next_10 ?_
    refine lv_icmp_ge (tgt := 71) hx hb d_M_next_13 rfl (fun h13 => ?_) (fun h13 => ?_)
    ·
      exact kont kn tr tu st H locs ls hRR hP hD hS (lv_sub hl [0] rfl)
    ·
      exact absurd (nI_le (Nat.le_refl _) (by omega)) h13
  | succ r ih =>
    intro i kn tr tu st H locs ls hi hRR hP hD hS hl
    have hin : i < sA_n A := by omega
    have hrn := (next_rnk hI i (by omega)).1
    refine lv_iload_n hx hb d_M_next_8 rfl (lv_at hl 2 rfl) ?_
    refine lv_aload_n hx hb d_M_next_9 rfl (lv_at hl 3 rfl) ?_
    refine va_get (D := X.1) (ci := 6) (C := R_Model) (T := F_Model) (N := 24) hx hb hts hin_Model hown hK.1 hP 0 rw_0 rfl 4 (by decide) (hts _ (wd_2 158 rfl rfl)) (fun _ h9 => h9) rfl d_M_next_10 ?_
    refine lv_icmp_ge (tgt := 71) hx hb d_M_next_13 rfl (fun h13 => ?_) (fun h13 => ?_)
    ·
      exact absurd h13 (nI_ge hin (by omega))
    ·
      refine lv_iconst (v := 0) hx hb d_M_next_16 rfl ?_
      refine lv_istore (lv' := [(4, .int 0), (1, .int ((nextK A i).1)), (2, .int (nI (nextK A i).2)), (3, .int (nI i)), (0, .ref (rA_ad G 0))]) hx hb d_M_next_17 hl (by decide) rfl (fun ls hl => ?_)
      refine lp_M_next_in (G := G) (b := nextK A i) hx hb hts hown hml hK hI hBd hin hrn (fun kn tr tu st H locs ls hRR hP hD hS hl => ?_) 6 0 kn tr tu st H locs ls (by omega) (fun z hz => by omega) hRR hP hD hS (lv_sub hl [0, 1, 2, 3, 4] rfl)
      refine lv_iinc (k := 2) (v := (nI i + 1)) (lv' := [(3, .int (nI i + 1)), (1, .int ((nextK A (i + 1)).1)), (2, .int (nI (nextK A (i + 1)).2)), (0, .ref (rA_ad G 0))]) hx hb d_M_next_65 hl rfl rfl (by decide) rfl (fun ls hl => ?_)
      refine lv_goto (tgt := 8) hx hb d_M_next_68 rfl ?_
      exact ih (i + 1) kn tr tu st H locs ls (by omega) hRR hP hD hS (by rw [← nI_1]; exact lv_sub hl [1, 2, 0, 3] rfl)
set_option maxRecDepth 20000 in
set_option maxHeartbeats 4000000 in
theorem c_M_next (l : Launch) (X : Xt) (G : Gr) (A : St) (Af : Nat → Prop) (hI : Inv A) (hRR : RR G A) (hBd : snB A) : Met l y_M_next (Cond.code y_M_next b_M_next 5 (some .int) :: WA) rm_M_next (va_Pc [.ref (rA_ad G 0)] (fun U => QW X Af G A U.heap ∧ KK X U)) (va_Qi (MR G A (nextF A)) (atR X Af) Af) 0 0 Af := by
  refine vx_met (cc := b_M_next) (maxL := 5) (ret := (some .int)) (by decide) rfl (Nat.le_of_ble_eq_true rfl) ?_
  intro p e s m below meth c ls hx hb hrt hts hown hlocks hname hml hB hl
  obtain ⟨hP, hK⟩ := hB
  have hown : s.vm.findClass R_Model = some m.cls := hown
  have hl : lv_has ls 5 [(0, .ref (rA_ad G 0))] := hl
  have hD : va_D Af (rw_ X G A) := hP.2
  have hP : va_P X.1 classes (rw_ X G A) s.heap := hP.1
  have hS : va_S Af s.heap s.heap [] := va_S.rf
  have hn := hI.1
  have hR := hI.2.1
  refine lv_iconst (v := (-1)) hx hb d_M_next_0 rfl ?_
  refine lv_istore_n (lv' := [(1, .int (-1)), (0, .ref (rA_ad G 0))]) hx hb d_M_next_1 rfl hl (by decide) rfl (fun ls hl => ?_)
  refine lv_sipush (v := 3000) hx hb d_M_next_2 rfl ?_
  refine lv_istore_n (lv' := [(2, .int 3000), (1, .int (-1)), (0, .ref (rA_ad G 0))]) hx hb d_M_next_5 rfl hl (by decide) rfl (fun ls hl => ?_)
  refine lv_iconst (v := 0) hx hb d_M_next_6 rfl ?_
  refine lv_istore_n (lv' := [(3, .int 0), (2, .int 3000), (1, .int (-1)), (0, .ref (rA_ad G 0))]) hx hb d_M_next_7 rfl hl (by decide) rfl (fun ls hl => ?_)
  refine lp_M_next (G := G) hx hb hts hown hml hK hI hBd (fun kn tr tu st H locs ls hRR hP hD hS hl => ?_) (sA_n A) 0 (rA_kn G) (rA_tr G) (rA_tu G) (rA_st G) _ _ ls (by omega) hRR hP hD hS (lv_sub hl [2, 1, 0, 3] rfl)
  refine lv_iload_n hx hb d_M_next_71 rfl (lv_at hl 0 rfl) ?_
  exact W.iret (v := nextF A) hx hb hrt (fun t ht hW => ⟨⟨_, ((rU_st (rU_tu (rU_tr (rU_kn G kn) tr) tu) st), A), rfl, ⟨rfl, kn, tr, tu, st, hRR, rfl⟩, ⟨by rw [ht]; exact hP, hD⟩⟩, hS.F ht⟩) hS.2.2 d_M_next_72
abbrev rm_M_go : Room := { frames := 7, cells := 0, slots := 0, locals := 169 }
set_option maxRecDepth 20000 in
set_option maxHeartbeats 4000000 in
theorem c_M_go (l : Launch) (X : Xt) (G : Gr) (A : St) (Af : Nat → Prop) (hI : Inv A) (hRR : RR G A) (hBd : snB A) : Met l y_M_go (Cond.code y_M_go b_M_go 3 (some .int) :: WA) rm_M_go (va_Pc [.ref (rA_ad G 0)] (fun U => QW X Af G A U.heap ∧ KK X U)) (va_Qi (BP G (nextF A) (goA A)) (atR X Af) Af) 0 0 Af := by
  refine vx_met (cc := b_M_go) (maxL := 3) (ret := (some .int)) (by decide) rfl (Nat.le_of_ble_eq_true rfl) ?_
  intro p e s m below meth c ls hx hb hrt hts hown hlocks hname hml hB hl
  obtain ⟨hP, hK⟩ := hB
  have hown : s.vm.findClass R_Model = some m.cls := hown
  have hl : lv_has ls 3 [(0, .ref (rA_ad G 0))] := hl
  have hD : va_D Af (rw_ X G A) := hP.2
  have hP : va_P X.1 classes (rw_ X G A) s.heap := hP.1
  have hS : va_S Af s.heap s.heap [] := va_S.rf
  have hn := hI.1
  have hR := hI.2.1
  refine lv_aload_n hx hb d_M_go_0 rfl (lv_at hl 0 rfl) ?_
  refine va_calli (va_runV (As := []) (rest := []) ⟨hx, hb, hml, hown, hts⟩ (c_M_next l X G A Af hI hRR hBd) (cwV 0 hts (gV (wd_3 91 rfl rfl) (wd_3 79 rfl rfl) (wd_3 80 rfl rfl) (wd_1 6 rfl rfl) (wd_3 81 rfl rfl)) rfl rfl rfl ⟨rfl, hd_M_next⟩ ⟨Nat.le_of_ble_eq_true rfl, Nat.le_of_ble_eq_true rfl⟩) (vx_preV (P := QW X Af G A) ⟨hP, hD⟩ hK (va_recv hK.1 hP (ci := 6) rfl rw_0)) rfl rfl hl.1 rfl (lv_room (Nat.le_of_ble_eq_true rfl)) d_M_go_1 ⟨Nat.zero_le _, Nat.zero_le _⟩) hS (fun q _ h => h) (fun q h => h) (fun r1 u1 t1 H locs ht hvm hu1 hB hz hk hS => ?_)
  obtain ⟨hP, hD⟩ := hB
  rw [ht] at hP
  obtain ⟨e1, kn1, tr1, tu1, st1, hRR1, hu1⟩ := hu1
  subst e1
  subst hu1
  have hRR1 : RR (rU_st (rU_tu (rU_tr (rU_kn G kn1) tr1) tu1) st1) A := hRR1
  have hP : va_P X.1 classes (rw_ X (rU_st (rU_tu (rU_tr (rU_kn G kn1) tr1) tu1) st1) A) H := hP
  have hD : va_D Af (rw_ X (rU_st (rU_tu (rU_tr (rU_kn G kn1) tr1) tu1) st1) A) := hD
  refine lv_istore_n (lv' := [(1, .int (nextF A)), (0, .ref (rA_ad G 0))]) hx hb d_M_go_4 rfl hl (by decide) rfl (fun ls hl => ?_)
  refine lv_iload_n hx hb d_M_go_5 rfl (lv_at hl 0 rfl) ?_
  refine lv_if_lt (tgt := 22) hx hb d_M_go_6 rfl (fun h6 => ?_) (fun h6 => ?_)
  ·
    refine lv_iload_n hx hb d_M_go_22 rfl (lv_at hl 0 rfl) ?_
    exact W.iret (v := nextF A) hx hb hrt (fun t ht hW => ⟨⟨_, ((rU_st (rU_tu (rU_tr (rU_kn G kn1) tr1) tu1) st1), A), rfl, ⟨rfl, (by rw [goA, if_pos (next_neg hI h6)]), (by rw [goA, if_pos (next_neg hI h6)]; exact hRR1), rfl⟩, ⟨by rw [ht]; exact hP, hD⟩⟩, hS.F ht⟩) hS.2.2 d_M_go_23
  ·
    obtain ⟨i, q, hi, hq, hnx, hm0⟩ := (next_spec hI).resolve_left (fun z => h6 (by rw [z]; decide))
    rw [hnx] at hl
    refine lv_aload_n hx hb d_M_go_9 rfl (lv_at hl 1 rfl) ?_
    refine lv_iload_n hx hb d_M_go_10 rfl (lv_at hl 0 rfl) ?_
    refine lv_bipush (v := 8) hx hb d_M_go_11 rfl ?_
    refine lv_idiv hx hb d_M_go_13 (by decide) ?_
    rw [show (nI (8 * i + q)) / (8 : Int32) = nI i by rw [show (8 : Int32) = nI 8 from rfl, pk_div (by omega) (by omega) (by omega)]; congr 1; omega]
    refine lv_iload_n hx hb d_M_go_14 rfl (lv_at hl 0 rfl) ?_
    refine lv_bipush (v := 8) hx hb d_M_go_15 rfl ?_
    refine lv_irem hx hb d_M_go_17 (by decide) ?_
    rw [show nI (8 * i + q) - nI (8 * i + q) / (8 : Int32) * (8 : Int32) = nI q by rw [show (8 : Int32) = nI 8 from rfl, pk_rem (by omega) (by omega) (by omega)]; congr 1; omega]
    refine va_calli (va_runV (As := [.int (nI i), .int (nI q)]) (rest := []) ⟨hx, hb, hml, hown, hts⟩ (c_M_move l X (rU_st (rU_tu (rU_tr (rU_kn G kn1) tr1) tu1) st1) A Af (nI i) (nI q) hI hRR1) (cwV 2 hts (gV (wd_3 92 rfl rfl) (wd_3 70 rfl rfl) (wd_3 71 rfl rfl) (wd_1 6 rfl rfl) (wd_3 72 rfl rfl)) rfl rfl rfl ⟨rfl, hd_M_move⟩ ⟨Nat.le_of_ble_eq_true rfl, Nat.le_of_ble_eq_true rfl⟩) (vx_preV (P := QW X Af (rU_st (rU_tu (rU_tr (rU_kn G kn1) tr1) tu1) st1) A) ⟨hP, hD⟩ hK (va_recv hK.1 hP (ci := 6) rfl rw_0)) rfl rfl hl.1 rfl (lv_room (Nat.le_of_ble_eq_true rfl)) d_M_go_18 ⟨Nat.zero_le _, Nat.zero_le _⟩) hS (fun q _ h => h) (fun q h => h) (fun r18 u18 t18 H locs ht hvm hu18 hB hz hk hS => ?_)
    obtain ⟨hP, hD⟩ := hB
    rw [ht] at hP
    obtain ⟨e18, hA18, hRR18, had18⟩ := hu18
    subst e18
    have hP : va_P X.1 classes (rw_ X u18.1 u18.2) H := hP
    have hD : va_D Af (rw_ X u18.1 u18.2) := hD
    refine lv_istore_n (lv' := [(2, .int (mayF A (nI i) (nI q))), (1, .int (nI (8 * i + q))), (0, .ref (rA_ad G 0))]) hx hb d_M_go_21 rfl hl (by decide) rfl (fun ls hl => ?_)
    refine lv_iload_n hx hb d_M_go_22 rfl (lv_at hl 1 rfl) ?_
    exact W.iret (v := nI (8 * i + q)) hx hb hrt (fun t ht hW => ⟨⟨_, (u18.1, u18.2), rfl, ⟨hnx.symm, (hA18.trans (go_mv hI hi hq hnx hm0).symm), (by rw [go_mv hI hi hq hnx hm0]; exact hRR18), had18⟩, ⟨by rw [ht]; exact hP, hD⟩⟩, hS.F ht⟩) hS.2.2 d_M_go_23
