abbrev rm_T_next : Room := { frames := 74, cells := 0, slots := 0, locals := 2248 }
set_option maxRecDepth 20000 in
set_option maxHeartbeats 4000000 in
theorem lp_T_next_in {p : Program} {l : Launch} {e : Env} {s : State} {m : MethodId} {args : Array Value} {below : List Frame} {meth : Method} {c : Code} {Q : State → Prop} {X : Xt} {G : Gc} {A : St} {Af : Nat → Prop} (hx : p.tables.exec = Jvm.exec) (hb : c.code = b_T_next) (hts : ∀ w ∈ Cond.code y_T_next b_T_next 6 (some .int) :: WA, w.before args s = true) (hown : s.vm.findClass R_ClusterTool = some m.cls) (hml : c.maxLocals = 6) (hK : KK X s) (hI : Inv A) (hBd : snB A) {i : Nat} {b : Int32 × Nat} (hi : i < sA_n A) (hb2 : rnk b.2)
    (kont : ∀ (kn ps : Nat → Int64) (H : Heap) (locs : List Loc) (ls : Array Slot), RC (gU_ps (gU_kn G kn) ps) A → va_P X.1 classes (cw X (gU_ps (gU_kn G kn) ps) A) H → va_D Af (cw X (gU_ps (gU_kn G kn) ps) A) → va_S Af s.heap H locs → lv_has ls 6 [(1, .int ((stepN A i b).1)), (2, .int (nI (gR (stepN A i b).2))), (3, .int (nI i)), (0, .ref (gA_ad G 0))] → W p l e rm_T_next s m args below meth c H locs 0 0 Q (F0 m 66 ls [])) :
    ∀ (r q : Nat) (kn ps : Nat → Int64) (H : Heap) (locs : List Loc) (ls : Array Slot), q + r = 6 → (∀ p, p < q → mayN A i p ≠ 0) → RC (gU_ps (gU_kn G kn) ps) A → va_P X.1 classes (cw X (gU_ps (gU_kn G kn) ps) A) H → va_D Af (cw X (gU_ps (gU_kn G kn) ps) A) → va_S Af s.heap H locs → lv_has ls 6 [(5, .int (nI q)), (4, .int (nI (gR (rkA A i)))), (1, .int b.1), (2, .int (nI (gR b.2))), (3, .int (nI i)), (0, .ref (gA_ad G 0))] → W p l e rm_T_next s m args below meth c H locs 0 0 Q (F0 m 26 ls []) := by
  have hn := hI.1
  have hrk := rk_rnk hI hi
  have hgl := gR_lt hrk hb2
  have hgb := gR_le _ hb2
  have hga := gR_le (rkA A i) (by unfold rnk; omega)
  intro r
  induction r with
  | zero =>
    intro q kn ps H locs ls hq hno hC hP hD hS hl
    have hq : q = 6 := by omega
    subst hq
    refine lv_iload hx hb d_T_next_26 (lv_at hl 0 rfl) ?_
    refine lv_bipush (v := 6) hx hb d_T_next_28 rfl ?_
    refine lv_icmp_ge (tgt := 66) hx hb d_T_next_30 rfl (fun h30 => ?_) (fun h30 => ?_)
    ·
      exact kont kn ps H locs ls hC hP hD hS (by rw [step_none hno]; exact lv_sub hl [2, 3, 4, 5] rfl)
    ·
      exact absurd (by decide) h30
  | succ r ih =>
    intro q kn ps H locs ls hq hno hC hP hD hS hl
    have hq6 : q < 6 := by omega
    refine lv_iload hx hb d_T_next_26 (lv_at hl 0 rfl) ?_
    refine lv_bipush (v := 6) hx hb d_T_next_28 rfl ?_
    refine lv_icmp_ge (tgt := 66) hx hb d_T_next_30 rfl (fun h30 => ?_) (fun h30 => ?_)
    ·
      exact absurd h30 (nI_ge (a := q) (b := 6) hq6 (by omega))
    ·
      refine lv_iload hx hb d_T_next_33 (lv_at hl 1 rfl) ?_
      refine lv_iload_n hx hb d_T_next_35 rfl (lv_at hl 3 rfl) ?_
      refine lv_icmp_ge (tgt := 66) hx hb d_T_next_36 rfl (fun h36 => ?_) (fun h36 => ?_)
      ·
        exact kont kn ps H locs ls hC hP hD hS (by rw [step_ge (fun z => (fun y => nI_ge y (by omega) h36) (hgl.mpr z))]; exact lv_sub hl [2, 3, 4, 5] rfl)
      ·
        have hlt : rkA A i < b.2 := hgl.mp (Nat.lt_of_not_le fun z => h36 (nI_le z (by omega)))
        refine lv_aload_n hx hb d_T_next_39 rfl (lv_at hl 5 rfl) ?_
        refine lv_iload_n hx hb d_T_next_40 rfl (lv_at hl 4 rfl) ?_
        refine lv_iload hx hb d_T_next_41 (lv_at hl 0 rfl) ?_
        refine va_calli (va_runV (As := [.int (nI i), .int (nI q)]) (rest := []) ⟨hx, hb, hml, hown, hts⟩ (c_T_may l X (gU_ps (gU_kn G kn) ps) A Af (nI i) (nI q) hI hC) (cwV 2 hts (gV (wd_2 26 rfl rfl) (wd_1 177 rfl rfl) (wd_1 178 rfl rfl) (wd_1 1 rfl rfl) (wd_1 179 rfl rfl)) rfl rfl rfl ⟨rfl, hd_T_may⟩ ⟨Nat.le_of_ble_eq_true rfl, Nat.le_of_ble_eq_true rfl⟩) (vx_preV (P := PW X Af (gU_ps (gU_kn G kn) ps) A) ⟨hP, hD⟩ hK (va_recv hK.1 hP (ci := 0) rfl cw_0)) rfl rfl hl.1 rfl (lv_room (Nat.le_of_ble_eq_true rfl)) d_T_next_43 ⟨Nat.zero_le _, Nat.zero_le _⟩) hS (fun q _ h => h) (fun q h => h) (fun r43 u43 t43 H locs ht hvm hu43 hB hz hk hS => ?_)
        obtain ⟨hP, hD⟩ := hB
        rw [ht] at hP
        obtain ⟨e43, kn43, ps43, hC43, hu43⟩ := hu43
        subst e43
        subst hu43
        have hP : va_P X.1 classes (cw X (gU_ps (gU_kn (gU_ps (gU_kn G kn) ps) kn43) ps43) A) H := hP
        have hD : va_D Af (cw X (gU_ps (gU_kn (gU_ps (gU_kn G kn) ps) kn43) ps43) A) := hD
        refine lv_if_ne (tgt := 60) hx hb d_T_next_46 rfl (fun h46 => ?_) (fun h46 => ?_)
        ·
          refine lv_iinc (k := 0) (v := (nI q + 1)) (lv' := [(5, .int (nI q + 1)), (4, .int (nI (gR (rkA A i)))), (1, .int b.1), (2, .int (nI (gR b.2))), (3, .int (nI i)), (0, .ref (gA_ad G 0))]) hx hb d_T_next_60 hl rfl rfl (by decide) rfl (fun ls hl => ?_)
          refine lv_goto (tgt := 26) hx hb d_T_next_63 rfl ?_
          exact ih (q + 1) kn43 ps43 H locs ls (by omega) (lt_s hno (by rw [← mayF_nI hI hi hq6]; exact h46)) hC43 hP hD hS (by rw [← nI_1]; exact lv_sub hl [0, 1, 2, 3, 4, 5] rfl)
        ·
          refine lv_bipush (v := 8) hx hb d_T_next_49 rfl ?_
          refine lv_iload_n hx hb d_T_next_51 rfl (lv_at hl 4 rfl) ?_
          refine lv_imul hx hb d_T_next_52 ?_
          refine lv_iload hx hb d_T_next_53 (lv_at hl 0 rfl) ?_
          refine lv_iadd hx hb d_T_next_55 ?_
          rw [show (8 : Int32) * nI i = nI (8 * i) from pk_mul 8 i, nI_add]
          refine lv_istore_n (lv' := [(1, .int (nI (8 * i + q))), (5, .int (nI q)), (4, .int (nI (gR (rkA A i)))), (2, .int (nI (gR b.2))), (3, .int (nI i)), (0, .ref (gA_ad G 0))]) hx hb d_T_next_56 rfl hl (by decide) rfl (fun ls hl => ?_)
          refine lv_iload hx hb d_T_next_57 (lv_at hl 2 rfl) ?_
          refine lv_istore_n (lv' := [(2, .int (nI (gR (rkA A i)))), (1, .int (nI (8 * i + q))), (5, .int (nI q)), (4, .int (nI (gR (rkA A i)))), (3, .int (nI i)), (0, .ref (gA_ad G 0))]) hx hb d_T_next_59 rfl hl (by decide) rfl (fun ls hl => ?_)
          refine lv_iinc (k := 2) (v := (nI q + 1)) (lv' := [(5, .int (nI q + 1)), (2, .int (nI (gR (rkA A i)))), (1, .int (nI (8 * i + q))), (4, .int (nI (gR (rkA A i)))), (3, .int (nI i)), (0, .ref (gA_ad G 0))]) hx hb d_T_next_60 hl rfl rfl (by decide) rfl (fun ls hl => ?_)
          refine lv_goto (tgt := 26) hx hb d_T_next_63 rfl ?_
          refine lv_iload hx hb d_T_next_26 (lv_at hl 0 rfl) ?_
          refine lv_bipush (v := 6) hx hb d_T_next_28 rfl ?_
          refine lv_icmp_ge (tgt := 66) hx hb d_T_next_30 rfl (fun h30_2 => ?_) (fun h30_2 => ?_)
          ·
            have hst := step_some (b := b) hlt hq6 hno (by rw [← mayF_nI hI hi hq6]; exact h46)
            exact kont kn43 ps43 H locs ls hC43 hP hD hS (by rw [hst]; exact lv_sub hl [2, 1, 4, 5] rfl)
          ·
            refine lv_iload hx hb d_T_next_33 (lv_at hl 3 rfl) ?_
            refine lv_iload_n hx hb d_T_next_35 rfl (lv_at hl 1 rfl) ?_
            refine lv_icmp_ge (tgt := 66) hx hb d_T_next_36 rfl (fun h36_2 => ?_) (fun h36_2 => ?_)
            ·
              have hst := step_some (b := b) hlt hq6 hno (by rw [← mayF_nI hI hi hq6]; exact h46)
              exact kont kn43 ps43 H locs ls hC43 hP hD hS (by rw [hst]; exact lv_sub hl [2, 1, 4, 5] rfl)
            ·
              exact absurd (Int32.le_refl _) h36_2
set_option maxRecDepth 20000 in
set_option maxHeartbeats 4000000 in
theorem lp_T_next {p : Program} {l : Launch} {e : Env} {s : State} {m : MethodId} {args : Array Value} {below : List Frame} {meth : Method} {c : Code} {Q : State → Prop} {X : Xt} {G : Gc} {A : St} {Af : Nat → Prop} (hx : p.tables.exec = Jvm.exec) (hb : c.code = b_T_next) (hts : ∀ w ∈ Cond.code y_T_next b_T_next 6 (some .int) :: WA, w.before args s = true) (hown : s.vm.findClass R_ClusterTool = some m.cls) (hml : c.maxLocals = 6) (hK : KK X s) (hI : Inv A) (hBd : snB A)
    (kont : ∀ (kn ps : Nat → Int64) (H : Heap) (locs : List Loc) (ls : Array Slot), RC (gU_ps (gU_kn G kn) ps) A → va_P X.1 classes (cw X (gU_ps (gU_kn G kn) ps) A) H → va_D Af (cw X (gU_ps (gU_kn G kn) ps) A) → va_S Af s.heap H locs → lv_has ls 6 [(1, .int (nextF A))] → W p l e rm_T_next s m args below meth c H locs 0 0 Q (F0 m 72 ls [])) :
    ∀ (r i : Nat) (kn ps : Nat → Int64) (H : Heap) (locs : List Loc) (ls : Array Slot), i + r = sA_n A → RC (gU_ps (gU_kn G kn) ps) A → va_P X.1 classes (cw X (gU_ps (gU_kn G kn) ps) A) H → va_D Af (cw X (gU_ps (gU_kn G kn) ps) A) → va_S Af s.heap H locs → lv_has ls 6 [(1, .int ((nextK A i).1)), (2, .int (nI (gR (nextK A i).2))), (3, .int (nI i)), (0, .ref (gA_ad G 0))] → W p l e rm_T_next s m args below meth c H locs 0 0 Q (F0 m 8 ls []) := by
  have hn := hI.1
  intro r
  induction r with
  | zero =>
    intro i kn ps H locs ls hi hC hP hD hS hl
    have hi : i = sA_n A := by omega
    subst hi
    refine lv_iload_n hx hb d_T_next_8 rfl (lv_at hl 2 rfl) ?_
    refine lv_aload_n hx hb d_T_next_9 rfl (lv_at hl 3 rfl) ?_
    refine va_get (D := X.1) (ci := 0) (C := R_ClusterTool) (T := F_ClusterTool) (N := 8) hx hb hts hin_ClusterTool hown hK.1 hP 0 cw_0 rfl 6 (by decide) (hts _ (wd_1 91 rfl rfl)) (fun _ h9 => h9) rfl d_T_next_10 ?_
    refine lv_icmp_ge (tgt := 72) hx hb d_T_next_13 rfl (fun h13 => ?_) (fun h13 => ?_)
    ·
      exact kont kn ps H locs ls hC hP hD hS (lv_sub hl [0] rfl)
    ·
      exact absurd (nI_le (Nat.le_refl _) (by omega)) h13
  | succ r ih =>
    intro i kn ps H locs ls hi hC hP hD hS hl
    have hin : i < sA_n A := by omega
    have hrn := (next_rnk hI i (by omega)).1
    refine lv_iload_n hx hb d_T_next_8 rfl (lv_at hl 2 rfl) ?_
    refine lv_aload_n hx hb d_T_next_9 rfl (lv_at hl 3 rfl) ?_
    refine va_get (D := X.1) (ci := 0) (C := R_ClusterTool) (T := F_ClusterTool) (N := 8) hx hb hts hin_ClusterTool hown hK.1 hP 0 cw_0 rfl 6 (by decide) (hts _ (wd_1 91 rfl rfl)) (fun _ h9 => h9) rfl d_T_next_10 ?_
    refine lv_icmp_ge (tgt := 72) hx hb d_T_next_13 rfl (fun h13 => ?_) (fun h13 => ?_)
    ·
      exact absurd h13 (nI_ge hin (by omega))
    ·
      refine lv_aload_n hx hb d_T_next_16 rfl (lv_at hl 3 rfl) ?_
      refine lv_iload_n hx hb d_T_next_17 rfl (lv_at hl 2 rfl) ?_
      refine vp_callSi (W.runV (As := [.int (nI i)]) (rest := []) ⟨hx, hb, hml, hown, hts⟩ (c_T_rankOf l X (gU_ps (gU_kn G kn) ps) A (nI i) hI) (cwV 1 hts (gV (wd_2 47 rfl rfl) (wd_2 49 rfl rfl) (wd_s 9 rfl) (wd_1 1 rfl rfl) (wd_2 50 rfl rfl)) rfl rfl rfl ⟨rfl, hd_T_rankOf⟩ ⟨Nat.le_of_ble_eq_true rfl, Nat.le_of_ble_eq_true rfl⟩) (vx_preV (P := PR X (gU_ps (gU_kn G kn) ps) A) hP hK (va_recv hK.1 hP (ci := 0) rfl cw_0)) rfl rfl hl.1 rfl (lv_room (Nat.le_of_ble_eq_true rfl)) d_T_next_18 ⟨Nat.zero_le _, Nat.zero_le _⟩) (fun r18 e18 => ?_)
      subst e18
      rw [rank_nI hI hC hBd hin]
      refine lv_istore (lv' := [(4, .int (nI (gR (rkA A i)))), (1, .int ((nextK A i).1)), (2, .int (nI (gR (nextK A i).2))), (3, .int (nI i)), (0, .ref (gA_ad G 0))]) hx hb d_T_next_21 hl (by decide) rfl (fun ls hl => ?_)
      refine lv_iconst (v := 0) hx hb d_T_next_23 rfl ?_
      refine lv_istore (lv' := [(5, .int 0), (4, .int (nI (gR (rkA A i)))), (1, .int ((nextK A i).1)), (2, .int (nI (gR (nextK A i).2))), (3, .int (nI i)), (0, .ref (gA_ad G 0))]) hx hb d_T_next_24 hl (by decide) rfl (fun ls hl => ?_)
      refine lp_T_next_in (G := G) (b := nextK A i) hx hb hts hown hml hK hI hBd hin hrn (fun kn ps H locs ls hC hP hD hS hl => ?_) 6 0 kn ps H locs ls (by omega) (fun z hz => by omega) hC hP hD hS (lv_sub hl [0, 1, 2, 3, 4, 5] rfl)
      refine lv_iinc (k := 2) (v := (nI i + 1)) (lv' := [(3, .int (nI i + 1)), (1, .int ((nextK A (i + 1)).1)), (2, .int (nI (gR (nextK A (i + 1)).2))), (0, .ref (gA_ad G 0))]) hx hb d_T_next_66 hl rfl rfl (by decide) rfl (fun ls hl => ?_)
      refine lv_goto (tgt := 8) hx hb d_T_next_69 rfl ?_
      exact ih (i + 1) kn ps H locs ls (by omega) hC hP hD hS (by rw [← nI_1]; exact lv_sub hl [1, 2, 0, 3] rfl)
set_option maxRecDepth 20000 in
set_option maxHeartbeats 4000000 in
theorem c_T_next (l : Launch) (X : Xt) (G : Gc) (A : St) (Af : Nat → Prop) (hI : Inv A) (hC : RC G A) (hBd : snB A) : Met l y_T_next (Cond.code y_T_next b_T_next 6 (some .int) :: WA) rm_T_next (va_Pc [.ref (gA_ad G 0)] (fun U => PW X Af G A U.heap ∧ KK X U)) (va_Qi (fun ans u => ans = nextF A ∧ ∃ kn ps, RC (gU_ps (gU_kn G kn) ps) A ∧ u = (gU_ps (gU_kn G kn) ps, A)) (atC X Af) Af) 0 0 Af := by
  refine vx_met (cc := b_T_next) (maxL := 6) (ret := (some .int)) (by decide) rfl (Nat.le_of_ble_eq_true rfl) ?_
  intro p e s m below meth c ls hx hb hrt hts hown hlocks hname hml hB hl
  obtain ⟨hP, hK⟩ := hB
  have hown : s.vm.findClass R_ClusterTool = some m.cls := hown
  have hl : lv_has ls 6 [(0, .ref (gA_ad G 0))] := hl
  have hD : va_D Af (cw X G A) := hP.2
  have hP : va_P X.1 classes (cw X G A) s.heap := hP.1
  have hS : va_S Af s.heap s.heap [] := va_S.rf
  have hn := hI.1
  have hR := hI.2.1
  refine lv_iconst (v := (-1)) hx hb d_T_next_0 rfl ?_
  refine lv_istore_n (lv' := [(1, .int (-1)), (0, .ref (gA_ad G 0))]) hx hb d_T_next_1 rfl hl (by decide) rfl (fun ls hl => ?_)
  refine lv_sipush (v := 1002) hx hb d_T_next_2 rfl ?_
  refine lv_istore_n (lv' := [(2, .int 1002), (1, .int (-1)), (0, .ref (gA_ad G 0))]) hx hb d_T_next_5 rfl hl (by decide) rfl (fun ls hl => ?_)
  refine lv_iconst (v := 0) hx hb d_T_next_6 rfl ?_
  refine lv_istore_n (lv' := [(3, .int 0), (2, .int 1002), (1, .int (-1)), (0, .ref (gA_ad G 0))]) hx hb d_T_next_7 rfl hl (by decide) rfl (fun ls hl => ?_)
  refine lp_T_next (G := G) hx hb hts hown hml hK hI hBd (fun kn ps H locs ls hC hP hD hS hl => ?_) (sA_n A) 0 (gA_kn G) (gA_ps G) _ _ ls (by omega) hC hP hD hS (lv_sub hl [2, 1, 0, 3] rfl)
  refine lv_iload_n hx hb d_T_next_72 rfl (lv_at hl 0 rfl) ?_
  exact W.iret (v := nextF A) hx hb hrt (fun t ht hW => ⟨⟨_, ((gU_ps (gU_kn G kn) ps), A), rfl, ⟨rfl, kn, ps, hC, rfl⟩, ⟨by rw [ht]; exact hP, hD⟩⟩, hS.F ht⟩) hS.2.2 d_T_next_73
abbrev rm_T_go : Room := { frames := 75, cells := 0, slots := 0, locals := 2273 }
set_option maxRecDepth 20000 in
set_option maxHeartbeats 4000000 in
theorem c_T_go (l : Launch) (X : Xt) (G : Gc) (A : St) (Af : Nat → Prop) (hI : Inv A) (hC : RC G A) (hBd : snB A) : Met l y_T_go (Cond.code y_T_go b_T_go 2 (some .int) :: WA) rm_T_go (va_Pc [.ref (gA_ad G 0)] (fun U => PW X Af G A U.heap ∧ KK X U)) (va_Qi (AP G (nextF A) (goA A)) (atC X Af) Af) 0 0 Af := by
  refine vx_met (cc := b_T_go) (maxL := 2) (ret := (some .int)) (by decide) rfl (Nat.le_of_ble_eq_true rfl) ?_
  intro p e s m below meth c ls hx hb hrt hts hown hlocks hname hml hB hl
  obtain ⟨hP, hK⟩ := hB
  have hown : s.vm.findClass R_ClusterTool = some m.cls := hown
  have hl : lv_has ls 2 [(0, .ref (gA_ad G 0))] := hl
  have hD : va_D Af (cw X G A) := hP.2
  have hP : va_P X.1 classes (cw X G A) s.heap := hP.1
  have hS : va_S Af s.heap s.heap [] := va_S.rf
  have hn := hI.1
  have hR := hI.2.1
  refine lv_aload_n hx hb d_T_go_0 rfl (lv_at hl 0 rfl) ?_
  refine va_calli (va_runV (As := []) (rest := []) ⟨hx, hb, hml, hown, hts⟩ (c_T_next l X G A Af hI hC hBd) (cwV 0 hts (gV (wd_2 74 rfl rfl) (wd_2 44 rfl rfl) (wd_2 45 rfl rfl) (wd_1 1 rfl rfl) (wd_2 46 rfl rfl)) rfl rfl rfl ⟨rfl, hd_T_next⟩ ⟨Nat.le_of_ble_eq_true rfl, Nat.le_of_ble_eq_true rfl⟩) (vx_preV (P := PW X Af G A) ⟨hP, hD⟩ hK (va_recv hK.1 hP (ci := 0) rfl cw_0)) rfl rfl hl.1 rfl (lv_room (Nat.le_of_ble_eq_true rfl)) d_T_go_1 ⟨Nat.zero_le _, Nat.zero_le _⟩) hS (fun q _ h => h) (fun q h => h) (fun r1 u1 t1 H locs ht hvm hu1 hB hz hk hS => ?_)
  obtain ⟨hP, hD⟩ := hB
  rw [ht] at hP
  obtain ⟨e1, kn1, ps1, hC1, hu1⟩ := hu1
  subst e1
  subst hu1
  have hP : va_P X.1 classes (cw X (gU_ps (gU_kn G kn1) ps1) A) H := hP
  have hD : va_D Af (cw X (gU_ps (gU_kn G kn1) ps1) A) := hD
  refine lv_istore_n (lv' := [(1, .int (nextF A)), (0, .ref (gA_ad G 0))]) hx hb d_T_go_4 rfl hl (by decide) rfl (fun ls hl => ?_)
  refine lv_iload_n hx hb d_T_go_5 rfl (lv_at hl 0 rfl) ?_
  refine lv_iconst (v := (-1)) hx hb d_T_go_6 rfl ?_
  refine lv_icmp_eq (tgt := 22) hx hb d_T_go_7 rfl (fun h7 => ?_) (fun h7 => ?_)
  ·
    refine lv_iload_n hx hb d_T_go_22 rfl (lv_at hl 0 rfl) ?_
    exact W.iret (v := nextF A) hx hb hrt (fun t ht hW => ⟨⟨_, ((gU_ps (gU_kn G kn1) ps1), A), rfl, ⟨rfl, (by rw [goA, if_pos h7]), (by rw [goA, if_pos h7]; exact hC1), rfl⟩, ⟨by rw [ht]; exact hP, hD⟩⟩, hS.F ht⟩) hS.2.2 d_T_go_23
  ·
    obtain ⟨i, q, hi, hq, hnx, hm0⟩ := (next_spec hI).resolve_left h7
    rw [hnx] at hl
    refine lv_aload_n hx hb d_T_go_10 rfl (lv_at hl 1 rfl) ?_
    refine lv_iload_n hx hb d_T_go_11 rfl (lv_at hl 0 rfl) ?_
    refine lv_bipush (v := 8) hx hb d_T_go_12 rfl ?_
    refine lv_idiv hx hb d_T_go_14 (by decide) ?_
    rw [show (nI (8 * i + q)) / (8 : Int32) = nI i by rw [show (8 : Int32) = nI 8 from rfl, pk_div (by omega) (by omega) (by omega)]; congr 1; omega]
    refine lv_iload_n hx hb d_T_go_15 rfl (lv_at hl 0 rfl) ?_
    refine lv_bipush (v := 8) hx hb d_T_go_16 rfl ?_
    refine lv_irem hx hb d_T_go_18 (by decide) ?_
    rw [show nI (8 * i + q) - nI (8 * i + q) / (8 : Int32) * (8 : Int32) = nI q by rw [show (8 : Int32) = nI 8 from rfl, pk_rem (by omega) (by omega) (by omega)]; congr 1; omega]
    refine va_callv (va_runV (As := [.int (nI i), .int (nI q)]) (rest := []) ⟨hx, hb, hml, hown, hts⟩ (c_T_carry l X (gU_ps (gU_kn G kn1) ps1) A Af i q hI hi hq (fun h4 => lead_sg h4 (may_0 hm0).2.2.1)) (cwV 2 hts (gV (wd_2 27 rfl rfl) (wd_2 29 rfl rfl) (wd_s 8 rfl) (wd_1 1 rfl rfl) (wd_2 30 rfl rfl)) rfl rfl rfl ⟨rfl, hd_T_carry⟩ ⟨Nat.le_of_ble_eq_true rfl, Nat.le_of_ble_eq_true rfl⟩) (vx_preV (P := PW X Af (gU_ps (gU_kn G kn1) ps1) A) ⟨hP, hD⟩ hK (va_recv hK.1 hP (ci := 0) rfl cw_0)) rfl rfl hl.1 rfl (lv_room (Nat.le_of_ble_eq_true rfl)) d_T_go_19 ⟨Nat.zero_le _, Nat.zero_le _⟩) hS (fun q _ h => h) (fun q h => h) (fun u19 t19 H locs ht hvm hu19 hB hz hk hS => ?_)
    obtain ⟨hP, hD⟩ := hB
    rw [ht] at hP
    subst hu19
    have hP : va_P X.1 classes (cw X (carG (gU_ps (gU_kn G kn1) ps1) (sA_pl A i) i q) (moveA A i q)) H := hP
    have hD : va_D Af (cw X (carG (gU_ps (gU_kn G kn1) ps1) (sA_pl A i) i q) (moveA A i q)) := hD
    refine lv_iload_n hx hb d_T_go_22 rfl (lv_at hl 0 rfl) ?_
    exact W.iret (v := nI (8 * i + q)) hx hb hrt (fun t ht hW => ⟨⟨_, ((carG (gU_ps (gU_kn G kn1) ps1) (sA_pl A i) i q), (moveA A i q)), rfl, ⟨hnx.symm, (goA_at (by omega) hq hnx).symm, (by rw [goA_at (by omega) hq hnx]; exact RC_move hI hC1 hi hq hm0), rfl⟩, ⟨by rw [ht]; exact hP, hD⟩⟩, hS.F ht⟩) hS.2.2 d_T_go_23
