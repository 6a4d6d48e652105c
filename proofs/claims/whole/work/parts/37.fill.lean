abbrev rm_J_fill_kn : Room := { frames := 0, cells := 0, slots := 0, locals := 0 }
set_option maxRecDepth 20000 in
set_option maxHeartbeats 4000000 in
theorem lp_J_fill_kn {p : Program} {l : Launch} {e : Env} {s : State} {m : MethodId} {args : Array Value} {below : List Frame} {meth : Method} {c : Code} {Q : State → Prop} {X : Xt} {G : Gc} {A : St} {Af : Nat → Prop} {v : Int64} (hx : p.tables.exec = Jvm.exec) (hb : c.code = b_J_fill) (hts : ∀ w ∈ Cond.code y_J_fill b_J_fill 5 none :: WA, w.before args s = true) (hown : s.vm.findClass R_Arrays = some m.cls) (hml : c.maxLocals = 5) (hK : KK X s)
    (kont : ∀ (f : Nat → Int64) (H : Heap) (locs : List Loc) (ls : Array Slot), (∀ j, j < 1024 → f j = v) → va_P X.1 classes (cw X (gU_kn G f) A) H → va_D Af (cw X (gU_kn G f) A) → va_S Af s.heap H locs → W p l e rm_J_fill_kn s m args below meth c H locs 0 0 Q (F0 m 22 ls [])) :
    ∀ (r i : Nat) (f : Nat → Int64) (H : Heap) (locs : List Loc) (ls : Array Slot), i + r = 1024 → (∀ j, j < i → f j = v) → va_P X.1 classes (cw X (gU_kn G f) A) H → va_D Af (cw X (gU_kn G f) A) → va_S Af s.heap H locs → lv_has ls 5 [(3, .int (nI i)), (4, .int 1024), (0, .ref (gA_ad G 16)), (1, .long v)] → W p l e rm_J_fill_kn s m args below meth c H locs 0 0 Q (F0 m 6 ls []) := by
  intro r
  induction r with
  | zero =>
    intro i f H locs ls hi hf hP hD hS hl
    have hi : i = 1024 := by omega
    refine lv_iload_n hx hb d_J_fill_6 rfl (lv_at hl 0 rfl) ?_
    refine lv_iload hx hb d_J_fill_7 (lv_at hl 1 rfl) ?_
    refine lv_icmp_ge (tgt := 22) hx hb d_J_fill_9 rfl (fun h9 => ?_) (fun h9 => ?_)
    ·
      exact kont f H locs ls (fun j hj => hf j (by omega)) hP hD hS
    ·
      exact absurd (by rw [hi]; decide) h9
  | succ r ih =>
    intro i f H locs ls hi hf hP hD hS hl
    refine lv_iload_n hx hb d_J_fill_6 rfl (lv_at hl 0 rfl) ?_
    refine lv_iload hx hb d_J_fill_7 (lv_at hl 1 rfl) ?_
    refine lv_icmp_ge (tgt := 22) hx hb d_J_fill_9 rfl (fun h9 => ?_) (fun h9 => ?_)
    ·
      exact absurd h9 (nI_ge (a := i) (b := 1024) (by omega) (by omega))
    ·
      refine lv_aload_n hx hb d_J_fill_12 rfl (lv_at hl 2 rfl) ?_
      refine lv_iload_n hx hb d_J_fill_13 rfl (lv_at hl 0 rfl) ?_
      refine lv_lload_n hx hb d_J_fill_14 rfl (lv_at hl 3 rfl) ?_
      refine va_last hx hb hK.1 hP hD hS 16 1 cw_16 rfl (vp_in_nI (n := i) (by omega) (by omega)) d_J_fill_15 (fun H locs hP hD hS => ?_)
      rw [nI_clamp (n := i) (by omega)] at hP hD
      replace hP := vx_P (cw_s_kn (X := X) (G := (gU_kn G f)) (A := A) (k := i) (v := v)) hP
      replace hD := vx_D (cw_s_kn (X := X) (G := (gU_kn G f)) (A := A) (k := i) (v := v)) hD
      refine lv_iinc (k := 0) (v := (nI i + 1)) (lv' := [(3, .int (nI i + 1)), (4, .int 1024), (0, .ref (gA_ad G 16)), (1, .long v)]) hx hb d_J_fill_16 hl rfl rfl (by decide) rfl (fun ls hl => ?_)
      refine lv_goto (tgt := 6) hx hb d_J_fill_19 rfl ?_
      refine ih (i + 1) (vp_updL f i v) H locs ls (by omega) (fun j hj => ?_) hP hD hS (by rw [← nI_1]; exact lv_sub hl [0, 1, 2, 3] rfl)
      by_cases e1 : j = i
      · rw [e1]; exact pk_uLs
      · rw [pk_uLn e1]; exact hf j (by omega)
set_option maxRecDepth 20000 in
set_option maxHeartbeats 4000000 in
theorem c_J_fill_kn (l : Launch) (X : Xt) (G : Gc) (A : St) (Af : Nat → Prop) (v : Int64) : Met l y_J_fill (Cond.code y_J_fill b_J_fill 5 none :: WA) rm_J_fill_kn (va_Pc [.ref (gA_ad G 16), .long v] (fun U => PW X Af G A U.heap ∧ KK X U)) (va_Qv (fun u => ∃ f : Nat → Int64, (∀ j, j < 1024 → f j = v) ∧ u = (gU_kn G f, A)) (atC X Af) Af) 0 0 Af := by
  refine vx_met (cc := b_J_fill) (maxL := 5) (ret := none) (by decide) rfl (Nat.le_of_ble_eq_true rfl) ?_
  intro p e s m below meth c ls hx hb hrt hts hown hlocks hname hml hB hl
  obtain ⟨hP, hK⟩ := hB
  have hown : s.vm.findClass R_Arrays = some m.cls := hown
  have hl : lv_has ls 5 [(0, .ref (gA_ad G 16)), (1, .long v)] := hl
  have hD : va_D Af (cw X G A) := hP.2
  have hP : va_P X.1 classes (cw X G A) s.heap := hP.1
  have hS : va_S Af s.heap s.heap [] := va_S.rf
  refine lv_iconst (v := 0) hx hb d_J_fill_0 rfl ?_
  refine lv_istore_n (lv' := [(3, .int 0), (0, .ref (gA_ad G 16)), (1, .long v)]) hx hb d_J_fill_1 rfl hl (by decide) rfl (fun ls hl => ?_)
  refine lv_aload_n hx hb d_J_fill_2 rfl (lv_at hl 1 rfl) ?_
  refine va_alen (v := 1024) hx hb hK.1 hP 16 1 cw_16 rfl rfl d_J_fill_3 ?_
  refine lv_istore (lv' := [(4, .int 1024), (3, .int 0), (0, .ref (gA_ad G 16)), (1, .long v)]) hx hb d_J_fill_4 hl (by decide) rfl (fun ls hl => ?_)
  refine lp_J_fill_kn (G := G) (A := A) (Af := Af) (v := v) hx hb hts hown hml hK (fun f H locs ls hf hP hD hS => ?_) 1024 0 (gA_kn G) _ _ ls (by omega) (fun j hj => by omega) hP hD hS (lv_sub hl [1, 0, 2, 3] rfl)
  exact W.vret hx hb hrt (fun t ht hW => ⟨⟨((gU_kn G f), A), rfl, ⟨f, hf, rfl⟩, ⟨by rw [ht]; exact hP, hD⟩⟩, hS.F ht⟩) hS.2.2 d_J_fill_22
abbrev rm_J_fill_ps : Room := { frames := 0, cells := 0, slots := 0, locals := 0 }
set_option maxRecDepth 20000 in
set_option maxHeartbeats 4000000 in
theorem lp_J_fill_ps {p : Program} {l : Launch} {e : Env} {s : State} {m : MethodId} {args : Array Value} {below : List Frame} {meth : Method} {c : Code} {Q : State → Prop} {X : Xt} {G : Gc} {A : St} {Af : Nat → Prop} {v : Int64} (hx : p.tables.exec = Jvm.exec) (hb : c.code = b_J_fill) (hts : ∀ w ∈ Cond.code y_J_fill b_J_fill 5 none :: WA, w.before args s = true) (hown : s.vm.findClass R_Arrays = some m.cls) (hml : c.maxLocals = 5) (hK : KK X s)
    (kont : ∀ (f : Nat → Int64) (H : Heap) (locs : List Loc) (ls : Array Slot), (∀ j, j < 1024 → f j = v) → va_P X.1 classes (cw X (gU_ps G f) A) H → va_D Af (cw X (gU_ps G f) A) → va_S Af s.heap H locs → W p l e rm_J_fill_ps s m args below meth c H locs 0 0 Q (F0 m 22 ls [])) :
    ∀ (r i : Nat) (f : Nat → Int64) (H : Heap) (locs : List Loc) (ls : Array Slot), i + r = 1024 → (∀ j, j < i → f j = v) → va_P X.1 classes (cw X (gU_ps G f) A) H → va_D Af (cw X (gU_ps G f) A) → va_S Af s.heap H locs → lv_has ls 5 [(3, .int (nI i)), (4, .int 1024), (0, .ref (gA_ad G 17)), (1, .long v)] → W p l e rm_J_fill_ps s m args below meth c H locs 0 0 Q (F0 m 6 ls []) := by
  intro r
  induction r with
  | zero =>
    intro i f H locs ls hi hf hP hD hS hl
    have hi : i = 1024 := by omega
    refine lv_iload_n hx hb d_J_fill_6 rfl (lv_at hl 0 rfl) ?_
    refine lv_iload hx hb d_J_fill_7 (lv_at hl 1 rfl) ?_
    refine lv_icmp_ge (tgt := 22) hx hb d_J_fill_9 rfl (fun h9 => ?_) (fun h9 => ?_)
    ·
      exact kont f H locs ls (fun j hj => hf j (by omega)) hP hD hS
    ·
      exact absurd (by rw [hi]; decide) h9
  | succ r ih =>
    intro i f H locs ls hi hf hP hD hS hl
    refine lv_iload_n hx hb d_J_fill_6 rfl (lv_at hl 0 rfl) ?_
    refine lv_iload hx hb d_J_fill_7 (lv_at hl 1 rfl) ?_
    refine lv_icmp_ge (tgt := 22) hx hb d_J_fill_9 rfl (fun h9 => ?_) (fun h9 => ?_)
    ·
      exact absurd h9 (nI_ge (a := i) (b := 1024) (by omega) (by omega))
    ·
      refine lv_aload_n hx hb d_J_fill_12 rfl (lv_at hl 2 rfl) ?_
      refine lv_iload_n hx hb d_J_fill_13 rfl (lv_at hl 0 rfl) ?_
      refine lv_lload_n hx hb d_J_fill_14 rfl (lv_at hl 3 rfl) ?_
      refine va_last hx hb hK.1 hP hD hS 17 1 cw_17 rfl (vp_in_nI (n := i) (by omega) (by omega)) d_J_fill_15 (fun H locs hP hD hS => ?_)
      rw [nI_clamp (n := i) (by omega)] at hP hD
      replace hP := vx_P (cw_s_ps (X := X) (G := (gU_ps G f)) (A := A) (k := i) (v := v)) hP
      replace hD := vx_D (cw_s_ps (X := X) (G := (gU_ps G f)) (A := A) (k := i) (v := v)) hD
      refine lv_iinc (k := 0) (v := (nI i + 1)) (lv' := [(3, .int (nI i + 1)), (4, .int 1024), (0, .ref (gA_ad G 17)), (1, .long v)]) hx hb d_J_fill_16 hl rfl rfl (by decide) rfl (fun ls hl => ?_)
      refine lv_goto (tgt := 6) hx hb d_J_fill_19 rfl ?_
      refine ih (i + 1) (vp_updL f i v) H locs ls (by omega) (fun j hj => ?_) hP hD hS (by rw [← nI_1]; exact lv_sub hl [0, 1, 2, 3] rfl)
      by_cases e1 : j = i
      · rw [e1]; exact pk_uLs
      · rw [pk_uLn e1]; exact hf j (by omega)
set_option maxRecDepth 20000 in
set_option maxHeartbeats 4000000 in
theorem c_J_fill_ps (l : Launch) (X : Xt) (G : Gc) (A : St) (Af : Nat → Prop) (v : Int64) : Met l y_J_fill (Cond.code y_J_fill b_J_fill 5 none :: WA) rm_J_fill_ps (va_Pc [.ref (gA_ad G 17), .long v] (fun U => PW X Af G A U.heap ∧ KK X U)) (va_Qv (fun u => ∃ f : Nat → Int64, (∀ j, j < 1024 → f j = v) ∧ u = (gU_ps G f, A)) (atC X Af) Af) 0 0 Af := by
  refine vx_met (cc := b_J_fill) (maxL := 5) (ret := none) (by decide) rfl (Nat.le_of_ble_eq_true rfl) ?_
  intro p e s m below meth c ls hx hb hrt hts hown hlocks hname hml hB hl
  obtain ⟨hP, hK⟩ := hB
  have hown : s.vm.findClass R_Arrays = some m.cls := hown
  have hl : lv_has ls 5 [(0, .ref (gA_ad G 17)), (1, .long v)] := hl
  have hD : va_D Af (cw X G A) := hP.2
  have hP : va_P X.1 classes (cw X G A) s.heap := hP.1
  have hS : va_S Af s.heap s.heap [] := va_S.rf
  refine lv_iconst (v := 0) hx hb d_J_fill_0 rfl ?_
  refine lv_istore_n (lv' := [(3, .int 0), (0, .ref (gA_ad G 17)), (1, .long v)]) hx hb d_J_fill_1 rfl hl (by decide) rfl (fun ls hl => ?_)
  refine lv_aload_n hx hb d_J_fill_2 rfl (lv_at hl 1 rfl) ?_
  refine va_alen (v := 1024) hx hb hK.1 hP 17 1 cw_17 rfl rfl d_J_fill_3 ?_
  refine lv_istore (lv' := [(4, .int 1024), (3, .int 0), (0, .ref (gA_ad G 17)), (1, .long v)]) hx hb d_J_fill_4 hl (by decide) rfl (fun ls hl => ?_)
  refine lp_J_fill_ps (G := G) (A := A) (Af := Af) (v := v) hx hb hts hown hml hK (fun f H locs ls hf hP hD hS => ?_) 1024 0 (gA_ps G) _ _ ls (by omega) (fun j hj => by omega) hP hD hS (lv_sub hl [1, 0, 2, 3] rfl)
  exact W.vret hx hb hrt (fun t ht hW => ⟨⟨((gU_ps G f), A), rfl, ⟨f, hf, rfl⟩, ⟨by rw [ht]; exact hP, hD⟩⟩, hS.F ht⟩) hS.2.2 d_J_fill_22
abbrev rm_E_forget : Room := { frames := 1, cells := 0, slots := 0, locals := 24 }
set_option maxRecDepth 20000 in
set_option maxHeartbeats 4000000 in
theorem c_E_forget (l : Launch) (X : Xt) (G : Gc) (A : St) (Af : Nat → Prop)  : Met l y_E_forget (Cond.code y_E_forget b_E_forget 1 none :: WA) rm_E_forget (va_Pc [.ref (gA_ad G 2)] (fun U => PW X Af G A U.heap ∧ KK X U)) (va_Qv (fun u => ∃ f1 f2 : Nat → Int64, (∀ j, j < 1024 → f1 j = 0) ∧ (∀ j, j < 1024 → f2 j = 0) ∧ u = (gU_ps (gU_kn G f1) f2, A)) (atC X Af) Af) 0 0 Af := by
  refine vx_met (cc := b_E_forget) (maxL := 1) (ret := none) (by decide) rfl (Nat.le_of_ble_eq_true rfl) ?_
  intro p e s m below meth c ls hx hb hrt hts hown hlocks hname hml hB hl
  obtain ⟨hP, hK⟩ := hB
  have hown : s.vm.findClass R_Emptying = some m.cls := hown
  have hl : lv_has ls 1 [(0, .ref (gA_ad G 2))] := hl
  have hD : va_D Af (cw X G A) := hP.2
  have hP : va_P X.1 classes (cw X G A) s.heap := hP.1
  have hS : va_S Af s.heap s.heap [] := va_S.rf
  refine lv_aload_n hx hb d_E_forget_0 rfl (lv_at hl 0 rfl) ?_
  refine va_get (D := X.1) (ci := 2) (C := R_Emptying) (T := F_Emptying) (N := 2) hx hb hts hin_Emptying hown hK.1 hP 2 cw_2 rfl 0 (by decide) (hts _ (wd_1 60 rfl rfl)) (fun _ h9 => h9) rfl d_E_forget_1 ?_
  refine lv_lconst (v := 0) hx hb d_E_forget_4 rfl ?_
  refine va_callv (va_runS (As := [.ref (gA_ad G 16), .long 0]) (rest := []) ⟨hx, hb, hml, hown, hts⟩ (c_J_fill_kn l X G A Af 0) (va_cwS 2 hts (gT (wd_2 102 rfl rfl) (wd_2 103 rfl rfl) (wd_1 10 rfl rfl) (wd_2 104 rfl rfl)) rfl rfl rfl hd_J_fill ⟨Nat.le_of_ble_eq_true rfl, Nat.le_of_ble_eq_true rfl⟩) (vx_preS (P := PW X Af G A) ⟨hP, hD⟩ hK) rfl rfl hl.1 rfl (lv_room (Nat.le_of_ble_eq_true rfl)) d_E_forget_5 ⟨Nat.zero_le _, Nat.zero_le _⟩) hS (fun q _ h => h) (fun q h => h) (fun u5 t5 H locs ht hvm hu5 hB hz hk hS => ?_)
  obtain ⟨hP, hD⟩ := hB
  rw [ht] at hP
  obtain ⟨f5, hf5, hu5⟩ := hu5
  subst hu5
  have hP : va_P X.1 classes (cw X (gU_kn G f5) A) H := hP
  have hD : va_D Af (cw X (gU_kn G f5) A) := hD
  refine lv_aload_n hx hb d_E_forget_8 rfl (lv_at hl 0 rfl) ?_
  refine va_get (D := X.1) (ci := 2) (C := R_Emptying) (T := F_Emptying) (N := 2) hx hb hts hin_Emptying hown hK.1 hP 2 cw_2 rfl 1 (by decide) (hts _ (wd_1 61 rfl rfl)) (fun _ h9 => h9) rfl d_E_forget_9 ?_
  refine lv_lconst (v := 0) hx hb d_E_forget_12 rfl ?_
  refine va_callv (va_runS (As := [.ref (gA_ad G 17), .long 0]) (rest := []) ⟨hx, hb, hml, hown, hts⟩ (c_J_fill_ps l X (gU_kn G f5) A Af 0) (va_cwS 2 hts (gT (wd_2 102 rfl rfl) (wd_2 103 rfl rfl) (wd_1 10 rfl rfl) (wd_2 104 rfl rfl)) rfl rfl rfl hd_J_fill ⟨Nat.le_of_ble_eq_true rfl, Nat.le_of_ble_eq_true rfl⟩) (vx_preS (P := PW X Af (gU_kn G f5) A) ⟨hP, hD⟩ hK) rfl rfl hl.1 rfl (lv_room (Nat.le_of_ble_eq_true rfl)) d_E_forget_13 ⟨Nat.zero_le _, Nat.zero_le _⟩) hS (fun q _ h => h) (fun q h => h) (fun u13 t13 H locs ht hvm hu13 hB hz hk hS => ?_)
  obtain ⟨hP, hD⟩ := hB
  rw [ht] at hP
  obtain ⟨f13, hf13, hu13⟩ := hu13
  subst hu13
  have hP : va_P X.1 classes (cw X (gU_ps (gU_kn G f5) f13) A) H := hP
  have hD : va_D Af (cw X (gU_ps (gU_kn G f5) f13) A) := hD
  exact W.vret hx hb hrt (fun t ht hW => ⟨⟨((gU_ps (gU_kn G f5) f13), A), rfl, ⟨f5, f13, hf5, hf13, rfl⟩, ⟨by rw [ht]; exact hP, hD⟩⟩, hS.F ht⟩) hS.2.2 d_E_forget_16
