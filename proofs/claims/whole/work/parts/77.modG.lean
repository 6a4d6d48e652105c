abbrev rm_M_move : Room := { frames := 6, cells := 0, slots := 0, locals := 145 }
set_option maxRecDepth 20000 in
set_option maxHeartbeats 4000000 in
theorem sg_M_move_59 {p : Program} {l : Launch} {e : Env} {s : State} {m : MethodId} {args : Array Value} {below : List Frame} {meth : Method} {c : Code} {Q : State → Prop} {X : Xt} {G : Gr} {B : St} {Af : Nat → Prop} {i q : Nat} (hx : p.tables.exec = Jvm.exec) (hb : c.code = b_M_move) (hts : ∀ w ∈ Cond.code y_M_move b_M_move 5 (some .int) :: WA, w.before args s = true) (hown : s.vm.findClass R_Model = some m.cls) (hml : c.maxLocals = 5) (hK : KK X s) (hi : i < 25) (hq : q < 6) (w1 : sA_rt B i < 2) (hs3 : q < 4 → sA_sg B i < 3) (kont : ∀ (H : Heap) (locs : List Loc) (ls : Array Slot), va_P X.1 classes (rw_ X G (plB B i q)) H → va_D Af (rw_ X G (plB B i q)) → va_S Af s.heap H locs → lv_has ls 5 [(2, .int (nI q)), (1, .int (nI i)), (0, .ref (rA_ad G 0))] → W p l e rm_M_move s m args below meth c H locs 0 0 Q (F0 m 66 ls [])) : ∀ (H : Heap) (locs : List Loc) (ls : Array Slot), va_P X.1 classes (rw_ X G B) H → va_D Af (rw_ X G B) → va_S Af s.heap H locs → lv_has ls 5 [(2, .int (nI q)), (1, .int (nI i)), (0, .ref (rA_ad G 0))] → W p l e rm_M_move s m args below meth c H locs 0 0 Q (F0 m 59 ls []) := by
  intro H locs ls hP hD hS hl
  refine lv_aload_n hx hb d_M_move_59 rfl (lv_at hl 2 rfl) ?_
  refine va_get (D := X.1) (ci := 6) (C := R_Model) (T := F_Model) (N := 24) hx hb hts hin_Model hown hK.1 hP 0 rw_0 rfl 7 (by decide) (hts _ (wd_2 161 rfl rfl)) (fun _ h9 => h9) rfl d_M_move_60 ?_
  refine lv_iload_n hx hb d_M_move_63 rfl (lv_at hl 1 rfl) ?_
  refine lv_iload_n hx hb d_M_move_64 rfl (lv_at hl 0 rfl) ?_
  refine va_iast hx hb hK.1 hP hD hS 7 0 rw_7 rfl (vp_in_nI (n := i) (by omega) (by omega)) d_M_move_65 (fun H locs hP hD hS => ?_)
  rw [nI_clamp (n := i) (by omega)] at hP hD
  replace hP := vx_P (rw_s_pl (X := X) (G := G) (A := B) (k := i) (v := q)) hP
  replace hD := vx_D (rw_s_pl (X := X) (G := G) (A := B) (k := i) (v := q)) hD
  exact kont H locs ls hP hD hS hl
set_option maxRecDepth 20000 in
set_option maxHeartbeats 4000000 in
theorem sg_M_move_66 {p : Program} {l : Launch} {e : Env} {s : State} {m : MethodId} {args : Array Value} {below : List Frame} {meth : Method} {c : Code} {Q : State → Prop} {X : Xt} {G : Gr} {B : St} {Af : Nat → Prop} {i q : Nat} (hx : p.tables.exec = Jvm.exec) (hb : c.code = b_M_move) (hts : ∀ w ∈ Cond.code y_M_move b_M_move 5 (some .int) :: WA, w.before args s = true) (hown : s.vm.findClass R_Model = some m.cls) (hml : c.maxLocals = 5) (hK : KK X s) (hi : i < 25) (hq : q < 6) (w1 : sA_rt B i < 2) (hs3 : q < 4 → sA_sg B i < 3) (kont : ∀ (H : Heap) (locs : List Loc) (ls : Array Slot), va_P X.1 classes (rw_ X G (if q < 4 then begA B i q else B)) H → va_D Af (rw_ X G (if q < 4 then begA B i q else B)) → va_S Af s.heap H locs → W p l e rm_M_move s m args below meth c H locs 0 0 Q (F0 m 153 ls [])) : ∀ (H : Heap) (locs : List Loc) (ls : Array Slot), va_P X.1 classes (rw_ X G B) H → va_D Af (rw_ X G B) → va_S Af s.heap H locs → lv_has ls 5 [(2, .int (nI q)), (1, .int (nI i)), (0, .ref (rA_ad G 0))] → W p l e rm_M_move s m args below meth c H locs 0 0 Q (F0 m 66 ls []) := by
  intro H locs ls hP hD hS hl
  refine lv_iload_n hx hb d_M_move_66 rfl (lv_at hl 0 rfl) ?_
  refine lv_iconst (v := 4) hx hb d_M_move_67 rfl ?_
  refine lv_icmp_ge (tgt := 153) hx hb d_M_move_68 rfl (fun h68 => ?_) (fun h68 => ?_)
  ·
    have e9 := ge4 hq h68
    exact kont H locs ls (by rw [if_neg e9]; exact hP) (by rw [if_neg e9]; exact hD) hS
  ·
    have hq4 := lt4 hq h68
    have hs4 := hs3 hq4
    refine lv_iconst (v := 3) hx hb d_M_move_71 rfl ?_
    refine lv_iload_n hx hb d_M_move_72 rfl (lv_at hl 1 rfl) ?_
    refine lv_imul hx hb d_M_move_73 ?_
    refine lv_aload_n hx hb d_M_move_74 rfl (lv_at hl 2 rfl) ?_
    refine va_get (D := X.1) (ci := 6) (C := R_Model) (T := F_Model) (N := 24) hx hb hts hin_Model hown hK.1 hP 0 rw_0 rfl 6 (by decide) (hts _ (wd_2 160 rfl rfl)) (fun _ h9 => h9) rfl d_M_move_75 ?_
    refine lv_iload_n hx hb d_M_move_78 rfl (lv_at hl 1 rfl) ?_
    refine va_iald hx hb hK.1 hP 6 0 rw_6 rfl (vp_in_nI (n := i) (by omega) (by omega)) d_M_move_79 ?_
    rw [nI_clamp (n := i) (by omega)]
    refine lv_iadd hx hb d_M_move_80 ?_
    rw [idx3]
    refine lv_istore (lv' := [(4, .int (nI (3 * i + sA_sg B i))), (2, .int (nI q)), (1, .int (nI i)), (0, .ref (rA_ad G 0))]) hx hb d_M_move_81 hl (by decide) rfl (fun ls hl => ?_)
    refine lv_aload_n hx hb d_M_move_83 rfl (lv_at hl 3 rfl) ?_
    refine va_get (D := X.1) (ci := 6) (C := R_Model) (T := F_Model) (N := 24) hx hb hts hin_Model hown hK.1 hP 0 rw_0 rfl 11 (by decide) (hts _ (wd_2 165 rfl rfl)) (fun _ h9 => h9) rfl d_M_move_84 ?_
    refine lv_iload hx hb d_M_move_87 (lv_at hl 0 rfl) ?_
    refine lv_iload_n hx hb d_M_move_89 rfl (lv_at hl 1 rfl) ?_
    refine va_iast hx hb hK.1 hP hD hS 11 0 rw_11 rfl (vp_in_nI (n := 3 * i + sA_sg B i) (by omega) (by omega)) d_M_move_90 (fun H locs hP hD hS => ?_)
    rw [nI_clamp (n := 3 * i + sA_sg B i) (by omega)] at hP hD
    replace hP := vx_P (rw_s_ch (X := X) (G := G) (A := B) (i := i) (s := sA_sg B i) (v := nI q) (by omega)) hP
    replace hD := vx_D (rw_s_ch (X := X) (G := G) (A := B) (i := i) (s := sA_sg B i) (v := nI q) (by omega)) hD
    refine lv_aload_n hx hb d_M_move_91 rfl (lv_at hl 3 rfl) ?_
    refine va_get (D := X.1) (ci := 6) (C := R_Model) (T := F_Model) (N := 24) hx hb hts hin_Model hown hK.1 hP 0 rw_0 rfl 12 (by decide) (hts _ (wd_2 166 rfl rfl)) (fun _ h9 => h9) rfl d_M_move_92 ?_
    refine lv_iload hx hb d_M_move_95 (lv_at hl 0 rfl) ?_
    refine lv_aload_n hx hb d_M_move_97 rfl (lv_at hl 3 rfl) ?_
    refine va_get (D := X.1) (ci := 6) (C := R_Model) (T := F_Model) (N := 24) hx hb hts hin_Model hown hK.1 hP 0 rw_0 rfl 15 (by decide) (hts _ (wd_2 169 rfl rfl)) (fun _ h9 => h9) rfl d_M_move_98 ?_
    refine va_iast hx hb hK.1 hP hD hS 12 0 rw_12 rfl (vp_in_nI (n := 3 * i + sA_sg B i) (by omega) (by omega)) d_M_move_101 (fun H locs hP hD hS => ?_)
    rw [nI_clamp (n := 3 * i + sA_sg B i) (by omega)] at hP hD
    replace hP := vx_P (rw_s_be (X := X) (G := G) (A := (sU_ch B (va_up (sA_ch B) i (upd ((sA_ch B) i) (sA_sg B i) (nI q))))) (i := i) (s := sA_sg B i) (v := sA_ck B) (by omega)) hP
    replace hD := vx_D (rw_s_be (X := X) (G := G) (A := (sU_ch B (va_up (sA_ch B) i (upd ((sA_ch B) i) (sA_sg B i) (nI q))))) (i := i) (s := sA_sg B i) (v := sA_ck B) (by omega)) hD
    refine lv_aload_n hx hb d_M_move_102 rfl (lv_at hl 3 rfl) ?_
    refine va_get (D := X.1) (ci := 6) (C := R_Model) (T := F_Model) (N := 24) hx hb hts hin_Model hown hK.1 hP 0 rw_0 rfl 13 (by decide) (hts _ (wd_2 167 rfl rfl)) (fun _ h9 => h9) rfl d_M_move_103 ?_
    refine lv_iload hx hb d_M_move_106 (lv_at hl 0 rfl) ?_
    refine lv_iconst (v := (-1)) hx hb d_M_move_108 rfl ?_
    refine va_iast hx hb hK.1 hP hD hS 13 0 rw_13 rfl (vp_in_nI (n := 3 * i + sA_sg B i) (by omega) (by omega)) d_M_move_109 (fun H locs hP hD hS => ?_)
    rw [nI_clamp (n := 3 * i + sA_sg B i) (by omega)] at hP hD
    replace hP := vx_P (rw_s_en (X := X) (G := G) (A := (sU_be (sU_ch B (va_up (sA_ch B) i (upd ((sA_ch B) i) (sA_sg B i) (nI q)))) (va_up (sA_be B) i (upd ((sA_be B) i) (sA_sg B i) (sA_ck B))))) (i := i) (s := sA_sg B i) (v := (-1)) (by omega)) hP
    replace hD := vx_D (rw_s_en (X := X) (G := G) (A := (sU_be (sU_ch B (va_up (sA_ch B) i (upd ((sA_ch B) i) (sA_sg B i) (nI q)))) (va_up (sA_be B) i (upd ((sA_be B) i) (sA_sg B i) (sA_ck B))))) (i := i) (s := sA_sg B i) (v := (-1)) (by omega)) hD
    refine lv_aload_n hx hb d_M_move_110 rfl (lv_at hl 3 rfl) ?_
    refine va_get (D := X.1) (ci := 6) (C := R_Model) (T := F_Model) (N := 24) hx hb hts hin_Model hown hK.1 hP 0 rw_0 rfl 8 (by decide) (hts _ (wd_2 162 rfl rfl)) (fun _ h9 => h9) rfl d_M_move_111 ?_
    refine lv_iload_n hx hb d_M_move_114 rfl (lv_at hl 2 rfl) ?_
    refine lv_aload_n hx hb d_M_move_115 rfl (lv_at hl 3 rfl) ?_
    refine va_get (D := X.1) (ci := 6) (C := R_Model) (T := F_Model) (N := 24) hx hb hts hin_Model hown hK.1 hP 0 rw_0 rfl 2 (by decide) (hts _ (wd_2 156 rfl rfl)) (fun _ h9 => h9) rfl d_M_move_116 ?_
    refine lv_iconst (v := 3) hx hb d_M_move_119 rfl ?_
    refine lv_aload_n hx hb d_M_move_120 rfl (lv_at hl 3 rfl) ?_
    refine va_get (D := X.1) (ci := 6) (C := R_Model) (T := F_Model) (N := 24) hx hb hts hin_Model hown hK.1 hP 0 rw_0 rfl 5 (by decide) (hts _ (wd_2 159 rfl rfl)) (fun _ h9 => h9) rfl d_M_move_121 ?_
    refine lv_iload_n hx hb d_M_move_124 rfl (lv_at hl 2 rfl) ?_
    refine va_iald hx hb hK.1 hP 5 0 rw_5 rfl (vp_in_nI (n := i) (by omega) (by omega)) d_M_move_125 ?_
    rw [nI_clamp (n := i) (by omega)]
    refine lv_imul hx hb d_M_move_126 ?_
    refine lv_aload_n hx hb d_M_move_127 rfl (lv_at hl 3 rfl) ?_
    refine va_get (D := X.1) (ci := 6) (C := R_Model) (T := F_Model) (N := 24) hx hb hts hin_Model hown hK.1 hP 0 rw_0 rfl 6 (by decide) (hts _ (wd_2 160 rfl rfl)) (fun _ h9 => h9) rfl d_M_move_128 ?_
    refine lv_iload_n hx hb d_M_move_131 rfl (lv_at hl 2 rfl) ?_
    refine va_iald hx hb hK.1 hP 6 0 rw_6 rfl (vp_in_nI (n := i) (by omega) (by omega)) d_M_move_132 ?_
    rw [nI_clamp (n := i) (by omega)]
    refine lv_iadd hx hb d_M_move_133 ?_
    rw [idx3]
    refine va_iald hx hb hK.1 hP 3 0 rw_3 rfl (vp_in_nI (n := 3 * (sA_rt B i) + (sA_sg B i)) (by omega) (by omega)) d_M_move_134 ?_
    rw [nI_clamp (n := 3 * (sA_rt B i) + (sA_sg B i)) (by omega)]
    rw [show (3 * (sA_rt B i) + (sA_sg B i)) / 3 = (sA_rt B i) by omega, show (3 * (sA_rt B i) + (sA_sg B i)) % 3 = (sA_sg B i) by omega]
    refine va_iast hx hb hK.1 hP hD hS 8 0 rw_8 rfl (vp_in_nI (n := i) (by omega) (by omega)) d_M_move_135 (fun H locs hP hD hS => ?_)
    rw [nI_clamp (n := i) (by omega)] at hP hD
    replace hP := vx_P (rw_s_lf (X := X) (G := G) (A := (sU_en (sU_be (sU_ch B (va_up (sA_ch B) i (upd ((sA_ch B) i) (sA_sg B i) (nI q)))) (va_up (sA_be B) i (upd ((sA_be B) i) (sA_sg B i) (sA_ck B)))) (va_up (sA_en B) i (upd ((sA_en B) i) (sA_sg B i) (-1))))) (k := i) (v := sA_tm B (sA_rt B i) (sA_sg B i))) hP
    replace hD := vx_D (rw_s_lf (X := X) (G := G) (A := (sU_en (sU_be (sU_ch B (va_up (sA_ch B) i (upd ((sA_ch B) i) (sA_sg B i) (nI q)))) (va_up (sA_be B) i (upd ((sA_be B) i) (sA_sg B i) (sA_ck B)))) (va_up (sA_en B) i (upd ((sA_en B) i) (sA_sg B i) (-1))))) (k := i) (v := sA_tm B (sA_rt B i) (sA_sg B i))) hD
    refine lv_aload_n hx hb d_M_move_136 rfl (lv_at hl 3 rfl) ?_
    refine va_get (D := X.1) (ci := 6) (C := R_Model) (T := F_Model) (N := 24) hx hb hts hin_Model hown hK.1 hP 0 rw_0 rfl 9 (by decide) (hts _ (wd_2 163 rfl rfl)) (fun _ h9 => h9) rfl d_M_move_137 ?_
    refine lv_iload_n hx hb d_M_move_140 rfl (lv_at hl 2 rfl) ?_
    refine lv_iconst (v := 0) hx hb d_M_move_141 rfl ?_
    refine va_iast hx hb hK.1 hP hD hS 9 0 rw_9 rfl (vp_in_nI (n := i) (by omega) (by omega)) d_M_move_142 (fun H locs hP hD hS => ?_)
    rw [nI_clamp (n := i) (by omega)] at hP hD
    replace hP := vx_P (rw_s_sn (X := X) (G := G) (A := (sU_lf (sU_en (sU_be (sU_ch B (va_up (sA_ch B) i (upd ((sA_ch B) i) (sA_sg B i) (nI q)))) (va_up (sA_be B) i (upd ((sA_be B) i) (sA_sg B i) (sA_ck B)))) (va_up (sA_en B) i (upd ((sA_en B) i) (sA_sg B i) (-1)))) (va_up (sA_lf B) i (sA_tm B (sA_rt B i) (sA_sg B i))))) (k := i) (v := 0)) hP
    replace hD := vx_D (rw_s_sn (X := X) (G := G) (A := (sU_lf (sU_en (sU_be (sU_ch B (va_up (sA_ch B) i (upd ((sA_ch B) i) (sA_sg B i) (nI q)))) (va_up (sA_be B) i (upd ((sA_be B) i) (sA_sg B i) (sA_ck B)))) (va_up (sA_en B) i (upd ((sA_en B) i) (sA_sg B i) (-1)))) (va_up (sA_lf B) i (sA_tm B (sA_rt B i) (sA_sg B i))))) (k := i) (v := 0)) hD
    refine lv_aload_n hx hb d_M_move_143 rfl (lv_at hl 3 rfl) ?_
    refine va_get (D := X.1) (ci := 6) (C := R_Model) (T := F_Model) (N := 24) hx hb hts hin_Model hown hK.1 hP 0 rw_0 rfl 6 (by decide) (hts _ (wd_2 160 rfl rfl)) (fun _ h9 => h9) rfl d_M_move_144 ?_
    refine lv_iload_n hx hb d_M_move_147 rfl (lv_at hl 2 rfl) ?_
    refine lv_dup2_11 hx hb d_M_move_148 rfl rfl ?_
    refine va_iald hx hb hK.1 hP 6 0 rw_6 rfl (vp_in_nI (n := i) (by omega) (by omega)) d_M_move_149 ?_
    rw [nI_clamp (n := i) (by omega)]
    refine lv_iconst (v := 1) hx hb d_M_move_150 rfl ?_
    refine lv_iadd hx hb d_M_move_151 ?_
    rw [nI_1]
    refine va_iast hx hb hK.1 hP hD hS 6 0 rw_6 rfl (vp_in_nI (n := i) (by omega) (by omega)) d_M_move_152 (fun H locs hP hD hS => ?_)
    rw [nI_clamp (n := i) (by omega)] at hP hD
    replace hP := vx_P (rw_s_sg (X := X) (G := G) (A := (sU_sn (sU_lf (sU_en (sU_be (sU_ch B (va_up (sA_ch B) i (upd ((sA_ch B) i) (sA_sg B i) (nI q)))) (va_up (sA_be B) i (upd ((sA_be B) i) (sA_sg B i) (sA_ck B)))) (va_up (sA_en B) i (upd ((sA_en B) i) (sA_sg B i) (-1)))) (va_up (sA_lf B) i (sA_tm B (sA_rt B i) (sA_sg B i)))) (va_up (sA_sn B) i 0))) (k := i) (v := sA_sg B i + 1)) hP
    replace hD := vx_D (rw_s_sg (X := X) (G := G) (A := (sU_sn (sU_lf (sU_en (sU_be (sU_ch B (va_up (sA_ch B) i (upd ((sA_ch B) i) (sA_sg B i) (nI q)))) (va_up (sA_be B) i (upd ((sA_be B) i) (sA_sg B i) (sA_ck B)))) (va_up (sA_en B) i (upd ((sA_en B) i) (sA_sg B i) (-1)))) (va_up (sA_lf B) i (sA_tm B (sA_rt B i) (sA_sg B i)))) (va_up (sA_sn B) i 0))) (k := i) (v := sA_sg B i + 1)) hD
    have eB : (if q < 4 then begA B i q else B) = (sU_sg (sU_sn (sU_lf (sU_en (sU_be (sU_ch B (va_up (sA_ch B) i (upd ((sA_ch B) i) (sA_sg B i) (nI q)))) (va_up (sA_be B) i (upd ((sA_be B) i) (sA_sg B i) (sA_ck B)))) (va_up (sA_en B) i (upd ((sA_en B) i) (sA_sg B i) (-1)))) (va_up (sA_lf B) i (sA_tm B (sA_rt B i) (sA_sg B i)))) (va_up (sA_sn B) i 0)) (va_up (sA_sg B) i (sA_sg B i + 1))) := by rw [if_pos hq4]; rfl
    exact kont H locs ls (by rw [eB]; exact hP) (by rw [eB]; exact hD) hS
set_option maxRecDepth 20000 in
set_option maxHeartbeats 4000000 in
theorem c_M_move (l : Launch) (X : Xt) (G : Gr) (A : St) (Af : Nat → Prop) (x : Int32) (y : Int32) (hI : Inv A) (hRR : RR G A) : Met l y_M_move (Cond.code y_M_move b_M_move 5 (some .int) :: WA) rm_M_move (va_Pc [.ref (rA_ad G 0), .int x, .int y] (fun U => QW X Af G A U.heap ∧ KK X U)) (va_Qi (BP G (mayF A x y) (moveF A x y)) (atR X Af) Af) 0 0 Af := by
  refine vx_met (cc := b_M_move) (maxL := 5) (ret := (some .int)) (by decide) rfl (Nat.le_of_ble_eq_true rfl) ?_
  intro p e s m below meth c ls hx hb hrt hts hown hlocks hname hml hB hl
  obtain ⟨hP, hK⟩ := hB
  have hown : s.vm.findClass R_Model = some m.cls := hown
  have hl : lv_has ls 5 [(0, .ref (rA_ad G 0)), (1, .int x), (2, .int y)] := hl
  have hD : va_D Af (rw_ X G A) := hP.2
  have hP : va_P X.1 classes (rw_ X G A) s.heap := hP.1
  have hS : va_S Af s.heap s.heap [] := va_S.rf
  have hn := hI.1
  have hR := hI.2.1
  refine lv_aload_n hx hb d_M_move_0 rfl (lv_at hl 0 rfl) ?_
  refine lv_iload_n hx hb d_M_move_1 rfl (lv_at hl 1 rfl) ?_
  refine lv_iload_n hx hb d_M_move_2 rfl (lv_at hl 2 rfl) ?_
  refine va_calli (va_runV (As := [.int x, .int y]) (rest := []) ⟨hx, hb, hml, hown, hts⟩ (c_M_may l X G A Af x y hI hRR) (cwV 2 hts (gV (wd_3 73 rfl rfl) (wd_3 51 rfl rfl) (wd_3 52 rfl rfl) (wd_1 6 rfl rfl) (wd_3 53 rfl rfl)) rfl rfl rfl ⟨rfl, hd_M_may⟩ ⟨Nat.le_of_ble_eq_true rfl, Nat.le_of_ble_eq_true rfl⟩) (vx_preV (P := QW X Af G A) ⟨hP, hD⟩ hK (va_recv hK.1 hP (ci := 6) rfl rw_0)) rfl rfl hl.1 rfl (lv_room (Nat.le_of_ble_eq_true rfl)) d_M_move_3 ⟨Nat.zero_le _, Nat.zero_le _⟩) hS (fun q _ h => h) (fun q h => h) (fun r3 u3 t3 H locs ht hvm hu3 hB hz hk hS => ?_)
  obtain ⟨hP, hD⟩ := hB
  rw [ht] at hP
  obtain ⟨e3, kn3, tr3, tu3, st3, hRR3, hu3⟩ := hu3
  subst e3
  subst hu3
  have hP : va_P X.1 classes (rw_ X (rU_st (rU_tu (rU_tr (rU_kn G kn3) tr3) tu3) st3) A) H := hP
  have hD : va_D Af (rw_ X (rU_st (rU_tu (rU_tr (rU_kn G kn3) tr3) tu3) st3) A) := hD
  refine lv_istore_n (lv' := [(3, .int (mayF A x y)), (0, .ref (rA_ad G 0)), (1, .int x), (2, .int y)]) hx hb d_M_move_6 rfl hl (by decide) rfl (fun ls hl => ?_)
  refine lv_iload_n hx hb d_M_move_7 rfl (lv_at hl 0 rfl) ?_
  refine lv_if_eq (tgt := 13) hx hb d_M_move_8 rfl (fun h8 => ?_) (fun h8 => ?_)
  ·
    obtain ⟨i, q, hi, hq, rfl, rfl, hm0⟩ := mayF_0 hn h8
    obtain ⟨w1, w2, w3, w4, w5, -⟩ := hI.2.2.1 i hi
    have wl := hR.1 (sA_rt A i)
    refine lv_aload_n hx hb d_M_move_13 rfl (lv_at hl 1 rfl) ?_
    refine va_get (D := X.1) (ci := 6) (C := R_Model) (T := F_Model) (N := 24) hx hb hts hin_Model hown hK.1 hP 0 rw_0 rfl 7 (by decide) (hts _ (wd_2 161 rfl rfl)) (fun _ h9 => h9) rfl d_M_move_14 ?_
    refine lv_iload_n hx hb d_M_move_17 rfl (lv_at hl 2 rfl) ?_
    refine va_iald hx hb hK.1 hP 7 0 rw_7 rfl (vp_in_nI (n := i) (by omega) (by omega)) d_M_move_18 ?_
    rw [nI_clamp (n := i) (by omega)]
    refine lv_iload_n hx hb d_M_move_19 rfl (lv_at hl 3 rfl) ?_
    refine vp_callSi (W.runS (As := [.int (nI (sA_pl A i)), .int (nI q)]) (rest := []) ⟨hx, hb, hml, hown, hts⟩ (c_M_byFront l X (nI (sA_pl A i)) (nI q)) (va_cwS 2 hts (gT (wd_3 66 rfl rfl) (wd_3 67 rfl rfl) (wd_1 6 rfl rfl) (wd_3 68 rfl rfl)) rfl rfl rfl hd_M_byFront ⟨Nat.le_of_ble_eq_true rfl, Nat.le_of_ble_eq_true rfl⟩) (vx_preS (P := fun _ => True) trivial hK) rfl rfl hl.1 rfl (lv_room (Nat.le_of_ble_eq_true rfl)) d_M_move_20 ⟨Nat.zero_le _, Nat.zero_le _⟩) (fun r20 e20 => ?_)
    subst e20
    rw [front_nI _ (by omega) _ hq]
    refine lv_if_eq (tgt := 44) hx hb d_M_move_23 rfl (fun h23 => ?_) (fun h23 => ?_)
    ·
      have h23 := b2i_f h23
      refine lv_aload_n hx hb d_M_move_44 rfl (lv_at hl 1 rfl) ?_
      refine lv_iconst (v := 1) hx hb d_M_move_45 rfl ?_
      refine va_put (D := X.1) (ci := 6) (v := .int (b2i true)) (ty := .boolean) (C := R_Model) (T := F_Model) (N := 24) hx hb hts hin_Model t_Model t_Model_ok n_Model hown hK.1 hP hD hS 0 rw_0 rfl 17 (by decide) (hts _ (wd_2 171 rfl rfl)) (fun _ h9 => h9) rfl (by decide +kernel) (b2i_nar _) (b2i_fit _) (Nat.le_of_ble_eq_true rfl) d_M_move_46 (fun H locs hP hD hS => ?_)
      replace hP := vx_P (rw_s_bb (X := X) (G := (rU_st (rU_tu (rU_tr (rU_kn G kn3) tr3) tu3) st3)) (A := A) (v := true)) hP
      replace hD := vx_D (rw_s_bb (X := X) (G := (rU_st (rU_tu (rU_tr (rU_kn G kn3) tr3) tu3) st3)) (A := A) (v := true)) hD
      refine lv_aload_n hx hb d_M_move_49 rfl (lv_at hl 1 rfl) ?_
      refine lv_dup hx hb d_M_move_50 rfl ?_
      refine va_get (D := X.1) (ci := 6) (C := R_Model) (T := F_Model) (N := 24) hx hb hts hin_Model hown hK.1 hP 0 rw_0 rfl 19 (by decide) (hts _ (wd_2 173 rfl rfl)) (fun _ h9 => h9) rfl d_M_move_51 ?_
      refine lv_iconst (v := 1) hx hb d_M_move_54 rfl ?_
      refine lv_iadd hx hb d_M_move_55 ?_
      refine va_put (D := X.1) (ci := 6) (v := .int ((sA_bm A) + 1)) (ty := .int) (C := R_Model) (T := F_Model) (N := 24) hx hb hts hin_Model t_Model t_Model_ok n_Model hown hK.1 hP hD hS 0 rw_0 rfl 19 (by decide) (hts _ (wd_2 173 rfl rfl)) (fun _ h9 => h9) rfl (by decide +kernel) rfl rfl (Nat.le_of_ble_eq_true rfl) d_M_move_56 (fun H locs hP hD hS => ?_)
      replace hP := vx_P (rw_s_bm (X := X) (G := (rU_st (rU_tu (rU_tr (rU_kn G kn3) tr3) tu3) st3)) (A := (sU_bb A true)) (v := ((sA_bm A) + 1))) hP
      replace hD := vx_D (rw_s_bm (X := X) (G := (rU_st (rU_tu (rU_tr (rU_kn G kn3) tr3) tu3) st3)) (A := (sU_bb A true)) (v := ((sA_bm A) + 1))) hD
      have eB : robB A i q = (sU_bm (sU_bb A true) ((sA_bm A) + 1)) := by unfold robB robA; rw [if_pos (bnot_f h23)]
      replace hP : va_P X.1 classes (rw_ X (rU_st (rU_tu (rU_tr (rU_kn G kn3) tr3) tu3) st3) (robB A i q)) H := by rw [eB]; exact hP
      replace hD : va_D Af (rw_ X (rU_st (rU_tu (rU_tr (rU_kn G kn3) tr3) tu3) st3) (robB A i q)) := by rw [eB]; exact hD
      obtain ⟨f1, f2, f3, f4, f5, f6, f7, f8, f9, f10⟩ := robA_f A (backN (sA_pl A i) || backN q)
      clear eB
      generalize hBe : robB A i q = B at hP hD ⊢
      have hBe2 : robA A (backN (sA_pl A i) || backN q) = B := hBe
      rw [hBe2] at f1 f2 f3 f4 f5 f6 f7 f8 f9 f10
      have g1 : sA_rt B i < 2 := by rw [f4]; exact w1
      have g4 : q < 4 → sA_sg B i < 3 := fun h4 => by rw [f3]; have := lead_sg h4 (may_0 hm0).2.2.1; omega
      have hl3 := lv_sub hl [3, 2, 1] rfl
      refine sg_M_move_59 (G := (rU_st (rU_tu (rU_tr (rU_kn G kn3) tr3) tu3) st3)) (B := B) hx hb hts hown hml hK (by omega) hq g1 g4 (fun H locs ls hP hD hS hl => ?_) H locs ls hP hD hS hl3
      refine sg_M_move_66 (G := (rU_st (rU_tu (rU_tr (rU_kn G kn3) tr3) tu3) st3)) (B := plB B i q) hx hb hts hown hml hK (by omega) hq g1 g4 (fun H locs ls hP hD hS => ?_) H locs ls hP hD hS hl
      refine lv_iconst (v := 0) hx hb d_M_move_153 rfl ?_
      have hE : moveA A i q = if q < 4 then begA (plB B i q) i q else plB B i q := by unfold moveA mvA; rw [hBe]
      exact W.iret (v := 0) hx hb hrt (fun t ht hW => ⟨⟨_, ((rU_st (rU_tu (rU_tr (rU_kn G kn3) tr3) tu3) st3), if q < 4 then begA (plB B i q) i q else plB B i q), rfl, ⟨h8.symm, (hE.symm.trans (moveF_at (by omega) hq h8).symm), (by rw [moveF_at (by omega) hq h8]; unfold RR; rw [envA_move]; exact hRR3), rfl⟩, ⟨by rw [ht]; exact hP, hD⟩⟩, hS.F ht⟩) hS.2.2 d_M_move_154
    ·
      have h23 := b2i_t h23
      refine lv_aload_n hx hb d_M_move_26 rfl (lv_at hl 1 rfl) ?_
      refine lv_iconst (v := 1) hx hb d_M_move_27 rfl ?_
      refine va_put (D := X.1) (ci := 6) (v := .int (b2i true)) (ty := .boolean) (C := R_Model) (T := F_Model) (N := 24) hx hb hts hin_Model t_Model t_Model_ok n_Model hown hK.1 hP hD hS 0 rw_0 rfl 16 (by decide) (hts _ (wd_2 170 rfl rfl)) (fun _ h9 => h9) rfl (by decide +kernel) (b2i_nar _) (b2i_fit _) (Nat.le_of_ble_eq_true rfl) d_M_move_28 (fun H locs hP hD hS => ?_)
      replace hP := vx_P (rw_s_fb (X := X) (G := (rU_st (rU_tu (rU_tr (rU_kn G kn3) tr3) tu3) st3)) (A := A) (v := true)) hP
      replace hD := vx_D (rw_s_fb (X := X) (G := (rU_st (rU_tu (rU_tr (rU_kn G kn3) tr3) tu3) st3)) (A := A) (v := true)) hD
      refine lv_aload_n hx hb d_M_move_31 rfl (lv_at hl 1 rfl) ?_
      refine lv_dup hx hb d_M_move_32 rfl ?_
      refine va_get (D := X.1) (ci := 6) (C := R_Model) (T := F_Model) (N := 24) hx hb hts hin_Model hown hK.1 hP 0 rw_0 rfl 18 (by decide) (hts _ (wd_2 172 rfl rfl)) (fun _ h9 => h9) rfl d_M_move_33 ?_
      refine lv_iconst (v := 1) hx hb d_M_move_36 rfl ?_
      refine lv_iadd hx hb d_M_move_37 ?_
      refine va_put (D := X.1) (ci := 6) (v := .int ((sA_fm A) + 1)) (ty := .int) (C := R_Model) (T := F_Model) (N := 24) hx hb hts hin_Model t_Model t_Model_ok n_Model hown hK.1 hP hD hS 0 rw_0 rfl 18 (by decide) (hts _ (wd_2 172 rfl rfl)) (fun _ h9 => h9) rfl (by decide +kernel) rfl rfl (Nat.le_of_ble_eq_true rfl) d_M_move_38 (fun H locs hP hD hS => ?_)
      replace hP := vx_P (rw_s_fm (X := X) (G := (rU_st (rU_tu (rU_tr (rU_kn G kn3) tr3) tu3) st3)) (A := (sU_fb A true)) (v := ((sA_fm A) + 1))) hP
      replace hD := vx_D (rw_s_fm (X := X) (G := (rU_st (rU_tu (rU_tr (rU_kn G kn3) tr3) tu3) st3)) (A := (sU_fb A true)) (v := ((sA_fm A) + 1))) hD
      refine lv_goto (tgt := 59) hx hb d_M_move_41 rfl ?_
      have eB : robB A i q = (sU_fm (sU_fb A true) ((sA_fm A) + 1)) := by unfold robB robA; rw [if_neg (nt_of (bnot_t h23))]
      replace hP : va_P X.1 classes (rw_ X (rU_st (rU_tu (rU_tr (rU_kn G kn3) tr3) tu3) st3) (robB A i q)) H := by rw [eB]; exact hP
      replace hD : va_D Af (rw_ X (rU_st (rU_tu (rU_tr (rU_kn G kn3) tr3) tu3) st3) (robB A i q)) := by rw [eB]; exact hD
      obtain ⟨f1, f2, f3, f4, f5, f6, f7, f8, f9, f10⟩ := robA_f A (backN (sA_pl A i) || backN q)
      clear eB
      generalize hBe : robB A i q = B at hP hD ⊢
      have hBe2 : robA A (backN (sA_pl A i) || backN q) = B := hBe
      rw [hBe2] at f1 f2 f3 f4 f5 f6 f7 f8 f9 f10
      have g1 : sA_rt B i < 2 := by rw [f4]; exact w1
      have g4 : q < 4 → sA_sg B i < 3 := fun h4 => by rw [f3]; have := lead_sg h4 (may_0 hm0).2.2.1; omega
      have hl3 := lv_sub hl [3, 2, 1] rfl
      refine sg_M_move_59 (G := (rU_st (rU_tu (rU_tr (rU_kn G kn3) tr3) tu3) st3)) (B := B) hx hb hts hown hml hK (by omega) hq g1 g4 (fun H locs ls hP hD hS hl => ?_) H locs ls hP hD hS hl3
      refine sg_M_move_66 (G := (rU_st (rU_tu (rU_tr (rU_kn G kn3) tr3) tu3) st3)) (B := plB B i q) hx hb hts hown hml hK (by omega) hq g1 g4 (fun H locs ls hP hD hS => ?_) H locs ls hP hD hS hl
      refine lv_iconst (v := 0) hx hb d_M_move_153 rfl ?_
      have hE : moveA A i q = if q < 4 then begA (plB B i q) i q else plB B i q := by unfold moveA mvA; rw [hBe]
      exact W.iret (v := 0) hx hb hrt (fun t ht hW => ⟨⟨_, ((rU_st (rU_tu (rU_tr (rU_kn G kn3) tr3) tu3) st3), if q < 4 then begA (plB B i q) i q else plB B i q), rfl, ⟨h8.symm, (hE.symm.trans (moveF_at (by omega) hq h8).symm), (by rw [moveF_at (by omega) hq h8]; unfold RR; rw [envA_move]; exact hRR3), rfl⟩, ⟨by rw [ht]; exact hP, hD⟩⟩, hS.F ht⟩) hS.2.2 d_M_move_154
  ·
    refine lv_iload_n hx hb d_M_move_11 rfl (lv_at hl 0 rfl) ?_
    exact W.iret (v := mayF A x y) hx hb hrt (fun t ht hW => ⟨⟨_, ((rU_st (rU_tu (rU_tr (rU_kn G kn3) tr3) tu3) st3), A), rfl, ⟨rfl, (by rw [moveF, if_neg h8]), (by rw [moveF, if_neg h8]; exact hRR3), rfl⟩, ⟨by rw [ht]; exact hP, hD⟩⟩, hS.F ht⟩) hS.2.2 d_M_move_12
abbrev rm_M_safe : Room := { frames := 5, cells := 0, slots := 0, locals := 119 }
set_option maxRecDepth 20000 in
set_option maxHeartbeats 4000000 in
theorem c_M_safe (l : Launch) (X : Xt) (G : Gr) (A : St) (Af : Nat → Prop) (hI : Inv A) (hRR : RR G A) : Met l y_M_safe (Cond.code y_M_safe b_M_safe 1 (some .boolean) :: WA) rm_M_safe (va_Pc [.ref (rA_ad G 0)] (fun U => QW X Af G A U.heap ∧ KK X U)) (va_Qi (BP G (b2i (safeF A)) (A)) (atR X Af) Af) 0 0 Af := by
  refine vx_met (cc := b_M_safe) (maxL := 1) (ret := (some .boolean)) (by decide) rfl (Nat.le_of_ble_eq_true rfl) ?_
  intro p e s m below meth c ls hx hb hrt hts hown hlocks hname hml hB hl
  obtain ⟨hP, hK⟩ := hB
  have hown : s.vm.findClass R_Model = some m.cls := hown
  have hl : lv_has ls 1 [(0, .ref (rA_ad G 0))] := hl
  have hD : va_D Af (rw_ X G A) := hP.2
  have hP : va_P X.1 classes (rw_ X G A) s.heap := hP.1
  have hS : va_S Af s.heap s.heap [] := va_S.rf
  have hn := hI.1
  have hR := hI.2.1
  refine lv_aload_n hx hb d_M_safe_0 rfl (lv_at hl 0 rfl) ?_
  refine lv_aload_n hx hb d_M_safe_1 rfl (lv_at hl 0 rfl) ?_
  refine vp_callSi (W.runV (As := []) (rest := [.ref (rA_ad G 0)]) ⟨hx, hb, hml, hown, hts⟩ (c_M_situation l X G A hI) (cwV 0 hts (gV (wd_3 3 rfl rfl) (wd_3 5 rfl rfl) (wd_s 13 rfl) (wd_1 6 rfl rfl) (wd_3 6 rfl rfl)) rfl rfl rfl ⟨rfl, hd_M_situation⟩ ⟨Nat.le_of_ble_eq_true rfl, Nat.le_of_ble_eq_true rfl⟩) (vx_preV (P := QR X G A) hP hK (va_recv hK.1 hP (ci := 6) rfl rw_0)) rfl rfl hl.1 rfl (lv_room (Nat.le_of_ble_eq_true rfl)) d_M_safe_2 ⟨Nat.zero_le _, Nat.zero_le _⟩) (fun r2 e2 => ?_)
  subst e2
  refine va_calli (va_runV (As := [.int (nI (enc9 (sit9 A)))]) (rest := []) ⟨hx, hb, hml, hown, hts⟩ (c_M_canBeEmptied l X G A Af (enc9 (sit9 A)) hR hRR ((sit9_d hI).2) (by rw [(sit9_d hI).1]; exact ok9_sit hI)) (cwV 1 hts (gV (wd_3 14 rfl rfl) (wd_3 16 rfl rfl) (wd_s 15 rfl) (wd_1 6 rfl rfl) (wd_3 17 rfl rfl)) rfl rfl rfl ⟨rfl, hd_M_canBeEmptied⟩ ⟨Nat.le_of_ble_eq_true rfl, Nat.le_of_ble_eq_true rfl⟩) (vx_preV (P := QW X Af G A) ⟨hP, hD⟩ hK (va_recv hK.1 hP (ci := 6) rfl rw_0)) rfl rfl hl.1 rfl (lv_room (Nat.le_of_ble_eq_true rfl)) d_M_safe_5 ⟨Nat.zero_le _, Nat.zero_le _⟩) hS (fun q _ h => h) (fun q h => h) (fun r5 u5 t5 H locs ht hvm hu5 hB hz hk hS => ?_)
  obtain ⟨hP, hD⟩ := hB
  rw [ht] at hP
  obtain ⟨e5, kn5, tr5, tu5, hki5, hu5⟩ := hu5
  subst e5
  subst hu5
  have hP : va_P X.1 classes (rw_ X (rU_st (rU_tu (rU_tr (rU_kn G kn5) tr5) tu5) false) A) H := hP
  have hD : va_D Af (rw_ X (rU_st (rU_tu (rU_tr (rU_kn G kn5) tr5) tu5) false) A) := hD
  exact W.zret (v := b2i (canC (envA A) (enc9 (sit9 A)))) hx hb hrt (b2i_nar _) (fun t ht hW => ⟨⟨_, ((rU_st (rU_tu (rU_tr (rU_kn G kn5) tr5) tu5) false), A), rfl, ⟨(by unfold safeF; show b2i (canE _ (toS _ (dig9 _))) = _; rw [(sit9_d hI).1]), rfl, Or.inr hki5, rfl⟩, ⟨by rw [ht]; exact hP, hD⟩⟩, hS.F ht⟩) hS.2.2 d_M_safe_8
abbrev rm_M_down : Room := { frames := 0, cells := 0, slots := 0, locals := 0 }
set_option maxRecDepth 20000 in
set_option maxHeartbeats 4000000 in
theorem c_M_down (l : Launch) (X : Xt) (G : Gr) (A : St) (Af : Nat → Prop) (x : Int32) (y : Int32) (hI : Inv A) (hRR : RR G A) (hy : y = 0 ∨ y = 1) : Met l y_M_down (Cond.code y_M_down b_M_down 3 (some .boolean) :: WA) rm_M_down (va_Pc [.ref (rA_ad G 0), .int x, .int y] (fun U => QW X Af G A U.heap ∧ KK X U)) (va_Qi (BP G (b2i (downF A x y)) (downA A x y)) (atR X Af) Af) 0 0 Af := by
  refine vx_met (cc := b_M_down) (maxL := 3) (ret := (some .boolean)) (by decide) rfl (Nat.le_of_ble_eq_true rfl) ?_
  intro p e s m below meth c ls hx hb hrt hts hown hlocks hname hml hB hl
  obtain ⟨hP, hK⟩ := hB
  have hown : s.vm.findClass R_Model = some m.cls := hown
  have hl : lv_has ls 3 [(0, .ref (rA_ad G 0)), (1, .int x), (2, .int y)] := hl
  have hD : va_D Af (rw_ X G A) := hP.2
  have hP : va_P X.1 classes (rw_ X G A) s.heap := hP.1
  have hS : va_S Af s.heap s.heap [] := va_S.rf
  have hn := hI.1
  have hR := hI.2.1
  refine lv_iload_n hx hb d_M_down_0 rfl (lv_at hl 1 rfl) ?_
  refine lv_if_lt (tgt := 19) hx hb d_M_down_1 rfl (fun h1 => ?_) (fun h1 => ?_)
  ·
    refine lv_iconst (v := 0) hx hb d_M_down_19 rfl ?_
    exact W.zret (v := b2i false) hx hb hrt (b2i_nar _) (fun t ht hW => ⟨⟨_, (G, A), rfl, ⟨(down_n (cidx_n1 h1)).1, (down_n (cidx_n1 h1)).2.symm, (by rw [(down_n (cidx_n1 h1)).2]; exact hRR), rfl⟩, ⟨by rw [ht]; exact hP, hD⟩⟩, hS.F ht⟩) hS.2.2 d_M_down_20
  ·
    refine lv_iload_n hx hb d_M_down_4 rfl (lv_at hl 1 rfl) ?_
    refine lv_iconst (v := 3) hx hb d_M_down_5 rfl ?_
    refine lv_icmp_gt (tgt := 19) hx hb d_M_down_6 rfl (fun h6 => ?_) (fun h6 => ?_)
    ·
      refine lv_iconst (v := 0) hx hb d_M_down_19 rfl ?_
      exact W.zret (v := b2i false) hx hb hrt (b2i_nar _) (fun t ht hW => ⟨⟨_, (G, A), rfl, ⟨(down_n (cidx_n2 h6)).1, (down_n (cidx_n2 h6)).2.symm, (by rw [(down_n (cidx_n2 h6)).2]; exact hRR), rfl⟩, ⟨by rw [ht]; exact hP, hD⟩⟩, hS.F ht⟩) hS.2.2 d_M_down_20
    ·
      obtain ⟨q, hq, rfl⟩ := cidx_yes h1 h6
      refine lv_aload_n hx hb d_M_down_9 rfl (lv_at hl 0 rfl) ?_
      refine va_get (D := X.1) (ci := 6) (C := R_Model) (T := F_Model) (N := 24) hx hb hts hin_Model hown hK.1 hP 0 rw_0 rfl 14 (by decide) (hts _ (wd_2 168 rfl rfl)) (fun _ h9 => h9) rfl d_M_down_10 ?_
      refine lv_iload_n hx hb d_M_down_13 rfl (lv_at hl 1 rfl) ?_
      refine va_zald hx hb hK.1 hP 14 2 rw_14 rfl (vp_in_nI (n := q) (by omega) (by omega)) d_M_down_14 ?_
      rw [nI_clamp (n := q) (by omega)]
      refine lv_iload_n hx hb d_M_down_15 rfl (lv_at hl 2 rfl) ?_
      refine lv_icmp_ne (tgt := 21) hx hb d_M_down_16 rfl (fun h16 => ?_) (fun h16 => ?_)
      ·
        refine lv_aload_n hx hb d_M_down_21 rfl (lv_at hl 0 rfl) ?_
        refine va_get (D := X.1) (ci := 6) (C := R_Model) (T := F_Model) (N := 24) hx hb hts hin_Model hown hK.1 hP 0 rw_0 rfl 14 (by decide) (hts _ (wd_2 168 rfl rfl)) (fun _ h9 => h9) rfl d_M_down_22 ?_
        refine lv_iload_n hx hb d_M_down_25 rfl (lv_at hl 1 rfl) ?_
        refine lv_iload_n hx hb d_M_down_26 rfl (lv_at hl 2 rfl) ?_
        refine va_zast hx hb hK.1 hP hD hS 14 2 rw_14 rfl (vp_in_nI (n := q) (by omega) (by omega)) d_M_down_27 (fun H locs hP hD hS => ?_)
        rw [nI_clamp (n := q) (by omega)] at hP hD
        rw [dn_val hy h16] at hP hD
        replace hP := vx_P (rw_s_dn (X := X) (G := G) (A := A) (k := q)) hP
        replace hD := vx_D (rw_s_dn (X := X) (G := G) (A := A) (k := q)) hD
        refine lv_aload_n hx hb d_M_down_28 rfl (lv_at hl 0 rfl) ?_
        refine lv_iconst (v := 1) hx hb d_M_down_29 rfl ?_
        refine va_put (D := X.1) (ci := 6) (v := .int (b2i true)) (ty := .boolean) (C := R_Model) (T := F_Model) (N := 24) hx hb hts hin_Model t_Model t_Model_ok n_Model hown hK.1 hP hD hS 0 rw_0 rfl 21 (by decide) (hts _ (wd_2 175 rfl rfl)) (fun _ h9 => h9) rfl (by decide +kernel) (b2i_nar _) (b2i_fit _) (Nat.le_of_ble_eq_true rfl) d_M_down_30 (fun H locs hP hD hS => ?_)
        replace hP := vx_P (rw_s_st (X := X) (G := G) (A := (sU_dn A (sA_dn A ^^^ 2 ^ q))) (v := true)) hP
        replace hD := vx_D (rw_s_st (X := X) (G := G) (A := (sU_dn A (sA_dn A ^^^ 2 ^ q))) (v := true)) hD
        refine lv_iconst (v := 1) hx hb d_M_down_33 rfl ?_
        exact W.zret (v := b2i true) hx hb hrt (b2i_nar _) (fun t ht hW => ⟨⟨_, ((rU_st G true), (sU_dn A (sA_dn A ^^^ 2 ^ q))), rfl, ⟨(down_y hq h16).1, (down_y hq h16).2.symm, (Or.inl rfl), rfl⟩, ⟨by rw [ht]; exact hP, hD⟩⟩, hS.F ht⟩) hS.2.2 d_M_down_34
      ·
        refine lv_iconst (v := 0) hx hb d_M_down_19 rfl ?_
        exact W.zret (v := b2i false) hx hb hrt (b2i_nar _) (fun t ht hW => ⟨⟨_, (G, A), rfl, ⟨(down_s hq h16).1, (down_s hq h16).2.symm, (by rw [(down_s hq h16).2]; exact hRR), rfl⟩, ⟨by rw [ht]; exact hP, hD⟩⟩, hS.F ht⟩) hS.2.2 d_M_down_20
abbrev rm_M_visit : Room := { frames := 1, cells := 0, slots := 0, locals := 20 }
set_option maxRecDepth 20000 in
set_option maxHeartbeats 4000000 in
theorem c_M_visit (l : Launch) (X : Xt) (G : Gr) (A : St) (Af : Nat → Prop) (x : Int32) (y : Int32) (z : Int32) (k : Int32) (hI : Inv A) (hRR : RR G A) : Met l y_M_visit (Cond.code y_M_visit b_M_visit 6 (some .int) :: WA) rm_M_visit (va_Pc [.ref (rA_ad G 0), .int x, .int y, .int z, .int k] (fun U => QW X Af G A U.heap ∧ KK X U)) (va_Qi (BP G (visitF A x y z k) (visitA A x y z k)) (atR X Af) Af) 0 0 Af := by
  refine vx_met (cc := b_M_visit) (maxL := 6) (ret := (some .int)) (by decide) rfl (Nat.le_of_ble_eq_true rfl) ?_
  intro p e s m below meth c ls hx hb hrt hts hown hlocks hname hml hB hl
  obtain ⟨hP, hK⟩ := hB
  have hown : s.vm.findClass R_Model = some m.cls := hown
  have hl : lv_has ls 6 [(0, .ref (rA_ad G 0)), (1, .int x), (2, .int y), (3, .int z), (4, .int k)] := hl
  have hD : va_D Af (rw_ X G A) := hP.2
  have hP : va_P X.1 classes (rw_ X G A) s.heap := hP.1
  have hS : va_S Af s.heap s.heap [] := va_S.rf
  have hn := hI.1
  have hR := hI.2.1
  refine lv_iload_n hx hb d_M_visit_0 rfl (lv_at hl 1 rfl) ?_
  refine vp_callSi (W.runS (As := [.int x]) (rest := []) ⟨hx, hb, hml, hown, hts⟩ (c_M_isRoute l X x) (va_cwS 1 hts (gT (wd_2 232 rfl rfl) (wd_2 233 rfl rfl) (wd_1 6 rfl rfl) (wd_2 234 rfl rfl)) rfl rfl rfl hd_M_isRoute ⟨Nat.le_of_ble_eq_true rfl, Nat.le_of_ble_eq_true rfl⟩) (vx_preS (P := fun _ => True) trivial hK) rfl rfl hl.1 rfl (lv_room (Nat.le_of_ble_eq_true rfl)) d_M_visit_1 ⟨Nat.zero_le _, Nat.zero_le _⟩) (fun r1 e1 => ?_)
  subst e1
  refine lv_if_eq (tgt := 58) hx hb d_M_visit_4 rfl (fun h4 => ?_) (fun h4 => ?_)
  ·
    have h4 := b2i_f h4
    refine lv_iconst (v := (-1)) hx hb d_M_visit_58 rfl ?_
    have hvo := visit_none (A := A) (x := x) (y := y) (z := z) (k := k) (isRoute_no h4)
    exact W.iret (v := (-1)) hx hb hrt (fun t ht hW => ⟨⟨_, (G, A), rfl, ⟨hvo.1, hvo.2.symm, (by rw [hvo.2]; exact hRR), rfl⟩, ⟨by rw [ht]; exact hP, hD⟩⟩, hS.F ht⟩) hS.2.2 d_M_visit_59
  ·
    have h4 := b2i_t h4
    obtain ⟨r, hr2, rfl, hrx⟩ := isRoute_x h4
    have wl := hR.1 r
    refine lv_aload_n hx hb d_M_visit_7 rfl (lv_at hl 0 rfl) ?_
    refine va_get (D := X.1) (ci := 6) (C := R_Model) (T := F_Model) (N := 24) hx hb hts hin_Model hown hK.1 hP 0 rw_0 rfl 0 (by decide) (hts _ (wd_2 154 rfl rfl)) (fun _ h9 => h9) rfl d_M_visit_8 ?_
    refine lv_iload_n hx hb d_M_visit_11 rfl (lv_at hl 1 rfl) ?_
    refine va_iald hx hb hK.1 hP 1 0 rw_1 rfl (vp_in_nI (n := r) (by omega) (by omega)) d_M_visit_12 ?_
    rw [nI_clamp (n := r) (by omega)]
    refine lv_iconst (v := 3) hx hb d_M_visit_13 rfl ?_
    refine lv_icmp_eq (tgt := 58) hx hb d_M_visit_14 rfl (fun h14 => ?_) (fun h14 => ?_)
    ·
      refine lv_iconst (v := (-1)) hx hb d_M_visit_58 rfl ?_
      have hvo := visit_bad (A := A) (x := nI r) (y := y) (z := z) (k := k) hrx (fun z => z.2.1 (pl3 (by have := hR.1 r; omega) h14))
      exact W.iret (v := (-1)) hx hb hrt (fun t ht hW => ⟨⟨_, (G, A), rfl, ⟨hvo.1, hvo.2.symm, (by rw [hvo.2]; exact hRR), rfl⟩, ⟨by rw [ht]; exact hP, hD⟩⟩, hS.F ht⟩) hS.2.2 d_M_visit_59
    ·
      refine lv_iload_n hx hb d_M_visit_17 rfl (lv_at hl 2 rfl) ?_
      refine lv_iconst (v := 1) hx hb d_M_visit_18 rfl ?_
      refine lv_icmp_lt (tgt := 58) hx hb d_M_visit_19 rfl (fun h19 => ?_) (fun h19 => ?_)
      ·
        refine lv_iconst (v := (-1)) hx hb d_M_visit_58 rfl ?_
        have hvo := visit_bad (A := A) (x := nI r) (y := y) (z := z) (k := k) hrx (fun z => i32_le.mpr z.2.2.1.1 h19)
        exact W.iret (v := (-1)) hx hb hrt (fun t ht hW => ⟨⟨_, (G, A), rfl, ⟨hvo.1, hvo.2.symm, (by rw [hvo.2]; exact hRR), rfl⟩, ⟨by rw [ht]; exact hP, hD⟩⟩, hS.F ht⟩) hS.2.2 d_M_visit_59
      ·
        refine lv_iload_n hx hb d_M_visit_22 rfl (lv_at hl 2 rfl) ?_
        refine lv_bipush (v := 15) hx hb d_M_visit_23 rfl ?_
        refine lv_icmp_gt (tgt := 58) hx hb d_M_visit_25 rfl (fun h25 => ?_) (fun h25 => ?_)
        ·
          refine lv_iconst (v := (-1)) hx hb d_M_visit_58 rfl ?_
          have hvo := visit_bad (A := A) (x := nI r) (y := y) (z := z) (k := k) hrx (fun z => i32_le.mpr z.2.2.1.2 h25)
          exact W.iret (v := (-1)) hx hb hrt (fun t ht hW => ⟨⟨_, (G, A), rfl, ⟨hvo.1, hvo.2.symm, (by rw [hvo.2]; exact hRR), rfl⟩, ⟨by rw [ht]; exact hP, hD⟩⟩, hS.F ht⟩) hS.2.2 d_M_visit_59
        ·
          refine lv_iload_n hx hb d_M_visit_28 rfl (lv_at hl 3 rfl) ?_
          refine lv_iconst (v := 1) hx hb d_M_visit_29 rfl ?_
          refine lv_icmp_lt (tgt := 58) hx hb d_M_visit_30 rfl (fun h30 => ?_) (fun h30 => ?_)
          ·
            refine lv_iconst (v := (-1)) hx hb d_M_visit_58 rfl ?_
            have hvo := visit_bad (A := A) (x := nI r) (y := y) (z := z) (k := k) hrx (fun z => i32_le.mpr z.2.2.2.1.1 h30)
            exact W.iret (v := (-1)) hx hb hrt (fun t ht hW => ⟨⟨_, (G, A), rfl, ⟨hvo.1, hvo.2.symm, (by rw [hvo.2]; exact hRR), rfl⟩, ⟨by rw [ht]; exact hP, hD⟩⟩, hS.F ht⟩) hS.2.2 d_M_visit_59
          ·
            refine lv_iload_n hx hb d_M_visit_33 rfl (lv_at hl 3 rfl) ?_
            refine lv_bipush (v := 100) hx hb d_M_visit_34 rfl ?_
            refine lv_icmp_gt (tgt := 58) hx hb d_M_visit_36 rfl (fun h36 => ?_) (fun h36 => ?_)
            ·
              refine lv_iconst (v := (-1)) hx hb d_M_visit_58 rfl ?_
              have hvo := visit_bad (A := A) (x := nI r) (y := y) (z := z) (k := k) hrx (fun z => i32_le.mpr z.2.2.2.1.2 h36)
              exact W.iret (v := (-1)) hx hb hrt (fun t ht hW => ⟨⟨_, (G, A), rfl, ⟨hvo.1, hvo.2.symm, (by rw [hvo.2]; exact hRR), rfl⟩, ⟨by rw [ht]; exact hP, hD⟩⟩, hS.F ht⟩) hS.2.2 d_M_visit_59
            ·
              refine lv_iload hx hb d_M_visit_39 (lv_at hl 4 rfl) ?_
              refine lv_if_lt (tgt := 58) hx hb d_M_visit_41 rfl (fun h41 => ?_) (fun h41 => ?_)
              ·
                refine lv_iconst (v := (-1)) hx hb d_M_visit_58 rfl ?_
                have hvo := visit_bad (A := A) (x := nI r) (y := y) (z := z) (k := k) hrx (fun z => i32_le.mpr z.2.2.2.2.1 h41)
                exact W.iret (v := (-1)) hx hb hrt (fun t ht hW => ⟨⟨_, (G, A), rfl, ⟨hvo.1, hvo.2.symm, (by rw [hvo.2]; exact hRR), rfl⟩, ⟨by rw [ht]; exact hP, hD⟩⟩, hS.F ht⟩) hS.2.2 d_M_visit_59
              ·
                refine lv_iload hx hb d_M_visit_44 (lv_at hl 4 rfl) ?_
                refine lv_bipush (v := 100) hx hb d_M_visit_46 rfl ?_
                refine lv_icmp_gt (tgt := 58) hx hb d_M_visit_48 rfl (fun h48 => ?_) (fun h48 => ?_)
                ·
                  refine lv_iconst (v := (-1)) hx hb d_M_visit_58 rfl ?_
                  have hvo := visit_bad (A := A) (x := nI r) (y := y) (z := z) (k := k) hrx (fun z => i32_le.mpr z.2.2.2.2.2 h48)
                  exact W.iret (v := (-1)) hx hb hrt (fun t ht hW => ⟨⟨_, (G, A), rfl, ⟨hvo.1, hvo.2.symm, (by rw [hvo.2]; exact hRR), rfl⟩, ⟨by rw [ht]; exact hP, hD⟩⟩, hS.F ht⟩) hS.2.2 d_M_visit_59
                ·
                  refine lv_aload_n hx hb d_M_visit_51 rfl (lv_at hl 0 rfl) ?_
                  refine va_get (D := X.1) (ci := 6) (C := R_Model) (T := F_Model) (N := 24) hx hb hts hin_Model hown hK.1 hP 0 rw_0 rfl 4 (by decide) (hts _ (wd_2 158 rfl rfl)) (fun _ h9 => h9) rfl d_M_visit_52 ?_
                  refine lv_if_le (tgt := 60) hx hb d_M_visit_55 rfl (fun h55 => ?_) (fun h55 => ?_)
                  ·
                    have h0 := n_le0 h55 (by omega)
                    have h3 : sA_len A r ≠ 3 := fun z => h14 (by rw [z]; rfl)
                    obtain ⟨a, ha1, ha2, rfl⟩ := rng (m := 1) (n := 15) h19 h25 rfl rfl
                    obtain ⟨b, hb1, hb2, rfl⟩ := rng (m := 1) (n := 100) h30 h36 rfl rfl
                    obtain ⟨d, hd1, hd2, rfl⟩ := rng (m := 0) (n := 100) h41 h48 rfl rfl
                    refine lv_iconst (v := 3) hx hb d_M_visit_60 rfl ?_
                    refine lv_iload_n hx hb d_M_visit_61 rfl (lv_at hl 1 rfl) ?_
                    refine lv_imul hx hb d_M_visit_62 ?_
                    refine lv_aload_n hx hb d_M_visit_63 rfl (lv_at hl 0 rfl) ?_
                    refine va_get (D := X.1) (ci := 6) (C := R_Model) (T := F_Model) (N := 24) hx hb hts hin_Model hown hK.1 hP 0 rw_0 rfl 0 (by decide) (hts _ (wd_2 154 rfl rfl)) (fun _ h9 => h9) rfl d_M_visit_64 ?_
                    refine lv_iload_n hx hb d_M_visit_67 rfl (lv_at hl 1 rfl) ?_
                    refine va_iald hx hb hK.1 hP 1 0 rw_1 rfl (vp_in_nI (n := r) (by omega) (by omega)) d_M_visit_68 ?_
                    rw [nI_clamp (n := r) (by omega)]
                    refine lv_iadd hx hb d_M_visit_69 ?_
                    rw [idx3]
                    refine lv_istore (lv' := [(5, .int (nI (3 * r + sA_len A r))), (0, .ref (rA_ad G 0)), (1, .int (nI r)), (2, .int (nI a)), (3, .int (nI b)), (4, .int (nI d))]) hx hb d_M_visit_70 hl (by decide) rfl (fun ls hl => ?_)
                    refine lv_aload_n hx hb d_M_visit_72 rfl (lv_at hl 1 rfl) ?_
                    refine va_get (D := X.1) (ci := 6) (C := R_Model) (T := F_Model) (N := 24) hx hb hts hin_Model hown hK.1 hP 0 rw_0 rfl 1 (by decide) (hts _ (wd_2 155 rfl rfl)) (fun _ h9 => h9) rfl d_M_visit_73 ?_
                    refine lv_iload hx hb d_M_visit_76 (lv_at hl 0 rfl) ?_
                    refine lv_iload_n hx hb d_M_visit_78 rfl (lv_at hl 3 rfl) ?_
                    refine va_iast hx hb hK.1 hP hD hS 2 0 rw_2 rfl (vp_in_nI (n := 3 * r + sA_len A r) (by omega) (by omega)) d_M_visit_79 (fun H locs hP hD hS => ?_)
                    rw [nI_clamp (n := 3 * r + sA_len A r) (by omega)] at hP hD
                    replace hP := vx_P (rw_s_mk (X := X) (G := G) (A := A) (i := r) (s := sA_len A r) (v := a) (by omega)) hP
                    replace hD := vx_D (rw_s_mk (X := X) (G := G) (A := A) (i := r) (s := sA_len A r) (v := a) (by omega)) hD
                    refine lv_aload_n hx hb d_M_visit_80 rfl (lv_at hl 1 rfl) ?_
                    refine va_get (D := X.1) (ci := 6) (C := R_Model) (T := F_Model) (N := 24) hx hb hts hin_Model hown hK.1 hP 0 rw_0 rfl 2 (by decide) (hts _ (wd_2 156 rfl rfl)) (fun _ h9 => h9) rfl d_M_visit_81 ?_
                    refine lv_iload hx hb d_M_visit_84 (lv_at hl 0 rfl) ?_
                    refine lv_iload_n hx hb d_M_visit_86 rfl (lv_at hl 4 rfl) ?_
                    refine va_iast hx hb hK.1 hP hD hS 3 0 rw_3 rfl (vp_in_nI (n := 3 * r + sA_len A r) (by omega) (by omega)) d_M_visit_87 (fun H locs hP hD hS => ?_)
                    rw [nI_clamp (n := 3 * r + sA_len A r) (by omega)] at hP hD
                    replace hP := vx_P (rw_s_tm (X := X) (G := G) (A := (sU_mk A (va_up (sA_mk A) r (va_up ((sA_mk A) r) (sA_len A r) a)))) (i := r) (s := sA_len A r) (v := b) (by omega)) hP
                    replace hD := vx_D (rw_s_tm (X := X) (G := G) (A := (sU_mk A (va_up (sA_mk A) r (va_up ((sA_mk A) r) (sA_len A r) a)))) (i := r) (s := sA_len A r) (v := b) (by omega)) hD
                    refine lv_aload_n hx hb d_M_visit_88 rfl (lv_at hl 1 rfl) ?_
                    refine va_get (D := X.1) (ci := 6) (C := R_Model) (T := F_Model) (N := 24) hx hb hts hin_Model hown hK.1 hP 0 rw_0 rfl 3 (by decide) (hts _ (wd_2 157 rfl rfl)) (fun _ h9 => h9) rfl d_M_visit_89 ?_
                    refine lv_iload hx hb d_M_visit_92 (lv_at hl 0 rfl) ?_
                    refine lv_iload hx hb d_M_visit_94 (lv_at hl 5 rfl) ?_
                    refine va_iast hx hb hK.1 hP hD hS 4 0 rw_4 rfl (vp_in_nI (n := 3 * r + sA_len A r) (by omega) (by omega)) d_M_visit_96 (fun H locs hP hD hS => ?_)
                    rw [nI_clamp (n := 3 * r + sA_len A r) (by omega)] at hP hD
                    replace hP := vx_P (rw_s_lm (X := X) (G := G) (A := (sU_tm (sU_mk A (va_up (sA_mk A) r (va_up ((sA_mk A) r) (sA_len A r) a))) (va_up (sA_tm A) r (va_up ((sA_tm A) r) (sA_len A r) b)))) (i := r) (s := sA_len A r) (v := d) (by omega)) hP
                    replace hD := vx_D (rw_s_lm (X := X) (G := G) (A := (sU_tm (sU_mk A (va_up (sA_mk A) r (va_up ((sA_mk A) r) (sA_len A r) a))) (va_up (sA_tm A) r (va_up ((sA_tm A) r) (sA_len A r) b)))) (i := r) (s := sA_len A r) (v := d) (by omega)) hD
                    refine lv_aload_n hx hb d_M_visit_97 rfl (lv_at hl 1 rfl) ?_
                    refine va_get (D := X.1) (ci := 6) (C := R_Model) (T := F_Model) (N := 24) hx hb hts hin_Model hown hK.1 hP 0 rw_0 rfl 0 (by decide) (hts _ (wd_2 154 rfl rfl)) (fun _ h9 => h9) rfl d_M_visit_98 ?_
                    refine lv_iload_n hx hb d_M_visit_101 rfl (lv_at hl 2 rfl) ?_
                    refine lv_dup2_11 hx hb d_M_visit_102 rfl rfl ?_
                    refine va_iald hx hb hK.1 hP 1 0 rw_1 rfl (vp_in_nI (n := r) (by omega) (by omega)) d_M_visit_103 ?_
                    rw [nI_clamp (n := r) (by omega)]
                    refine lv_iconst (v := 1) hx hb d_M_visit_104 rfl ?_
                    refine lv_iadd hx hb d_M_visit_105 ?_
                    rw [nI_1]
                    refine va_iast hx hb hK.1 hP hD hS 1 0 rw_1 rfl (vp_in_nI (n := r) (by omega) (by omega)) d_M_visit_106 (fun H locs hP hD hS => ?_)
                    rw [nI_clamp (n := r) (by omega)] at hP hD
                    replace hP := vx_P (rw_s_len (X := X) (G := G) (A := (sU_lm (sU_tm (sU_mk A (va_up (sA_mk A) r (va_up ((sA_mk A) r) (sA_len A r) a))) (va_up (sA_tm A) r (va_up ((sA_tm A) r) (sA_len A r) b))) (va_up (sA_lm A) r (va_up ((sA_lm A) r) (sA_len A r) d)))) (k := r) (v := sA_len A r + 1)) hP
                    replace hD := vx_D (rw_s_len (X := X) (G := G) (A := (sU_lm (sU_tm (sU_mk A (va_up (sA_mk A) r (va_up ((sA_mk A) r) (sA_len A r) a))) (va_up (sA_tm A) r (va_up ((sA_tm A) r) (sA_len A r) b))) (va_up (sA_lm A) r (va_up ((sA_lm A) r) (sA_len A r) d)))) (k := r) (v := sA_len A r + 1)) hD
                    refine lv_aload_n hx hb d_M_visit_107 rfl (lv_at hl 1 rfl) ?_
                    refine lv_iconst (v := 1) hx hb d_M_visit_108 rfl ?_
                    refine va_put (D := X.1) (ci := 6) (v := .int (b2i true)) (ty := .boolean) (C := R_Model) (T := F_Model) (N := 24) hx hb hts hin_Model t_Model t_Model_ok n_Model hown hK.1 hP hD hS 0 rw_0 rfl 21 (by decide) (hts _ (wd_2 175 rfl rfl)) (fun _ h9 => h9) rfl (by decide +kernel) (b2i_nar _) (b2i_fit _) (Nat.le_of_ble_eq_true rfl) d_M_visit_109 (fun H locs hP hD hS => ?_)
                    replace hP := vx_P (rw_s_st (X := X) (G := G) (A := (sU_len (sU_lm (sU_tm (sU_mk A (va_up (sA_mk A) r (va_up ((sA_mk A) r) (sA_len A r) a))) (va_up (sA_tm A) r (va_up ((sA_tm A) r) (sA_len A r) b))) (va_up (sA_lm A) r (va_up ((sA_lm A) r) (sA_len A r) d))) (va_up (sA_len A) r (sA_len A r + 1)))) (v := true)) hP
                    replace hD := vx_D (rw_s_st (X := X) (G := G) (A := (sU_len (sU_lm (sU_tm (sU_mk A (va_up (sA_mk A) r (va_up ((sA_mk A) r) (sA_len A r) a))) (va_up (sA_tm A) r (va_up ((sA_tm A) r) (sA_len A r) b))) (va_up (sA_lm A) r (va_up ((sA_lm A) r) (sA_len A r) d))) (va_up (sA_len A) r (sA_len A r + 1)))) (v := true)) hD
                    refine lv_aload_n hx hb d_M_visit_112 rfl (lv_at hl 1 rfl) ?_
                    refine va_get (D := X.1) (ci := 6) (C := R_Model) (T := F_Model) (N := 24) hx hb hts hin_Model hown hK.1 hP 0 rw_0 rfl 0 (by decide) (hts _ (wd_2 154 rfl rfl)) (fun _ h9 => h9) rfl d_M_visit_113 ?_
                    refine lv_iload_n hx hb d_M_visit_116 rfl (lv_at hl 2 rfl) ?_
                    refine va_iald hx hb hK.1 hP 1 0 rw_1 rfl (vp_in_nI (n := r) (by omega) (by omega)) d_M_visit_117 ?_
                    rw [nI_clamp (n := r) (by omega)]
                    have hvo := visit_ok (A := A) hrx h0 h3 ⟨ha1, ha2⟩ ⟨hb1, hb2⟩ hd2
                    exact W.iret (v := nI ((va_up (sA_len A) r (sA_len A r + 1)) r)) hx hb hrt (fun t ht hW => ⟨⟨_, ((rU_st G true), (sU_len (sU_lm (sU_tm (sU_mk A (va_up (sA_mk A) r (va_up ((sA_mk A) r) (sA_len A r) a))) (va_up (sA_tm A) r (va_up ((sA_tm A) r) (sA_len A r) b))) (va_up (sA_lm A) r (va_up ((sA_lm A) r) (sA_len A r) d))) (va_up (sA_len A) r (sA_len A r + 1)))), rfl, ⟨(Eq.trans (congrArg nI (va_up_self _ _ _)) hvo.1), hvo.2.symm, (Or.inl rfl), rfl⟩, ⟨by rw [ht]; exact hP, hD⟩⟩, hS.F ht⟩) hS.2.2 d_M_visit_118
                  ·
                    refine lv_iconst (v := (-1)) hx hb d_M_visit_58 rfl ?_
                    have hvo := visit_bad (A := A) (x := nI r) (y := y) (z := z) (k := k) hrx (fun z => nz_of h55 z.1)
                    exact W.iret (v := (-1)) hx hb hrt (fun t ht hW => ⟨⟨_, (G, A), rfl, ⟨hvo.1, hvo.2.symm, (by rw [hvo.2]; exact hRR), rfl⟩, ⟨by rw [ht]; exact hP, hD⟩⟩, hS.F ht⟩) hS.2.2 d_M_visit_59
abbrev rm_M_load : Room := { frames := 1, cells := 0, slots := 0, locals := 20 }
set_option maxRecDepth 20000 in
set_option maxHeartbeats 4000000 in
theorem c_M_load (l : Launch) (X : Xt) (G : Gr) (A : St) (Af : Nat → Prop) (x : Int32) (hI : Inv A) (hRR : RR G A) : Met l y_M_load (Cond.code y_M_load b_M_load 2 (some .int) :: WA) rm_M_load (va_Pc [.ref (rA_ad G 0), .int x] (fun U => QW X Af G A U.heap ∧ KK X U)) (va_Qi (BP G (loadF A x) (loadS A x)) (atR X Af) Af) 0 0 Af := by
  refine vx_met (cc := b_M_load) (maxL := 2) (ret := (some .int)) (by decide) rfl (Nat.le_of_ble_eq_true rfl) ?_
  intro p e s m below meth c ls hx hb hrt hts hown hlocks hname hml hB hl
  obtain ⟨hP, hK⟩ := hB
  have hown : s.vm.findClass R_Model = some m.cls := hown
  have hl : lv_has ls 2 [(0, .ref (rA_ad G 0)), (1, .int x)] := hl
  have hD : va_D Af (rw_ X G A) := hP.2
  have hP : va_P X.1 classes (rw_ X G A) s.heap := hP.1
  have hS : va_S Af s.heap s.heap [] := va_S.rf
  have hn := hI.1
  have hR := hI.2.1
  refine lv_iload_n hx hb d_M_load_0 rfl (lv_at hl 1 rfl) ?_
  refine vp_callSi (W.runS (As := [.int x]) (rest := []) ⟨hx, hb, hml, hown, hts⟩ (c_M_isRoute l X x) (va_cwS 1 hts (gT (wd_2 232 rfl rfl) (wd_2 233 rfl rfl) (wd_1 6 rfl rfl) (wd_2 234 rfl rfl)) rfl rfl rfl hd_M_isRoute ⟨Nat.le_of_ble_eq_true rfl, Nat.le_of_ble_eq_true rfl⟩) (vx_preS (P := fun _ => True) trivial hK) rfl rfl hl.1 rfl (lv_room (Nat.le_of_ble_eq_true rfl)) d_M_load_1 ⟨Nat.zero_le _, Nat.zero_le _⟩) (fun r1 e1 => ?_)
  subst e1
  refine lv_if_eq (tgt := 16) hx hb d_M_load_4 rfl (fun h4 => ?_) (fun h4 => ?_)
  ·
    have h4 := b2i_f h4
    refine lv_iconst (v := (-1)) hx hb d_M_load_16 rfl ?_
    exact W.iret (v := (-1)) hx hb hrt (fun t ht hW => ⟨⟨_, (G, A), rfl, ⟨(load_none (A := A) (isRoute_no h4)).1, (load_none (A := A) (isRoute_no h4)).2.symm, (by rw [(load_none (A := A) (isRoute_no h4)).2]; exact hRR), rfl⟩, ⟨by rw [ht]; exact hP, hD⟩⟩, hS.F ht⟩) hS.2.2 d_M_load_17
  ·
    have h4 := b2i_t h4
    obtain ⟨r, hr2, rfl, hrx⟩ := isRoute_x h4
    refine lv_aload_n hx hb d_M_load_7 rfl (lv_at hl 0 rfl) ?_
    refine va_get (D := X.1) (ci := 6) (C := R_Model) (T := F_Model) (N := 24) hx hb hts hin_Model hown hK.1 hP 0 rw_0 rfl 4 (by decide) (hts _ (wd_2 158 rfl rfl)) (fun _ h9 => h9) rfl d_M_load_8 ?_
    refine lv_bipush (v := 25) hx hb d_M_load_11 rfl ?_
    refine lv_icmp_ne (tgt := 18) hx hb d_M_load_13 rfl (fun h13 => ?_) (fun h13 => ?_)
    ·
      have h25 : sA_n A < 25 := Nat.lt_of_le_of_ne hn (fun z => h13 (by rw [z]; rfl))
      refine lv_aload_n hx hb d_M_load_18 rfl (lv_at hl 0 rfl) ?_
      refine va_get (D := X.1) (ci := 6) (C := R_Model) (T := F_Model) (N := 24) hx hb hts hin_Model hown hK.1 hP 0 rw_0 rfl 5 (by decide) (hts _ (wd_2 159 rfl rfl)) (fun _ h9 => h9) rfl d_M_load_19 ?_
      refine lv_aload_n hx hb d_M_load_22 rfl (lv_at hl 0 rfl) ?_
      refine va_get (D := X.1) (ci := 6) (C := R_Model) (T := F_Model) (N := 24) hx hb hts hin_Model hown hK.1 hP 0 rw_0 rfl 4 (by decide) (hts _ (wd_2 158 rfl rfl)) (fun _ h9 => h9) rfl d_M_load_23 ?_
      refine lv_iload_n hx hb d_M_load_26 rfl (lv_at hl 1 rfl) ?_
      refine va_iast hx hb hK.1 hP hD hS 5 0 rw_5 rfl (vp_in_nI (n := sA_n A) (by omega) (by omega)) d_M_load_27 (fun H locs hP hD hS => ?_)
      rw [nI_clamp (n := sA_n A) (by omega)] at hP hD
      replace hP := vx_P (rw_s_rt (X := X) (G := G) (A := A) (k := sA_n A) (v := r)) hP
      replace hD := vx_D (rw_s_rt (X := X) (G := G) (A := A) (k := sA_n A) (v := r)) hD
      refine lv_aload_n hx hb d_M_load_28 rfl (lv_at hl 0 rfl) ?_
      refine va_get (D := X.1) (ci := 6) (C := R_Model) (T := F_Model) (N := 24) hx hb hts hin_Model hown hK.1 hP 0 rw_0 rfl 7 (by decide) (hts _ (wd_2 161 rfl rfl)) (fun _ h9 => h9) rfl d_M_load_29 ?_
      refine lv_aload_n hx hb d_M_load_32 rfl (lv_at hl 0 rfl) ?_
      refine va_get (D := X.1) (ci := 6) (C := R_Model) (T := F_Model) (N := 24) hx hb hts hin_Model hown hK.1 hP 0 rw_0 rfl 4 (by decide) (hts _ (wd_2 158 rfl rfl)) (fun _ h9 => h9) rfl d_M_load_33 ?_
      refine lv_iconst (v := 5) hx hb d_M_load_36 rfl ?_
      refine va_iast hx hb hK.1 hP hD hS 7 0 rw_7 rfl (vp_in_nI (n := sA_n A) (by omega) (by omega)) d_M_load_37 (fun H locs hP hD hS => ?_)
      rw [nI_clamp (n := sA_n A) (by omega)] at hP hD
      replace hP := vx_P (rw_s_pl (X := X) (G := G) (A := (sU_rt A (va_up (sA_rt A) (sA_n A) r))) (k := sA_n A) (v := 5)) hP
      replace hD := vx_D (rw_s_pl (X := X) (G := G) (A := (sU_rt A (va_up (sA_rt A) (sA_n A) r))) (k := sA_n A) (v := 5)) hD
      refine lv_aload_n hx hb d_M_load_38 rfl (lv_at hl 0 rfl) ?_
      refine lv_dup hx hb d_M_load_39 rfl ?_
      refine va_get (D := X.1) (ci := 6) (C := R_Model) (T := F_Model) (N := 24) hx hb hts hin_Model hown hK.1 hP 0 rw_0 rfl 4 (by decide) (hts _ (wd_2 158 rfl rfl)) (fun _ h9 => h9) rfl d_M_load_40 ?_
      refine lv_iconst (v := 1) hx hb d_M_load_43 rfl ?_
      refine lv_iadd hx hb d_M_load_44 ?_
      rw [nI_1]
      refine va_put (D := X.1) (ci := 6) (v := .int (nI (sA_n A + 1))) (ty := .int) (C := R_Model) (T := F_Model) (N := 24) hx hb hts hin_Model t_Model t_Model_ok n_Model hown hK.1 hP hD hS 0 rw_0 rfl 4 (by decide) (hts _ (wd_2 158 rfl rfl)) (fun _ h9 => h9) rfl (by decide +kernel) rfl rfl (Nat.le_of_ble_eq_true rfl) d_M_load_45 (fun H locs hP hD hS => ?_)
      replace hP := vx_P (rw_s_n (X := X) (G := G) (A := (sU_pl (sU_rt A (va_up (sA_rt A) (sA_n A) r)) (va_up (sA_pl A) (sA_n A) 5))) (v := (sA_n A + 1))) hP
      replace hD := vx_D (rw_s_n (X := X) (G := G) (A := (sU_pl (sU_rt A (va_up (sA_rt A) (sA_n A) r)) (va_up (sA_pl A) (sA_n A) 5))) (v := (sA_n A + 1))) hD
      refine lv_aload_n hx hb d_M_load_48 rfl (lv_at hl 0 rfl) ?_
      refine va_get (D := X.1) (ci := 6) (C := R_Model) (T := F_Model) (N := 24) hx hb hts hin_Model hown hK.1 hP 0 rw_0 rfl 4 (by decide) (hts _ (wd_2 158 rfl rfl)) (fun _ h9 => h9) rfl d_M_load_49 ?_
      refine lv_iconst (v := 1) hx hb d_M_load_52 rfl ?_
      refine lv_isub hx hb d_M_load_53 ?_
      exact W.iret (v := ((nI ((sA_n A + 1))) - 1)) hx hb hrt (fun t ht hW => ⟨⟨_, (G, (sU_n (sU_pl (sU_rt A (va_up (sA_rt A) (sA_n A) r)) (va_up (sA_pl A) (sA_n A) 5)) (sA_n A + 1))), rfl, ⟨(Eq.trans (pk_sub (a := sA_n A + 1) (b := 1) (by omega)) (load_ok hrx h25).1), (load_ok hrx h25).2.symm, (by rw [(load_ok hrx h25).2]; exact hRR), rfl⟩, ⟨by rw [ht]; exact hP, hD⟩⟩, hS.F ht⟩) hS.2.2 d_M_load_54
    ·
      refine lv_iconst (v := (-1)) hx hb d_M_load_16 rfl ?_
      exact W.iret (v := (-1)) hx hb hrt (fun t ht hW => ⟨⟨_, (G, A), rfl, ⟨(load_full (A := A) hrx (Nat.le_of_eq (n25 hn h13).symm)).1, (load_full (A := A) hrx (Nat.le_of_eq (n25 hn h13).symm)).2.symm, (by rw [(load_full (A := A) hrx (Nat.le_of_eq (n25 hn h13).symm)).2]; exact hRR), rfl⟩, ⟨by rw [ht]; exact hP, hD⟩⟩, hS.F ht⟩) hS.2.2 d_M_load_17
