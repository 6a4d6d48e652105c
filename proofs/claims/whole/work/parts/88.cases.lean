set_option maxRecDepth 20000 in
set_option maxHeartbeats 4000000 in
theorem lw_case0 {p : Program} {l : Launch} {e : Env} {s : State} {m : MethodId} {args : Array Value} {below : List Frame} {meth : Method} {c : Code} {Q : State → Prop} {b L : Nat} {xs : Nat → Int32} {X : Xt} (hx : p.tables.exec = Jvm.exec) (hb : c.code = code) (hml : c.maxLocals = 4) (hown : s.vm.findClass R_law = some m.cls) (hts : ∀ w ∈ Cond.initialized "ClusterTool" :: WA, w.before args s = true) (hX : va_X b L xs s s.heap) (hbl : b < s.heap.size) (hL : L ≤ 2560) (hK : KK X s) {k : Nat} (hk5 : 5 * k + 5 ≤ L) (kont : ∀ (G : Gc) (A : St) (R : Gr) (H : Heap) (locs : List Loc) (ls : Array Slot), Inv A → RC G A → RR R A → SNk A (k + 1) → TW X s.heap.size (cw X G A) (rw_ X R A) H → va_S (fun q => s.heap.size ≤ q) s.heap H locs → lv_has ls 4 [(3, .int (nI (5 * k))), (2, .ref (rA_ad R 0)), (1, .ref (gA_ad G 0)), (0, .ref b)] → W p l e room_1 s m args below meth c H locs (36 + 4 * (k + 1)) (6364 + 19 * (k + 1)) Q (F0 m 599 ls [])) : ∀ (G : Gc) (A : St) (R : Gr) (H : Heap) (locs : List Loc) (ls : Array Slot), Inv A → RC G A → RR R A → SNk A k → TW X s.heap.size (cw X G A) (rw_ X R A) H → va_S (fun q => s.heap.size ≤ q) s.heap H locs → lv_has ls 4 [(3, .int (nI (5 * k))), (2, .ref (rA_ad R 0)), (1, .ref (gA_ad G 0)), (0, .ref b)] → W p l e room_1 s m args below meth c H locs (36 + 4 * k) (6364 + 19 * k) Q (F0 m 116 ls []) := by
  intro G A R H locs ls hI hC hRR hN hT hS hl
  have hBd := SNk_B hN (by omega)
  refine lv_aload_n hx hb d_law_116 rfl (lv_at hl 2 rfl) ?_
  refine lv_aload_n hx hb d_law_117 rfl (lv_at hl 3 rfl) ?_
  refine lv_iload_n hx hb d_law_118 rfl (lv_at hl 0 rfl) ?_
  refine lv_iconst (v := 1) hx hb d_law_119 rfl ?_
  refine lv_iadd hx hb d_law_120 ?_
  rw [show nI (5 * k) + 1 = nI (5 * k + 1) from nI_add (5 * k) 1]
  refine va_sld hx hb hX hbl (Nat.not_le.mpr hbl) hS (vp_in_nI (n := 5 * k + 1) (by omega) (by omega)) d_law_121 ?_
  rw [nI_clamp (n := 5 * k + 1) (by omega)]
  refine lv_aload_n hx hb d_law_122 rfl (lv_at hl 3 rfl) ?_
  refine lv_iload_n hx hb d_law_123 rfl (lv_at hl 0 rfl) ?_
  refine lv_iconst (v := 2) hx hb d_law_124 rfl ?_
  refine lv_iadd hx hb d_law_125 ?_
  rw [show nI (5 * k) + 2 = nI (5 * k + 2) from nI_add (5 * k) 2]
  refine va_sld hx hb hX hbl (Nat.not_le.mpr hbl) hS (vp_in_nI (n := 5 * k + 2) (by omega) (by omega)) d_law_126 ?_
  rw [nI_clamp (n := 5 * k + 2) (by omega)]
  refine lv_aload_n hx hb d_law_127 rfl (lv_at hl 3 rfl) ?_
  refine lv_iload_n hx hb d_law_128 rfl (lv_at hl 0 rfl) ?_
  refine lv_iconst (v := 3) hx hb d_law_129 rfl ?_
  refine lv_iadd hx hb d_law_130 ?_
  rw [show nI (5 * k) + 3 = nI (5 * k + 3) from nI_add (5 * k) 3]
  refine va_sld hx hb hX hbl (Nat.not_le.mpr hbl) hS (vp_in_nI (n := 5 * k + 3) (by omega) (by omega)) d_law_131 ?_
  rw [nI_clamp (n := 5 * k + 3) (by omega)]
  refine lv_aload_n hx hb d_law_132 rfl (lv_at hl 3 rfl) ?_
  refine lv_iload_n hx hb d_law_133 rfl (lv_at hl 0 rfl) ?_
  refine lv_iconst (v := 4) hx hb d_law_134 rfl ?_
  refine lv_iadd hx hb d_law_135 ?_
  rw [show nI (5 * k) + 4 = nI (5 * k + 4) from nI_add (5 * k) 4]
  refine va_sld hx hb hX hbl (Nat.not_le.mpr hbl) hS (vp_in_nI (n := 5 * k + 4) (by omega) (by omega)) d_law_136 ?_
  rw [nI_clamp (n := 5 * k + 4) (by omega)]
  refine va_calli (va_runV (As := [.int (xs (5 * k + 1)), .int (xs (5 * k + 2)), .int (xs (5 * k + 3)), .int (xs (5 * k + 4))]) (rest := []) ⟨hx, hb, hml, hown, hts⟩ (c_T_visit l X G A (Ao s.heap.size (rw_ X R A)) (xs (5 * k + 1)) (xs (5 * k + 2)) (xs (5 * k + 3)) (xs (5 * k + 4)) hI hC) (cwV 4 hts (gV (wd_1 110 rfl rfl) (wd_1 111 rfl rfl) (wd_1 112 rfl rfl) (wd_1 1 rfl rfl) (wd_1 113 rfl rfl)) rfl rfl rfl ⟨rfl, hd_T_visit⟩ ⟨Nat.le_of_ble_eq_true rfl, Nat.le_of_ble_eq_true rfl⟩) (vx_preV (P := PW X (Ao s.heap.size (rw_ X R A)) G A) ⟨hT.1, hT.d⟩ hK (va_recv hK.1 hT.1 (ci := 0) rfl cw_0)) rfl rfl hl.1 rfl (lv_room (Nat.le_of_ble_eq_true rfl)) d_law_137 ⟨by show _ ≤ 600000; omega, by show _ ≤ 7302250; omega⟩) hS (fun q _ h => h.1) (fun q h => h.1) (fun r137 u137 t137 H locs ht hvm hu137 hB hz hk hS => ?_)
  obtain ⟨hP, hD⟩ := hB
  rw [ht] at hP
  obtain ⟨g137, a137⟩ := u137
  obtain ⟨e137, hv2, hC, had⟩ := hu137
  have hv2 : a137 = (visitA A (xs (5 * k + 1)) (xs (5 * k + 2)) (xs (5 * k + 3)) (xs (5 * k + 4))) := hv2
  have had : gA_ad g137 0 = gA_ad G 0 := had
  have hC : RC g137 (visitA A (xs (5 * k + 1)) (xs (5 * k + 2)) (xs (5 * k + 3)) (xs (5 * k + 4))) := hC
  have e137 : r137 = visitF A (xs (5 * k + 1)) (xs (5 * k + 2)) (xs (5 * k + 3)) (xs (5 * k + 4)) := e137
  subst e137
  subst hv2
  have hP : va_P X.1 classes (cw X g137 (visitA A (xs (5 * k + 1)) (xs (5 * k + 2)) (xs (5 * k + 3)) (xs (5 * k + 4)))) H := hP
  have hD : va_D (Ao s.heap.size (rw_ X R A)) (cw X g137 (visitA A (xs (5 * k + 1)) (xs (5 * k + 2)) (xs (5 * k + 3)) (xs (5 * k + 4)))) := hD
  replace hT := hT.after hP hD hk
  have hl : lv_has ls 4 [(3, .int (nI (5 * k))), (2, .ref (rA_ad R 0)), (1, .ref (gA_ad g137 0)), (0, .ref b)] := by rw [had]; exact hl
  refine lv_aload_n hx hb d_law_140 rfl (lv_at hl 1 rfl) ?_
  refine lv_aload_n hx hb d_law_141 rfl (lv_at hl 3 rfl) ?_
  refine lv_iload_n hx hb d_law_142 rfl (lv_at hl 0 rfl) ?_
  refine lv_iconst (v := 1) hx hb d_law_143 rfl ?_
  refine lv_iadd hx hb d_law_144 ?_
  rw [show nI (5 * k) + 1 = nI (5 * k + 1) from nI_add (5 * k) 1]
  refine va_sld hx hb hX hbl (Nat.not_le.mpr hbl) hS (vp_in_nI (n := 5 * k + 1) (by omega) (by omega)) d_law_145 ?_
  rw [nI_clamp (n := 5 * k + 1) (by omega)]
  refine lv_aload_n hx hb d_law_146 rfl (lv_at hl 3 rfl) ?_
  refine lv_iload_n hx hb d_law_147 rfl (lv_at hl 0 rfl) ?_
  refine lv_iconst (v := 2) hx hb d_law_148 rfl ?_
  refine lv_iadd hx hb d_law_149 ?_
  rw [show nI (5 * k) + 2 = nI (5 * k + 2) from nI_add (5 * k) 2]
  refine va_sld hx hb hX hbl (Nat.not_le.mpr hbl) hS (vp_in_nI (n := 5 * k + 2) (by omega) (by omega)) d_law_150 ?_
  rw [nI_clamp (n := 5 * k + 2) (by omega)]
  refine lv_aload_n hx hb d_law_151 rfl (lv_at hl 3 rfl) ?_
  refine lv_iload_n hx hb d_law_152 rfl (lv_at hl 0 rfl) ?_
  refine lv_iconst (v := 3) hx hb d_law_153 rfl ?_
  refine lv_iadd hx hb d_law_154 ?_
  rw [show nI (5 * k) + 3 = nI (5 * k + 3) from nI_add (5 * k) 3]
  refine va_sld hx hb hX hbl (Nat.not_le.mpr hbl) hS (vp_in_nI (n := 5 * k + 3) (by omega) (by omega)) d_law_155 ?_
  rw [nI_clamp (n := 5 * k + 3) (by omega)]
  refine lv_aload_n hx hb d_law_156 rfl (lv_at hl 3 rfl) ?_
  refine lv_iload_n hx hb d_law_157 rfl (lv_at hl 0 rfl) ?_
  refine lv_iconst (v := 4) hx hb d_law_158 rfl ?_
  refine lv_iadd hx hb d_law_159 ?_
  rw [show nI (5 * k) + 4 = nI (5 * k + 4) from nI_add (5 * k) 4]
  refine va_sld hx hb hX hbl (Nat.not_le.mpr hbl) hS (vp_in_nI (n := 5 * k + 4) (by omega) (by omega)) d_law_160 ?_
  rw [nI_clamp (n := 5 * k + 4) (by omega)]
  refine va_calli (va_runV (As := [.int (xs (5 * k + 1)), .int (xs (5 * k + 2)), .int (xs (5 * k + 3)), .int (xs (5 * k + 4))]) (rest := [.int (visitF A (xs (5 * k + 1)) (xs (5 * k + 2)) (xs (5 * k + 3)) (xs (5 * k + 4)))]) ⟨hx, hb, hml, hown, hts⟩ (c_M_visit l X R A (Ao s.heap.size (cw X g137 (visitA A (xs (5 * k + 1)) (xs (5 * k + 2)) (xs (5 * k + 3)) (xs (5 * k + 4))))) (xs (5 * k + 1)) (xs (5 * k + 2)) (xs (5 * k + 3)) (xs (5 * k + 4)) hI hRR) (cwV 4 hts (gV (wd_2 228 rfl rfl) (wd_2 229 rfl rfl) (wd_2 230 rfl rfl) (wd_1 6 rfl rfl) (wd_2 231 rfl rfl)) rfl rfl rfl ⟨rfl, hd_M_visit⟩ ⟨Nat.le_of_ble_eq_true rfl, Nat.le_of_ble_eq_true rfl⟩) (vx_preV (P := QW X (Ao s.heap.size (cw X g137 (visitA A (xs (5 * k + 1)) (xs (5 * k + 2)) (xs (5 * k + 3)) (xs (5 * k + 4))))) R A) ⟨hT.2.1, hT.swap.d⟩ hK (va_recv hK.1 hT.2.1 (ci := 6) rfl rw_0)) rfl rfl hl.1 rfl (lv_room (Nat.le_of_ble_eq_true rfl)) d_law_161 ⟨by show _ ≤ 600000; omega, by show _ ≤ 7302250; omega⟩) hS (fun q _ h => h.1) (fun q h => h.1) (fun r161 u161 t161 H locs ht hvm hu161 hB hz hk hS => ?_)
  obtain ⟨hP, hD⟩ := hB
  rw [ht] at hP
  obtain ⟨o161, a161⟩ := u161
  obtain ⟨e161, hv2, hRR, had⟩ := hu161
  have hv2 : a161 = (visitA A (xs (5 * k + 1)) (xs (5 * k + 2)) (xs (5 * k + 3)) (xs (5 * k + 4))) := hv2
  have had : rA_ad o161 0 = rA_ad R 0 := had
  have hRR : RR o161 (visitA A (xs (5 * k + 1)) (xs (5 * k + 2)) (xs (5 * k + 3)) (xs (5 * k + 4))) := hRR
  have e161 : r161 = visitF A (xs (5 * k + 1)) (xs (5 * k + 2)) (xs (5 * k + 3)) (xs (5 * k + 4)) := e161
  subst e161
  subst hv2
  have hP : va_P X.1 classes (rw_ X o161 (visitA A (xs (5 * k + 1)) (xs (5 * k + 2)) (xs (5 * k + 3)) (xs (5 * k + 4)))) H := hP
  have hD : va_D (Ao s.heap.size (cw X g137 (visitA A (xs (5 * k + 1)) (xs (5 * k + 2)) (xs (5 * k + 3)) (xs (5 * k + 4))))) (rw_ X o161 (visitA A (xs (5 * k + 1)) (xs (5 * k + 2)) (xs (5 * k + 3)) (xs (5 * k + 4)))) := hD
  replace hT := (hT.swap.after hP hD hk).swap
  have hl : lv_has ls 4 [(3, .int (nI (5 * k))), (2, .ref (rA_ad o161 0)), (1, .ref (gA_ad g137 0)), (0, .ref b)] := by rw [had]; exact hl
  refine lv_icmp_eq (tgt := 599) hx hb d_law_164 rfl (fun h164 => ?_) (fun h164 => ?_)
  ·
    have hnv : Inv (visitA A (xs (5 * k + 1)) (xs (5 * k + 2)) (xs (5 * k + 3)) (xs (5 * k + 4))) ∧ SNk (visitA A (xs (5 * k + 1)) (xs (5 * k + 2)) (xs (5 * k + 3)) (xs (5 * k + 4))) (k + 1) := (Inv_vis hI hN)
    refine W.widen (k := 36 + 4 * (k + 1)) (n := 6364 + 19 * (k + 1)) (by omega) (by omega) ?_
    exact kont g137 (visitA A (xs (5 * k + 1)) (xs (5 * k + 2)) (xs (5 * k + 3)) (xs (5 * k + 4))) o161 H locs ls hnv.1 hC hRR hnv.2 hT hS (lv_sub hl [0, 1, 2, 3] rfl)
  ·
    exact absurd rfl h164
set_option maxRecDepth 20000 in
set_option maxHeartbeats 4000000 in
theorem lw_case1 {p : Program} {l : Launch} {e : Env} {s : State} {m : MethodId} {args : Array Value} {below : List Frame} {meth : Method} {c : Code} {Q : State → Prop} {b L : Nat} {xs : Nat → Int32} {X : Xt} (hx : p.tables.exec = Jvm.exec) (hb : c.code = code) (hml : c.maxLocals = 4) (hown : s.vm.findClass R_law = some m.cls) (hts : ∀ w ∈ Cond.initialized "ClusterTool" :: WA, w.before args s = true) (hX : va_X b L xs s s.heap) (hbl : b < s.heap.size) (hL : L ≤ 2560) (hK : KK X s) {k : Nat} (hk5 : 5 * k + 5 ≤ L) (kont : ∀ (G : Gc) (A : St) (R : Gr) (H : Heap) (locs : List Loc) (ls : Array Slot), Inv A → RC G A → RR R A → SNk A (k + 1) → TW X s.heap.size (cw X G A) (rw_ X R A) H → va_S (fun q => s.heap.size ≤ q) s.heap H locs → lv_has ls 4 [(3, .int (nI (5 * k))), (2, .ref (rA_ad R 0)), (1, .ref (gA_ad G 0)), (0, .ref b)] → W p l e room_1 s m args below meth c H locs (36 + 4 * (k + 1)) (6364 + 19 * (k + 1)) Q (F0 m 599 ls [])) : ∀ (G : Gc) (A : St) (R : Gr) (H : Heap) (locs : List Loc) (ls : Array Slot), Inv A → RC G A → RR R A → SNk A k → TW X s.heap.size (cw X G A) (rw_ X R A) H → va_S (fun q => s.heap.size ≤ q) s.heap H locs → lv_has ls 4 [(3, .int (nI (5 * k))), (2, .ref (rA_ad R 0)), (1, .ref (gA_ad G 0)), (0, .ref b)] → W p l e room_1 s m args below meth c H locs (36 + 4 * k) (6364 + 19 * k) Q (F0 m 169 ls []) := by
  intro G A R H locs ls hI hC hRR hN hT hS hl
  have hBd := SNk_B hN (by omega)
  refine lv_aload_n hx hb d_law_169 rfl (lv_at hl 2 rfl) ?_
  refine lv_aload_n hx hb d_law_170 rfl (lv_at hl 3 rfl) ?_
  refine lv_iload_n hx hb d_law_171 rfl (lv_at hl 0 rfl) ?_
  refine lv_iconst (v := 1) hx hb d_law_172 rfl ?_
  refine lv_iadd hx hb d_law_173 ?_
  rw [show nI (5 * k) + 1 = nI (5 * k + 1) from nI_add (5 * k) 1]
  refine va_sld hx hb hX hbl (Nat.not_le.mpr hbl) hS (vp_in_nI (n := 5 * k + 1) (by omega) (by omega)) d_law_174 ?_
  rw [nI_clamp (n := 5 * k + 1) (by omega)]
  refine va_calli (va_runV (As := [.int (xs (5 * k + 1))]) (rest := []) ⟨hx, hb, hml, hown, hts⟩ (c_T_load l X G A (Ao s.heap.size (rw_ X R A)) (xs (5 * k + 1)) hI hC) (cwV 1 hts (gV (wd_1 126 rfl rfl) (wd_1 127 rfl rfl) (wd_1 128 rfl rfl) (wd_1 1 rfl rfl) (wd_1 129 rfl rfl)) rfl rfl rfl ⟨rfl, hd_T_load⟩ ⟨Nat.le_of_ble_eq_true rfl, Nat.le_of_ble_eq_true rfl⟩) (vx_preV (P := PL X (Ao s.heap.size (rw_ X R A)) (cw X G A)) ⟨hT.1, hT.d, hT.fresh hS.1⟩ hK (va_recv hK.1 hT.1 (ci := 0) rfl cw_0)) rfl rfl hl.1 rfl (lv_room (Nat.le_of_ble_eq_true rfl)) d_law_175 ⟨by show _ ≤ 600000; omega, by show _ ≤ 7302250; omega⟩) hS (fun q _ h => h.1) (fun q h => h.1) (fun r175 u175 t175 H locs ht hvm hu175 hB hz hk hS => ?_)
  obtain ⟨hP, hD⟩ := hB
  rw [ht] at hP
  obtain ⟨g175, a175⟩ := u175
  obtain ⟨e175, hv2, hC, had⟩ := hu175
  have hv2 : a175 = (loadS A (xs (5 * k + 1))) := hv2
  have had : gA_ad g175 0 = gA_ad G 0 := had
  have hC : RC g175 (loadS A (xs (5 * k + 1))) := hC
  have e175 : r175 = loadF A (xs (5 * k + 1)) := e175
  subst e175
  subst hv2
  have hP : va_P X.1 classes (cw X g175 (loadS A (xs (5 * k + 1)))) H := hP
  have hD : va_D (Ao s.heap.size (rw_ X R A)) (cw X g175 (loadS A (xs (5 * k + 1)))) := hD
  replace hT := hT.after hP hD hk
  have hl : lv_has ls 4 [(3, .int (nI (5 * k))), (2, .ref (rA_ad R 0)), (1, .ref (gA_ad g175 0)), (0, .ref b)] := by rw [had]; exact hl
  refine lv_aload_n hx hb d_law_178 rfl (lv_at hl 1 rfl) ?_
  refine lv_aload_n hx hb d_law_179 rfl (lv_at hl 3 rfl) ?_
  refine lv_iload_n hx hb d_law_180 rfl (lv_at hl 0 rfl) ?_
  refine lv_iconst (v := 1) hx hb d_law_181 rfl ?_
  refine lv_iadd hx hb d_law_182 ?_
  rw [show nI (5 * k) + 1 = nI (5 * k + 1) from nI_add (5 * k) 1]
  refine va_sld hx hb hX hbl (Nat.not_le.mpr hbl) hS (vp_in_nI (n := 5 * k + 1) (by omega) (by omega)) d_law_183 ?_
  rw [nI_clamp (n := 5 * k + 1) (by omega)]
  refine va_calli (va_runV (As := [.int (xs (5 * k + 1))]) (rest := [.int (loadF A (xs (5 * k + 1)))]) ⟨hx, hb, hml, hown, hts⟩ (c_M_load l X R A (Ao s.heap.size (cw X g175 (loadS A (xs (5 * k + 1))))) (xs (5 * k + 1)) hI hRR) (cwV 1 hts (gV (wd_2 235 rfl rfl) (wd_2 236 rfl rfl) (wd_2 237 rfl rfl) (wd_1 6 rfl rfl) (wd_2 238 rfl rfl)) rfl rfl rfl ⟨rfl, hd_M_load⟩ ⟨Nat.le_of_ble_eq_true rfl, Nat.le_of_ble_eq_true rfl⟩) (vx_preV (P := QW X (Ao s.heap.size (cw X g175 (loadS A (xs (5 * k + 1))))) R A) ⟨hT.2.1, hT.swap.d⟩ hK (va_recv hK.1 hT.2.1 (ci := 6) rfl rw_0)) rfl rfl hl.1 rfl (lv_room (Nat.le_of_ble_eq_true rfl)) d_law_184 ⟨by show _ ≤ 600000; omega, by show _ ≤ 7302250; omega⟩) hS (fun q _ h => h.1) (fun q h => h.1) (fun r184 u184 t184 H locs ht hvm hu184 hB hz hk hS => ?_)
  obtain ⟨hP, hD⟩ := hB
  rw [ht] at hP
  obtain ⟨o184, a184⟩ := u184
  obtain ⟨e184, hv2, hRR, had⟩ := hu184
  have hv2 : a184 = (loadS A (xs (5 * k + 1))) := hv2
  have had : rA_ad o184 0 = rA_ad R 0 := had
  have hRR : RR o184 (loadS A (xs (5 * k + 1))) := hRR
  have e184 : r184 = loadF A (xs (5 * k + 1)) := e184
  subst e184
  subst hv2
  have hP : va_P X.1 classes (rw_ X o184 (loadS A (xs (5 * k + 1)))) H := hP
  have hD : va_D (Ao s.heap.size (cw X g175 (loadS A (xs (5 * k + 1))))) (rw_ X o184 (loadS A (xs (5 * k + 1)))) := hD
  replace hT := (hT.swap.after hP hD hk).swap
  have hl : lv_has ls 4 [(3, .int (nI (5 * k))), (2, .ref (rA_ad o184 0)), (1, .ref (gA_ad g175 0)), (0, .ref b)] := by rw [had]; exact hl
  refine lv_icmp_eq (tgt := 599) hx hb d_law_187 rfl (fun h187 => ?_) (fun h187 => ?_)
  ·
    have hnv : Inv (loadS A (xs (5 * k + 1))) ∧ SNk (loadS A (xs (5 * k + 1))) (k + 1) := (Inv_ldS hI hN)
    refine W.widen (k := 36 + 4 * (k + 1)) (n := 6364 + 19 * (k + 1)) (by omega) (by omega) ?_
    exact kont g175 (loadS A (xs (5 * k + 1))) o184 H locs ls hnv.1 hC hRR hnv.2 hT hS (lv_sub hl [0, 1, 2, 3] rfl)
  ·
    exact absurd rfl h187
set_option maxRecDepth 20000 in
set_option maxHeartbeats 4000000 in
theorem lw_case2 {p : Program} {l : Launch} {e : Env} {s : State} {m : MethodId} {args : Array Value} {below : List Frame} {meth : Method} {c : Code} {Q : State → Prop} {b L : Nat} {xs : Nat → Int32} {X : Xt} (hx : p.tables.exec = Jvm.exec) (hb : c.code = code) (hml : c.maxLocals = 4) (hown : s.vm.findClass R_law = some m.cls) (hts : ∀ w ∈ Cond.initialized "ClusterTool" :: WA, w.before args s = true) (hX : va_X b L xs s s.heap) (hbl : b < s.heap.size) (hL : L ≤ 2560) (hK : KK X s) {k : Nat} (hk5 : 5 * k + 5 ≤ L) (kont : ∀ (G : Gc) (A : St) (R : Gr) (H : Heap) (locs : List Loc) (ls : Array Slot), Inv A → RC G A → RR R A → SNk A (k + 1) → TW X s.heap.size (cw X G A) (rw_ X R A) H → va_S (fun q => s.heap.size ≤ q) s.heap H locs → lv_has ls 4 [(3, .int (nI (5 * k))), (2, .ref (rA_ad R 0)), (1, .ref (gA_ad G 0)), (0, .ref b)] → W p l e room_1 s m args below meth c H locs (36 + 4 * (k + 1)) (6364 + 19 * (k + 1)) Q (F0 m 599 ls [])) : ∀ (G : Gc) (A : St) (R : Gr) (H : Heap) (locs : List Loc) (ls : Array Slot), Inv A → RC G A → RR R A → SNk A k → TW X s.heap.size (cw X G A) (rw_ X R A) H → va_S (fun q => s.heap.size ≤ q) s.heap H locs → lv_has ls 4 [(3, .int (nI (5 * k))), (2, .ref (rA_ad R 0)), (1, .ref (gA_ad G 0)), (0, .ref b)] → W p l e room_1 s m args below meth c H locs (36 + 4 * k) (6364 + 19 * k) Q (F0 m 192 ls []) := by
  intro G A R H locs ls hI hC hRR hN hT hS hl
  have hBd := SNk_B hN (by omega)
  refine lv_aload_n hx hb d_law_192 rfl (lv_at hl 2 rfl) ?_
  refine lv_aload_n hx hb d_law_193 rfl (lv_at hl 3 rfl) ?_
  refine lv_iload_n hx hb d_law_194 rfl (lv_at hl 0 rfl) ?_
  refine lv_iconst (v := 1) hx hb d_law_195 rfl ?_
  refine lv_iadd hx hb d_law_196 ?_
  rw [show nI (5 * k) + 1 = nI (5 * k + 1) from nI_add (5 * k) 1]
  refine va_sld hx hb hX hbl (Nat.not_le.mpr hbl) hS (vp_in_nI (n := 5 * k + 1) (by omega) (by omega)) d_law_197 ?_
  rw [nI_clamp (n := 5 * k + 1) (by omega)]
  refine lv_aload_n hx hb d_law_198 rfl (lv_at hl 3 rfl) ?_
  refine lv_iload_n hx hb d_law_199 rfl (lv_at hl 0 rfl) ?_
  refine lv_iconst (v := 2) hx hb d_law_200 rfl ?_
  refine lv_iadd hx hb d_law_201 ?_
  rw [show nI (5 * k) + 2 = nI (5 * k + 2) from nI_add (5 * k) 2]
  refine va_sld hx hb hX hbl (Nat.not_le.mpr hbl) hS (vp_in_nI (n := 5 * k + 2) (by omega) (by omega)) d_law_202 ?_
  rw [nI_clamp (n := 5 * k + 2) (by omega)]
  refine va_calli (va_runV (As := [.int (xs (5 * k + 1)), .int (xs (5 * k + 2))]) (rest := []) ⟨hx, hb, hml, hown, hts⟩ (c_T_may l X G A (Ao s.heap.size (rw_ X R A)) (xs (5 * k + 1)) (xs (5 * k + 2)) hI hC) (cwV 2 hts (gV (wd_1 176 rfl rfl) (wd_1 177 rfl rfl) (wd_1 178 rfl rfl) (wd_1 1 rfl rfl) (wd_1 179 rfl rfl)) rfl rfl rfl ⟨rfl, hd_T_may⟩ ⟨Nat.le_of_ble_eq_true rfl, Nat.le_of_ble_eq_true rfl⟩) (vx_preV (P := PW X (Ao s.heap.size (rw_ X R A)) G A) ⟨hT.1, hT.d⟩ hK (va_recv hK.1 hT.1 (ci := 0) rfl cw_0)) rfl rfl hl.1 rfl (lv_room (Nat.le_of_ble_eq_true rfl)) d_law_203 ⟨by show _ ≤ 600000; omega, by show _ ≤ 7302250; omega⟩) hS (fun q _ h => h.1) (fun q h => h.1) (fun r203 u203 t203 H locs ht hvm hu203 hB hz hk hS => ?_)
  obtain ⟨hP, hD⟩ := hB
  rw [ht] at hP
  obtain ⟨g203, a203⟩ := u203
  obtain ⟨e203, kn203, ps203, hC, hv203⟩ := hu203
  have hv1 : g203 = (gU_ps (gU_kn G kn203) ps203) := congrArg Prod.fst hv203
  have hv2 : a203 = A := congrArg Prod.snd hv203
  have had : gA_ad g203 0 = gA_ad G 0 := by rw [hv1]
  have hC : RC g203 A := by rw [hv1]; exact hC
  clear hv203 hv1
  have e203 : r203 = mayF A (xs (5 * k + 1)) (xs (5 * k + 2)) := e203
  subst e203
  have hP : va_P X.1 classes (cw X g203 a203) H := hP
  have hD : va_D (Ao s.heap.size (rw_ X R A)) (cw X g203 a203) := hD
  rw [hv2] at hP hD
  clear hv2
  have hP : va_P X.1 classes (cw X g203 A) H := hP
  have hD : va_D (Ao s.heap.size (rw_ X R A)) (cw X g203 A) := hD
  replace hT := hT.after hP hD hk
  have hl : lv_has ls 4 [(3, .int (nI (5 * k))), (2, .ref (rA_ad R 0)), (1, .ref (gA_ad g203 0)), (0, .ref b)] := by rw [had]; exact hl
  refine lv_aload_n hx hb d_law_206 rfl (lv_at hl 1 rfl) ?_
  refine lv_aload_n hx hb d_law_207 rfl (lv_at hl 3 rfl) ?_
  refine lv_iload_n hx hb d_law_208 rfl (lv_at hl 0 rfl) ?_
  refine lv_iconst (v := 1) hx hb d_law_209 rfl ?_
  refine lv_iadd hx hb d_law_210 ?_
  rw [show nI (5 * k) + 1 = nI (5 * k + 1) from nI_add (5 * k) 1]
  refine va_sld hx hb hX hbl (Nat.not_le.mpr hbl) hS (vp_in_nI (n := 5 * k + 1) (by omega) (by omega)) d_law_211 ?_
  rw [nI_clamp (n := 5 * k + 1) (by omega)]
  refine lv_aload_n hx hb d_law_212 rfl (lv_at hl 3 rfl) ?_
  refine lv_iload_n hx hb d_law_213 rfl (lv_at hl 0 rfl) ?_
  refine lv_iconst (v := 2) hx hb d_law_214 rfl ?_
  refine lv_iadd hx hb d_law_215 ?_
  rw [show nI (5 * k) + 2 = nI (5 * k + 2) from nI_add (5 * k) 2]
  refine va_sld hx hb hX hbl (Nat.not_le.mpr hbl) hS (vp_in_nI (n := 5 * k + 2) (by omega) (by omega)) d_law_216 ?_
  rw [nI_clamp (n := 5 * k + 2) (by omega)]
  refine va_calli (va_runV (As := [.int (xs (5 * k + 1)), .int (xs (5 * k + 2))]) (rest := [.int (mayF A (xs (5 * k + 1)) (xs (5 * k + 2)))]) ⟨hx, hb, hml, hown, hts⟩ (c_M_may l X R A (Ao s.heap.size (cw X g203 A)) (xs (5 * k + 1)) (xs (5 * k + 2)) hI hRR) (cwV 2 hts (gV (wd_3 50 rfl rfl) (wd_3 51 rfl rfl) (wd_3 52 rfl rfl) (wd_1 6 rfl rfl) (wd_3 53 rfl rfl)) rfl rfl rfl ⟨rfl, hd_M_may⟩ ⟨Nat.le_of_ble_eq_true rfl, Nat.le_of_ble_eq_true rfl⟩) (vx_preV (P := QW X (Ao s.heap.size (cw X g203 A)) R A) ⟨hT.2.1, hT.swap.d⟩ hK (va_recv hK.1 hT.2.1 (ci := 6) rfl rw_0)) rfl rfl hl.1 rfl (lv_room (Nat.le_of_ble_eq_true rfl)) d_law_217 ⟨by show _ ≤ 600000; omega, by show _ ≤ 7302250; omega⟩) hS (fun q _ h => h.1) (fun q h => h.1) (fun r217 u217 t217 H locs ht hvm hu217 hB hz hk hS => ?_)
  obtain ⟨hP, hD⟩ := hB
  rw [ht] at hP
  obtain ⟨o217, a217⟩ := u217
  obtain ⟨e217, kn217, tr217, tu217, st217, hRR, hv217⟩ := hu217
  have hv1 : o217 = (gE R kn217 tr217 tu217 st217) := congrArg Prod.fst hv217
  have hv2 : a217 = A := congrArg Prod.snd hv217
  have had : rA_ad o217 0 = rA_ad R 0 := by rw [hv1]
  have hRR : RR o217 A := by rw [hv1]; exact hRR
  clear hv217 hv1
  have e217 : r217 = mayF A (xs (5 * k + 1)) (xs (5 * k + 2)) := e217
  subst e217
  have hP : va_P X.1 classes (rw_ X o217 a217) H := hP
  have hD : va_D (Ao s.heap.size (cw X g203 A)) (rw_ X o217 a217) := hD
  rw [hv2] at hP hD
  clear hv2
  have hP : va_P X.1 classes (rw_ X o217 A) H := hP
  have hD : va_D (Ao s.heap.size (cw X g203 A)) (rw_ X o217 A) := hD
  replace hT := (hT.swap.after hP hD hk).swap
  have hl : lv_has ls 4 [(3, .int (nI (5 * k))), (2, .ref (rA_ad o217 0)), (1, .ref (gA_ad g203 0)), (0, .ref b)] := by rw [had]; exact hl
  refine lv_icmp_eq (tgt := 599) hx hb d_law_220 rfl (fun h220 => ?_) (fun h220 => ?_)
  ·
    have hnv : Inv A ∧ SNk A (k + 1) := ⟨hI, SNk_up hN⟩
    refine W.widen (k := 36 + 4 * (k + 1)) (n := 6364 + 19 * (k + 1)) (by omega) (by omega) ?_
    exact kont g203 A o217 H locs ls hnv.1 hC hRR hnv.2 hT hS (lv_sub hl [0, 1, 2, 3] rfl)
  ·
    exact absurd rfl h220
set_option maxRecDepth 20000 in
set_option maxHeartbeats 4000000 in
theorem lw_case3 {p : Program} {l : Launch} {e : Env} {s : State} {m : MethodId} {args : Array Value} {below : List Frame} {meth : Method} {c : Code} {Q : State → Prop} {b L : Nat} {xs : Nat → Int32} {X : Xt} (hx : p.tables.exec = Jvm.exec) (hb : c.code = code) (hml : c.maxLocals = 4) (hown : s.vm.findClass R_law = some m.cls) (hts : ∀ w ∈ Cond.initialized "ClusterTool" :: WA, w.before args s = true) (hX : va_X b L xs s s.heap) (hbl : b < s.heap.size) (hL : L ≤ 2560) (hK : KK X s) {k : Nat} (hk5 : 5 * k + 5 ≤ L) (kont : ∀ (G : Gc) (A : St) (R : Gr) (H : Heap) (locs : List Loc) (ls : Array Slot), Inv A → RC G A → RR R A → SNk A (k + 1) → TW X s.heap.size (cw X G A) (rw_ X R A) H → va_S (fun q => s.heap.size ≤ q) s.heap H locs → lv_has ls 4 [(3, .int (nI (5 * k))), (2, .ref (rA_ad R 0)), (1, .ref (gA_ad G 0)), (0, .ref b)] → W p l e room_1 s m args below meth c H locs (36 + 4 * (k + 1)) (6364 + 19 * (k + 1)) Q (F0 m 599 ls [])) : ∀ (G : Gc) (A : St) (R : Gr) (H : Heap) (locs : List Loc) (ls : Array Slot), Inv A → RC G A → RR R A → SNk A k → TW X s.heap.size (cw X G A) (rw_ X R A) H → va_S (fun q => s.heap.size ≤ q) s.heap H locs → lv_has ls 4 [(3, .int (nI (5 * k))), (2, .ref (rA_ad R 0)), (1, .ref (gA_ad G 0)), (0, .ref b)] → W p l e room_1 s m args below meth c H locs (36 + 4 * k) (6364 + 19 * k) Q (F0 m 225 ls []) := by
  intro G A R H locs ls hI hC hRR hN hT hS hl
  have hBd := SNk_B hN (by omega)
  refine lv_aload_n hx hb d_law_225 rfl (lv_at hl 2 rfl) ?_
  refine lv_aload_n hx hb d_law_226 rfl (lv_at hl 3 rfl) ?_
  refine lv_iload_n hx hb d_law_227 rfl (lv_at hl 0 rfl) ?_
  refine lv_iconst (v := 1) hx hb d_law_228 rfl ?_
  refine lv_iadd hx hb d_law_229 ?_
  rw [show nI (5 * k) + 1 = nI (5 * k + 1) from nI_add (5 * k) 1]
  refine va_sld hx hb hX hbl (Nat.not_le.mpr hbl) hS (vp_in_nI (n := 5 * k + 1) (by omega) (by omega)) d_law_230 ?_
  rw [nI_clamp (n := 5 * k + 1) (by omega)]
  refine lv_aload_n hx hb d_law_231 rfl (lv_at hl 3 rfl) ?_
  refine lv_iload_n hx hb d_law_232 rfl (lv_at hl 0 rfl) ?_
  refine lv_iconst (v := 2) hx hb d_law_233 rfl ?_
  refine lv_iadd hx hb d_law_234 ?_
  rw [show nI (5 * k) + 2 = nI (5 * k + 2) from nI_add (5 * k) 2]
  refine va_sld hx hb hX hbl (Nat.not_le.mpr hbl) hS (vp_in_nI (n := 5 * k + 2) (by omega) (by omega)) d_law_235 ?_
  rw [nI_clamp (n := 5 * k + 2) (by omega)]
  refine va_calli (va_runV (As := [.int (xs (5 * k + 1)), .int (xs (5 * k + 2))]) (rest := []) ⟨hx, hb, hml, hown, hts⟩ (c_T_move l X G A (Ao s.heap.size (rw_ X R A)) (xs (5 * k + 1)) (xs (5 * k + 2)) hI hC) (cwV 2 hts (gV (wd_2 22 rfl rfl) (wd_2 23 rfl rfl) (wd_2 24 rfl rfl) (wd_1 1 rfl rfl) (wd_2 25 rfl rfl)) rfl rfl rfl ⟨rfl, hd_T_move⟩ ⟨Nat.le_of_ble_eq_true rfl, Nat.le_of_ble_eq_true rfl⟩) (vx_preV (P := PW X (Ao s.heap.size (rw_ X R A)) G A) ⟨hT.1, hT.d⟩ hK (va_recv hK.1 hT.1 (ci := 0) rfl cw_0)) rfl rfl hl.1 rfl (lv_room (Nat.le_of_ble_eq_true rfl)) d_law_236 ⟨by show _ ≤ 600000; omega, by show _ ≤ 7302250; omega⟩) hS (fun q _ h => h.1) (fun q h => h.1) (fun r236 u236 t236 H locs ht hvm hu236 hB hz hk hS => ?_)
  obtain ⟨hP, hD⟩ := hB
  rw [ht] at hP
  obtain ⟨g236, a236⟩ := u236
  obtain ⟨e236, hv2, hC, had⟩ := hu236
  have hv2 : a236 = (moveF A (xs (5 * k + 1)) (xs (5 * k + 2))) := hv2
  have had : gA_ad g236 0 = gA_ad G 0 := had
  have hC : RC g236 (moveF A (xs (5 * k + 1)) (xs (5 * k + 2))) := hC
  have e236 : r236 = mayF A (xs (5 * k + 1)) (xs (5 * k + 2)) := e236
  subst e236
  subst hv2
  have hP : va_P X.1 classes (cw X g236 (moveF A (xs (5 * k + 1)) (xs (5 * k + 2)))) H := hP
  have hD : va_D (Ao s.heap.size (rw_ X R A)) (cw X g236 (moveF A (xs (5 * k + 1)) (xs (5 * k + 2)))) := hD
  replace hT := hT.after hP hD hk
  have hl : lv_has ls 4 [(3, .int (nI (5 * k))), (2, .ref (rA_ad R 0)), (1, .ref (gA_ad g236 0)), (0, .ref b)] := by rw [had]; exact hl
  refine lv_aload_n hx hb d_law_239 rfl (lv_at hl 1 rfl) ?_
  refine lv_aload_n hx hb d_law_240 rfl (lv_at hl 3 rfl) ?_
  refine lv_iload_n hx hb d_law_241 rfl (lv_at hl 0 rfl) ?_
  refine lv_iconst (v := 1) hx hb d_law_242 rfl ?_
  refine lv_iadd hx hb d_law_243 ?_
  rw [show nI (5 * k) + 1 = nI (5 * k + 1) from nI_add (5 * k) 1]
  refine va_sld hx hb hX hbl (Nat.not_le.mpr hbl) hS (vp_in_nI (n := 5 * k + 1) (by omega) (by omega)) d_law_244 ?_
  rw [nI_clamp (n := 5 * k + 1) (by omega)]
  refine lv_aload_n hx hb d_law_245 rfl (lv_at hl 3 rfl) ?_
  refine lv_iload_n hx hb d_law_246 rfl (lv_at hl 0 rfl) ?_
  refine lv_iconst (v := 2) hx hb d_law_247 rfl ?_
  refine lv_iadd hx hb d_law_248 ?_
  rw [show nI (5 * k) + 2 = nI (5 * k + 2) from nI_add (5 * k) 2]
  refine va_sld hx hb hX hbl (Nat.not_le.mpr hbl) hS (vp_in_nI (n := 5 * k + 2) (by omega) (by omega)) d_law_249 ?_
  rw [nI_clamp (n := 5 * k + 2) (by omega)]
  refine va_calli (va_runV (As := [.int (xs (5 * k + 1)), .int (xs (5 * k + 2))]) (rest := [.int (mayF A (xs (5 * k + 1)) (xs (5 * k + 2)))]) ⟨hx, hb, hml, hown, hts⟩ (c_M_move l X R A (Ao s.heap.size (cw X g236 (moveF A (xs (5 * k + 1)) (xs (5 * k + 2))))) (xs (5 * k + 1)) (xs (5 * k + 2)) hI hRR) (cwV 2 hts (gV (wd_3 69 rfl rfl) (wd_3 70 rfl rfl) (wd_3 71 rfl rfl) (wd_1 6 rfl rfl) (wd_3 72 rfl rfl)) rfl rfl rfl ⟨rfl, hd_M_move⟩ ⟨Nat.le_of_ble_eq_true rfl, Nat.le_of_ble_eq_true rfl⟩) (vx_preV (P := QW X (Ao s.heap.size (cw X g236 (moveF A (xs (5 * k + 1)) (xs (5 * k + 2))))) R A) ⟨hT.2.1, hT.swap.d⟩ hK (va_recv hK.1 hT.2.1 (ci := 6) rfl rw_0)) rfl rfl hl.1 rfl (lv_room (Nat.le_of_ble_eq_true rfl)) d_law_250 ⟨by show _ ≤ 600000; omega, by show _ ≤ 7302250; omega⟩) hS (fun q _ h => h.1) (fun q h => h.1) (fun r250 u250 t250 H locs ht hvm hu250 hB hz hk hS => ?_)
  obtain ⟨hP, hD⟩ := hB
  rw [ht] at hP
  obtain ⟨o250, a250⟩ := u250
  obtain ⟨e250, hv2, hRR, had⟩ := hu250
  have hv2 : a250 = (moveF A (xs (5 * k + 1)) (xs (5 * k + 2))) := hv2
  have had : rA_ad o250 0 = rA_ad R 0 := had
  have hRR : RR o250 (moveF A (xs (5 * k + 1)) (xs (5 * k + 2))) := hRR
  have e250 : r250 = mayF A (xs (5 * k + 1)) (xs (5 * k + 2)) := e250
  subst e250
  subst hv2
  have hP : va_P X.1 classes (rw_ X o250 (moveF A (xs (5 * k + 1)) (xs (5 * k + 2)))) H := hP
  have hD : va_D (Ao s.heap.size (cw X g236 (moveF A (xs (5 * k + 1)) (xs (5 * k + 2))))) (rw_ X o250 (moveF A (xs (5 * k + 1)) (xs (5 * k + 2)))) := hD
  replace hT := (hT.swap.after hP hD hk).swap
  have hl : lv_has ls 4 [(3, .int (nI (5 * k))), (2, .ref (rA_ad o250 0)), (1, .ref (gA_ad g236 0)), (0, .ref b)] := by rw [had]; exact hl
  refine lv_icmp_eq (tgt := 599) hx hb d_law_253 rfl (fun h253 => ?_) (fun h253 => ?_)
  ·
    have hnv : Inv (moveF A (xs (5 * k + 1)) (xs (5 * k + 2))) ∧ SNk (moveF A (xs (5 * k + 1)) (xs (5 * k + 2))) (k + 1) := (Inv_mvF hI hN)
    refine W.widen (k := 36 + 4 * (k + 1)) (n := 6364 + 19 * (k + 1)) (by omega) (by omega) ?_
    exact kont g236 (moveF A (xs (5 * k + 1)) (xs (5 * k + 2))) o250 H locs ls hnv.1 hC hRR hnv.2 hT hS (lv_sub hl [0, 1, 2, 3] rfl)
  ·
    exact absurd rfl h253
set_option maxRecDepth 20000 in
set_option maxHeartbeats 4000000 in
theorem lw_case4 {p : Program} {l : Launch} {e : Env} {s : State} {m : MethodId} {args : Array Value} {below : List Frame} {meth : Method} {c : Code} {Q : State → Prop} {b L : Nat} {xs : Nat → Int32} {X : Xt} (hx : p.tables.exec = Jvm.exec) (hb : c.code = code) (hml : c.maxLocals = 4) (hown : s.vm.findClass R_law = some m.cls) (hts : ∀ w ∈ Cond.initialized "ClusterTool" :: WA, w.before args s = true) (hX : va_X b L xs s s.heap) (hbl : b < s.heap.size) (hL : L ≤ 2560) (hK : KK X s) {k : Nat} (hk5 : 5 * k + 5 ≤ L) (kont : ∀ (G : Gc) (A : St) (R : Gr) (H : Heap) (locs : List Loc) (ls : Array Slot), Inv A → RC G A → RR R A → SNk A (k + 1) → TW X s.heap.size (cw X G A) (rw_ X R A) H → va_S (fun q => s.heap.size ≤ q) s.heap H locs → lv_has ls 4 [(3, .int (nI (5 * k))), (2, .ref (rA_ad R 0)), (1, .ref (gA_ad G 0)), (0, .ref b)] → W p l e room_1 s m args below meth c H locs (36 + 4 * (k + 1)) (6364 + 19 * (k + 1)) Q (F0 m 599 ls [])) : ∀ (G : Gc) (A : St) (R : Gr) (H : Heap) (locs : List Loc) (ls : Array Slot), Inv A → RC G A → RR R A → SNk A k → TW X s.heap.size (cw X G A) (rw_ X R A) H → va_S (fun q => s.heap.size ≤ q) s.heap H locs → lv_has ls 4 [(3, .int (nI (5 * k))), (2, .ref (rA_ad R 0)), (1, .ref (gA_ad G 0)), (0, .ref b)] → W p l e room_1 s m args below meth c H locs (36 + 4 * k) (6364 + 19 * k) Q (F0 m 258 ls []) := by
  intro G A R H locs ls hI hC hRR hN hT hS hl
  have hBd := SNk_B hN (by omega)
  refine lv_aload_n hx hb d_law_258 rfl (lv_at hl 2 rfl) ?_
  refine va_calli (va_runV (As := []) (rest := []) ⟨hx, hb, hml, hown, hts⟩ (c_T_next l X G A (Ao s.heap.size (rw_ X R A)) hI hC hBd) (cwV 0 hts (gV (wd_2 43 rfl rfl) (wd_2 44 rfl rfl) (wd_2 45 rfl rfl) (wd_1 1 rfl rfl) (wd_2 46 rfl rfl)) rfl rfl rfl ⟨rfl, hd_T_next⟩ ⟨Nat.le_of_ble_eq_true rfl, Nat.le_of_ble_eq_true rfl⟩) (vx_preV (P := PW X (Ao s.heap.size (rw_ X R A)) G A) ⟨hT.1, hT.d⟩ hK (va_recv hK.1 hT.1 (ci := 0) rfl cw_0)) rfl rfl hl.1 rfl (lv_room (Nat.le_of_ble_eq_true rfl)) d_law_259 ⟨by show _ ≤ 600000; omega, by show _ ≤ 7302250; omega⟩) hS (fun q _ h => h.1) (fun q h => h.1) (fun r259 u259 t259 H locs ht hvm hu259 hB hz hk hS => ?_)
  obtain ⟨hP, hD⟩ := hB
  rw [ht] at hP
  obtain ⟨g259, a259⟩ := u259
  obtain ⟨e259, kn259, ps259, hC, hv259⟩ := hu259
  have hv1 : g259 = (gU_ps (gU_kn G kn259) ps259) := congrArg Prod.fst hv259
  have hv2 : a259 = A := congrArg Prod.snd hv259
  have had : gA_ad g259 0 = gA_ad G 0 := by rw [hv1]
  have hC : RC g259 A := by rw [hv1]; exact hC
  clear hv259 hv1
  have e259 : r259 = nextF A := e259
  subst e259
  have hP : va_P X.1 classes (cw X g259 a259) H := hP
  have hD : va_D (Ao s.heap.size (rw_ X R A)) (cw X g259 a259) := hD
  rw [hv2] at hP hD
  clear hv2
  have hP : va_P X.1 classes (cw X g259 A) H := hP
  have hD : va_D (Ao s.heap.size (rw_ X R A)) (cw X g259 A) := hD
  replace hT := hT.after hP hD hk
  have hl : lv_has ls 4 [(3, .int (nI (5 * k))), (2, .ref (rA_ad R 0)), (1, .ref (gA_ad g259 0)), (0, .ref b)] := by rw [had]; exact hl
  refine lv_aload_n hx hb d_law_262 rfl (lv_at hl 1 rfl) ?_
  refine va_calli (va_runV (As := []) (rest := [.int (nextF A)]) ⟨hx, hb, hml, hown, hts⟩ (c_M_next l X R A (Ao s.heap.size (cw X g259 A)) hI hRR hBd) (cwV 0 hts (gV (wd_3 78 rfl rfl) (wd_3 79 rfl rfl) (wd_3 80 rfl rfl) (wd_1 6 rfl rfl) (wd_3 81 rfl rfl)) rfl rfl rfl ⟨rfl, hd_M_next⟩ ⟨Nat.le_of_ble_eq_true rfl, Nat.le_of_ble_eq_true rfl⟩) (vx_preV (P := QW X (Ao s.heap.size (cw X g259 A)) R A) ⟨hT.2.1, hT.swap.d⟩ hK (va_recv hK.1 hT.2.1 (ci := 6) rfl rw_0)) rfl rfl hl.1 rfl (lv_room (Nat.le_of_ble_eq_true rfl)) d_law_263 ⟨by show _ ≤ 600000; omega, by show _ ≤ 7302250; omega⟩) hS (fun q _ h => h.1) (fun q h => h.1) (fun r263 u263 t263 H locs ht hvm hu263 hB hz hk hS => ?_)
  obtain ⟨hP, hD⟩ := hB
  rw [ht] at hP
  obtain ⟨o263, a263⟩ := u263
  obtain ⟨e263, kn263, tr263, tu263, st263, hRR, hv263⟩ := hu263
  have hv1 : o263 = (gE R kn263 tr263 tu263 st263) := congrArg Prod.fst hv263
  have hv2 : a263 = A := congrArg Prod.snd hv263
  have had : rA_ad o263 0 = rA_ad R 0 := by rw [hv1]
  have hRR : RR o263 A := by rw [hv1]; exact hRR
  clear hv263 hv1
  have e263 : r263 = nextF A := e263
  subst e263
  have hP : va_P X.1 classes (rw_ X o263 a263) H := hP
  have hD : va_D (Ao s.heap.size (cw X g259 A)) (rw_ X o263 a263) := hD
  rw [hv2] at hP hD
  clear hv2
  have hP : va_P X.1 classes (rw_ X o263 A) H := hP
  have hD : va_D (Ao s.heap.size (cw X g259 A)) (rw_ X o263 A) := hD
  replace hT := (hT.swap.after hP hD hk).swap
  have hl : lv_has ls 4 [(3, .int (nI (5 * k))), (2, .ref (rA_ad o263 0)), (1, .ref (gA_ad g259 0)), (0, .ref b)] := by rw [had]; exact hl
  refine lv_icmp_eq (tgt := 599) hx hb d_law_266 rfl (fun h266 => ?_) (fun h266 => ?_)
  ·
    have hnv : Inv A ∧ SNk A (k + 1) := ⟨hI, SNk_up hN⟩
    refine W.widen (k := 36 + 4 * (k + 1)) (n := 6364 + 19 * (k + 1)) (by omega) (by omega) ?_
    exact kont g259 A o263 H locs ls hnv.1 hC hRR hnv.2 hT hS (lv_sub hl [0, 1, 2, 3] rfl)
  ·
    exact absurd rfl h266
set_option maxRecDepth 20000 in
set_option maxHeartbeats 4000000 in
theorem lw_case5 {p : Program} {l : Launch} {e : Env} {s : State} {m : MethodId} {args : Array Value} {below : List Frame} {meth : Method} {c : Code} {Q : State → Prop} {b L : Nat} {xs : Nat → Int32} {X : Xt} (hx : p.tables.exec = Jvm.exec) (hb : c.code = code) (hml : c.maxLocals = 4) (hown : s.vm.findClass R_law = some m.cls) (hts : ∀ w ∈ Cond.initialized "ClusterTool" :: WA, w.before args s = true) (hX : va_X b L xs s s.heap) (hbl : b < s.heap.size) (hL : L ≤ 2560) (hK : KK X s) {k : Nat} (hk5 : 5 * k + 5 ≤ L) (kont : ∀ (G : Gc) (A : St) (R : Gr) (H : Heap) (locs : List Loc) (ls : Array Slot), Inv A → RC G A → RR R A → SNk A (k + 1) → TW X s.heap.size (cw X G A) (rw_ X R A) H → va_S (fun q => s.heap.size ≤ q) s.heap H locs → lv_has ls 4 [(3, .int (nI (5 * k))), (2, .ref (rA_ad R 0)), (1, .ref (gA_ad G 0)), (0, .ref b)] → W p l e room_1 s m args below meth c H locs (36 + 4 * (k + 1)) (6364 + 19 * (k + 1)) Q (F0 m 599 ls [])) : ∀ (G : Gc) (A : St) (R : Gr) (H : Heap) (locs : List Loc) (ls : Array Slot), Inv A → RC G A → RR R A → SNk A k → TW X s.heap.size (cw X G A) (rw_ X R A) H → va_S (fun q => s.heap.size ≤ q) s.heap H locs → lv_has ls 4 [(3, .int (nI (5 * k))), (2, .ref (rA_ad R 0)), (1, .ref (gA_ad G 0)), (0, .ref b)] → W p l e room_1 s m args below meth c H locs (36 + 4 * k) (6364 + 19 * k) Q (F0 m 271 ls []) := by
  intro G A R H locs ls hI hC hRR hN hT hS hl
  have hBd := SNk_B hN (by omega)
  refine lv_aload_n hx hb d_law_271 rfl (lv_at hl 2 rfl) ?_
  refine va_calli (va_runV (As := []) (rest := []) ⟨hx, hb, hml, hown, hts⟩ (c_T_go l X G A (Ao s.heap.size (rw_ X R A)) hI hC hBd) (cwV 0 hts (gV (wd_2 70 rfl rfl) (wd_2 71 rfl rfl) (wd_2 72 rfl rfl) (wd_1 1 rfl rfl) (wd_2 73 rfl rfl)) rfl rfl rfl ⟨rfl, hd_T_go⟩ ⟨Nat.le_of_ble_eq_true rfl, Nat.le_of_ble_eq_true rfl⟩) (vx_preV (P := PW X (Ao s.heap.size (rw_ X R A)) G A) ⟨hT.1, hT.d⟩ hK (va_recv hK.1 hT.1 (ci := 0) rfl cw_0)) rfl rfl hl.1 rfl (lv_room (Nat.le_of_ble_eq_true rfl)) d_law_272 ⟨by show _ ≤ 600000; omega, by show _ ≤ 7302250; omega⟩) hS (fun q _ h => h.1) (fun q h => h.1) (fun r272 u272 t272 H locs ht hvm hu272 hB hz hk hS => ?_)
  obtain ⟨hP, hD⟩ := hB
  rw [ht] at hP
  obtain ⟨g272, a272⟩ := u272
  obtain ⟨e272, hv2, hC, had⟩ := hu272
  have hv2 : a272 = (goA A) := hv2
  have had : gA_ad g272 0 = gA_ad G 0 := had
  have hC : RC g272 (goA A) := hC
  have e272 : r272 = nextF A := e272
  subst e272
  subst hv2
  have hP : va_P X.1 classes (cw X g272 (goA A)) H := hP
  have hD : va_D (Ao s.heap.size (rw_ X R A)) (cw X g272 (goA A)) := hD
  replace hT := hT.after hP hD hk
  have hl : lv_has ls 4 [(3, .int (nI (5 * k))), (2, .ref (rA_ad R 0)), (1, .ref (gA_ad g272 0)), (0, .ref b)] := by rw [had]; exact hl
  refine lv_aload_n hx hb d_law_275 rfl (lv_at hl 1 rfl) ?_
  refine va_calli (va_runV (As := []) (rest := [.int (nextF A)]) ⟨hx, hb, hml, hown, hts⟩ (c_M_go l X R A (Ao s.heap.size (cw X g272 (goA A))) hI hRR hBd) (cwV 0 hts (gV (wd_3 87 rfl rfl) (wd_3 88 rfl rfl) (wd_3 89 rfl rfl) (wd_1 6 rfl rfl) (wd_3 90 rfl rfl)) rfl rfl rfl ⟨rfl, hd_M_go⟩ ⟨Nat.le_of_ble_eq_true rfl, Nat.le_of_ble_eq_true rfl⟩) (vx_preV (P := QW X (Ao s.heap.size (cw X g272 (goA A))) R A) ⟨hT.2.1, hT.swap.d⟩ hK (va_recv hK.1 hT.2.1 (ci := 6) rfl rw_0)) rfl rfl hl.1 rfl (lv_room (Nat.le_of_ble_eq_true rfl)) d_law_276 ⟨by show _ ≤ 600000; omega, by show _ ≤ 7302250; omega⟩) hS (fun q _ h => h.1) (fun q h => h.1) (fun r276 u276 t276 H locs ht hvm hu276 hB hz hk hS => ?_)
  obtain ⟨hP, hD⟩ := hB
  rw [ht] at hP
  obtain ⟨o276, a276⟩ := u276
  obtain ⟨e276, hv2, hRR, had⟩ := hu276
  have hv2 : a276 = (goA A) := hv2
  have had : rA_ad o276 0 = rA_ad R 0 := had
  have hRR : RR o276 (goA A) := hRR
  have e276 : r276 = nextF A := e276
  subst e276
  subst hv2
  have hP : va_P X.1 classes (rw_ X o276 (goA A)) H := hP
  have hD : va_D (Ao s.heap.size (cw X g272 (goA A))) (rw_ X o276 (goA A)) := hD
  replace hT := (hT.swap.after hP hD hk).swap
  have hl : lv_has ls 4 [(3, .int (nI (5 * k))), (2, .ref (rA_ad o276 0)), (1, .ref (gA_ad g272 0)), (0, .ref b)] := by rw [had]; exact hl
  refine lv_icmp_eq (tgt := 599) hx hb d_law_279 rfl (fun h279 => ?_) (fun h279 => ?_)
  ·
    have hnv : Inv (goA A) ∧ SNk (goA A) (k + 1) := (Inv_go hI hN)
    refine W.widen (k := 36 + 4 * (k + 1)) (n := 6364 + 19 * (k + 1)) (by omega) (by omega) ?_
    exact kont g272 (goA A) o276 H locs ls hnv.1 hC hRR hnv.2 hT hS (lv_sub hl [0, 1, 2, 3] rfl)
  ·
    exact absurd rfl h279
set_option maxRecDepth 20000 in
set_option maxHeartbeats 4000000 in
theorem lw_case6 {p : Program} {l : Launch} {e : Env} {s : State} {m : MethodId} {args : Array Value} {below : List Frame} {meth : Method} {c : Code} {Q : State → Prop} {b L : Nat} {xs : Nat → Int32} {X : Xt} (hx : p.tables.exec = Jvm.exec) (hb : c.code = code) (hml : c.maxLocals = 4) (hown : s.vm.findClass R_law = some m.cls) (hts : ∀ w ∈ Cond.initialized "ClusterTool" :: WA, w.before args s = true) (hX : va_X b L xs s s.heap) (hbl : b < s.heap.size) (hL : L ≤ 2560) (hK : KK X s) {k : Nat} (hk5 : 5 * k + 5 ≤ L) (kont : ∀ (G : Gc) (A : St) (R : Gr) (H : Heap) (locs : List Loc) (ls : Array Slot), Inv A → RC G A → RR R A → SNk A (k + 1) → TW X s.heap.size (cw X G A) (rw_ X R A) H → va_S (fun q => s.heap.size ≤ q) s.heap H locs → lv_has ls 4 [(3, .int (nI (5 * k))), (2, .ref (rA_ad R 0)), (1, .ref (gA_ad G 0)), (0, .ref b)] → W p l e room_1 s m args below meth c H locs (36 + 4 * (k + 1)) (6364 + 19 * (k + 1)) Q (F0 m 599 ls [])) : ∀ (G : Gc) (A : St) (R : Gr) (H : Heap) (locs : List Loc) (ls : Array Slot), Inv A → RC G A → RR R A → SNk A k → TW X s.heap.size (cw X G A) (rw_ X R A) H → va_S (fun q => s.heap.size ≤ q) s.heap H locs → lv_has ls 4 [(3, .int (nI (5 * k))), (2, .ref (rA_ad R 0)), (1, .ref (gA_ad G 0)), (0, .ref b)] → W p l e room_1 s m args below meth c H locs (36 + 4 * k) (6364 + 19 * k) Q (F0 m 284 ls []) := by
  intro G A R H locs ls hI hC hRR hN hT hS hl
  have hBd := SNk_B hN (by omega)
  refine lv_aload_n hx hb d_law_284 rfl (lv_at hl 2 rfl) ?_
  refine lv_aload_n hx hb d_law_285 rfl (lv_at hl 3 rfl) ?_
  refine lv_iload_n hx hb d_law_286 rfl (lv_at hl 0 rfl) ?_
  refine lv_iconst (v := 1) hx hb d_law_287 rfl ?_
  refine lv_iadd hx hb d_law_288 ?_
  rw [show nI (5 * k) + 1 = nI (5 * k + 1) from nI_add (5 * k) 1]
  refine va_sld hx hb hX hbl (Nat.not_le.mpr hbl) hS (vp_in_nI (n := 5 * k + 1) (by omega) (by omega)) d_law_289 ?_
  rw [nI_clamp (n := 5 * k + 1) (by omega)]
  refine va_calli (va_runV (As := [.int (xs (5 * k + 1))]) (rest := []) ⟨hx, hb, hml, hown, hts⟩ (c_T_tick l X G A (Ao s.heap.size (rw_ X R A)) (xs (5 * k + 1)) hI hC hBd) (cwV 1 hts (gV (wd_2 75 rfl rfl) (wd_2 76 rfl rfl) (wd_2 77 rfl rfl) (wd_1 1 rfl rfl) (wd_2 78 rfl rfl)) rfl rfl rfl ⟨rfl, hd_T_tick⟩ ⟨Nat.le_of_ble_eq_true rfl, Nat.le_of_ble_eq_true rfl⟩) (vx_preV (P := PW X (Ao s.heap.size (rw_ X R A)) G A) ⟨hT.1, hT.d⟩ hK (va_recv hK.1 hT.1 (ci := 0) rfl cw_0)) rfl rfl hl.1 rfl (lv_room (Nat.le_of_ble_eq_true rfl)) d_law_290 ⟨by show _ ≤ 600000; omega, by show _ ≤ 7302250; omega⟩) hS (fun q _ h => h.1) (fun q h => h.1) (fun r290 u290 t290 H locs ht hvm hu290 hB hz hk hS => ?_)
  obtain ⟨hP, hD⟩ := hB
  rw [ht] at hP
  obtain ⟨g290, a290⟩ := u290
  obtain ⟨e290, hv2, hC, had⟩ := hu290
  have hv2 : a290 = (tickS A (xs (5 * k + 1))) := hv2
  have had : gA_ad g290 0 = gA_ad G 0 := had
  have hC : RC g290 (tickS A (xs (5 * k + 1))) := hC
  have e290 : r290 = tickI A (xs (5 * k + 1)) := e290
  subst e290
  subst hv2
  have hP : va_P X.1 classes (cw X g290 (tickS A (xs (5 * k + 1)))) H := hP
  have hD : va_D (Ao s.heap.size (rw_ X R A)) (cw X g290 (tickS A (xs (5 * k + 1)))) := hD
  replace hT := hT.after hP hD hk
  have hl : lv_has ls 4 [(3, .int (nI (5 * k))), (2, .ref (rA_ad R 0)), (1, .ref (gA_ad g290 0)), (0, .ref b)] := by rw [had]; exact hl
  refine lv_aload_n hx hb d_law_293 rfl (lv_at hl 1 rfl) ?_
  refine lv_aload_n hx hb d_law_294 rfl (lv_at hl 3 rfl) ?_
  refine lv_iload_n hx hb d_law_295 rfl (lv_at hl 0 rfl) ?_
  refine lv_iconst (v := 1) hx hb d_law_296 rfl ?_
  refine lv_iadd hx hb d_law_297 ?_
  rw [show nI (5 * k) + 1 = nI (5 * k + 1) from nI_add (5 * k) 1]
  refine va_sld hx hb hX hbl (Nat.not_le.mpr hbl) hS (vp_in_nI (n := 5 * k + 1) (by omega) (by omega)) d_law_298 ?_
  rw [nI_clamp (n := 5 * k + 1) (by omega)]
  refine va_calli (va_runV (As := [.int (xs (5 * k + 1))]) (rest := [.int (tickI A (xs (5 * k + 1)))]) ⟨hx, hb, hml, hown, hts⟩ (c_M_tick l X R A (Ao s.heap.size (cw X g290 (tickS A (xs (5 * k + 1))))) (xs (5 * k + 1)) hI hRR hBd) (cwV 1 hts (gV (wd_3 93 rfl rfl) (wd_3 94 rfl rfl) (wd_3 95 rfl rfl) (wd_1 6 rfl rfl) (wd_3 96 rfl rfl)) rfl rfl rfl ⟨rfl, hd_M_tick⟩ ⟨Nat.le_of_ble_eq_true rfl, Nat.le_of_ble_eq_true rfl⟩) (vx_preV (P := QW X (Ao s.heap.size (cw X g290 (tickS A (xs (5 * k + 1))))) R A) ⟨hT.2.1, hT.swap.d⟩ hK (va_recv hK.1 hT.2.1 (ci := 6) rfl rw_0)) rfl rfl hl.1 rfl (lv_room (Nat.le_of_ble_eq_true rfl)) d_law_299 ⟨by show _ ≤ 600000; omega, by show _ ≤ 7302250; omega⟩) hS (fun q _ h => h.1) (fun q h => h.1) (fun r299 u299 t299 H locs ht hvm hu299 hB hz hk hS => ?_)
  obtain ⟨hP, hD⟩ := hB
  rw [ht] at hP
  obtain ⟨o299, a299⟩ := u299
  obtain ⟨e299, hv2, hRR, had⟩ := hu299
  have hv2 : a299 = (tickS A (xs (5 * k + 1))) := hv2
  have had : rA_ad o299 0 = rA_ad R 0 := had
  have hRR : RR o299 (tickS A (xs (5 * k + 1))) := hRR
  have e299 : r299 = tickI A (xs (5 * k + 1)) := e299
  subst e299
  subst hv2
  have hP : va_P X.1 classes (rw_ X o299 (tickS A (xs (5 * k + 1)))) H := hP
  have hD : va_D (Ao s.heap.size (cw X g290 (tickS A (xs (5 * k + 1))))) (rw_ X o299 (tickS A (xs (5 * k + 1)))) := hD
  replace hT := (hT.swap.after hP hD hk).swap
  have hl : lv_has ls 4 [(3, .int (nI (5 * k))), (2, .ref (rA_ad o299 0)), (1, .ref (gA_ad g290 0)), (0, .ref b)] := by rw [had]; exact hl
  refine lv_icmp_eq (tgt := 599) hx hb d_law_302 rfl (fun h302 => ?_) (fun h302 => ?_)
  ·
    have hnv : Inv (tickS A (xs (5 * k + 1))) ∧ SNk (tickS A (xs (5 * k + 1))) (k + 1) := ⟨(Inv_tick hI).1, SNk_tick hI hN⟩
    refine W.widen (k := 36 + 4 * (k + 1)) (n := 6364 + 19 * (k + 1)) (by omega) (by omega) ?_
    exact kont g290 (tickS A (xs (5 * k + 1))) o299 H locs ls hnv.1 hC hRR hnv.2 hT hS (lv_sub hl [0, 1, 2, 3] rfl)
  ·
    exact absurd rfl h302
set_option maxRecDepth 20000 in
set_option maxHeartbeats 4000000 in
theorem lw_case7 {p : Program} {l : Launch} {e : Env} {s : State} {m : MethodId} {args : Array Value} {below : List Frame} {meth : Method} {c : Code} {Q : State → Prop} {b L : Nat} {xs : Nat → Int32} {X : Xt} (hx : p.tables.exec = Jvm.exec) (hb : c.code = code) (hml : c.maxLocals = 4) (hown : s.vm.findClass R_law = some m.cls) (hts : ∀ w ∈ Cond.initialized "ClusterTool" :: WA, w.before args s = true) (hX : va_X b L xs s s.heap) (hbl : b < s.heap.size) (hL : L ≤ 2560) (hK : KK X s) {k : Nat} (hk5 : 5 * k + 5 ≤ L) (kont : ∀ (G : Gc) (A : St) (R : Gr) (H : Heap) (locs : List Loc) (ls : Array Slot), Inv A → RC G A → RR R A → SNk A (k + 1) → TW X s.heap.size (cw X G A) (rw_ X R A) H → va_S (fun q => s.heap.size ≤ q) s.heap H locs → lv_has ls 4 [(3, .int (nI (5 * k))), (2, .ref (rA_ad R 0)), (1, .ref (gA_ad G 0)), (0, .ref b)] → W p l e room_1 s m args below meth c H locs (36 + 4 * (k + 1)) (6364 + 19 * (k + 1)) Q (F0 m 599 ls [])) : ∀ (G : Gc) (A : St) (R : Gr) (H : Heap) (locs : List Loc) (ls : Array Slot), Inv A → RC G A → RR R A → SNk A k → TW X s.heap.size (cw X G A) (rw_ X R A) H → va_S (fun q => s.heap.size ≤ q) s.heap H locs → lv_has ls 4 [(3, .int (nI (5 * k))), (2, .ref (rA_ad R 0)), (1, .ref (gA_ad G 0)), (0, .ref b)] → W p l e room_1 s m args below meth c H locs (36 + 4 * k) (6364 + 19 * k) Q (F0 m 307 ls []) := by
  intro G A R H locs ls hI hC hRR hN hT hS hl
  have hBd := SNk_B hN (by omega)
  refine lv_aload_n hx hb d_law_307 rfl (lv_at hl 2 rfl) ?_
  refine lv_aload_n hx hb d_law_308 rfl (lv_at hl 3 rfl) ?_
  refine lv_iload_n hx hb d_law_309 rfl (lv_at hl 0 rfl) ?_
  refine lv_iconst (v := 1) hx hb d_law_310 rfl ?_
  refine lv_iadd hx hb d_law_311 ?_
  rw [show nI (5 * k) + 1 = nI (5 * k + 1) from nI_add (5 * k) 1]
  refine va_sld hx hb hX hbl (Nat.not_le.mpr hbl) hS (vp_in_nI (n := 5 * k + 1) (by omega) (by omega)) d_law_312 ?_
  rw [nI_clamp (n := 5 * k + 1) (by omega)]
  refine lv_aload_n hx hb d_law_313 rfl (lv_at hl 3 rfl) ?_
  refine lv_iload_n hx hb d_law_314 rfl (lv_at hl 0 rfl) ?_
  refine lv_iconst (v := 2) hx hb d_law_315 rfl ?_
  refine lv_iadd hx hb d_law_316 ?_
  rw [show nI (5 * k) + 2 = nI (5 * k + 2) from nI_add (5 * k) 2]
  refine va_sld hx hb hX hbl (Nat.not_le.mpr hbl) hS (vp_in_nI (n := 5 * k + 2) (by omega) (by omega)) d_law_317 ?_
  rw [nI_clamp (n := 5 * k + 2) (by omega)]
  refine lv_if_eq (tgt := 325) hx hb d_law_318 rfl (fun h318 => ?_) (fun h318 => ?_)
  ·
    refine lv_iconst (v := 0) hx hb d_law_325 rfl ?_
    refine va_calli (va_runV (As := [.int (xs (5 * k + 1)), .int 0]) (rest := []) ⟨hx, hb, hml, hown, hts⟩ (c_T_down l X G A (Ao s.heap.size (rw_ X R A)) (xs (5 * k + 1)) (0 : Int32) hI hC) (cwV 2 hts (gV (wd_2 90 rfl rfl) (wd_2 91 rfl rfl) (wd_2 92 rfl rfl) (wd_1 1 rfl rfl) (wd_2 93 rfl rfl)) rfl rfl rfl ⟨rfl, hd_T_down⟩ ⟨Nat.le_of_ble_eq_true rfl, Nat.le_of_ble_eq_true rfl⟩) (vx_preV (P := PW X (Ao s.heap.size (rw_ X R A)) G A) ⟨hT.1, hT.d⟩ hK (va_recv hK.1 hT.1 (ci := 0) rfl cw_0)) rfl rfl hl.1 rfl (lv_room (Nat.le_of_ble_eq_true rfl)) d_law_326 ⟨by show _ ≤ 600000; omega, by show _ ≤ 7302250; omega⟩) hS (fun q _ h => h.1) (fun q h => h.1) (fun r326 u326 t326 H locs ht hvm hu326 hB hz hk hS => ?_)
    obtain ⟨hP, hD⟩ := hB
    rw [ht] at hP
    obtain ⟨g326, a326⟩ := u326
    obtain ⟨e326, hv2, hC, had⟩ := hu326
    have hv2 : a326 = (downA A (xs (5 * k + 1)) 0) := hv2
    have had : gA_ad g326 0 = gA_ad G 0 := had
    have hC : RC g326 (downA A (xs (5 * k + 1)) 0) := hC
    have e326 : r326 = b2i (downF A (xs (5 * k + 1)) 0) := e326
    subst e326
    subst hv2
    have hP : va_P X.1 classes (cw X g326 (downA A (xs (5 * k + 1)) 0)) H := hP
    have hD : va_D (Ao s.heap.size (rw_ X R A)) (cw X g326 (downA A (xs (5 * k + 1)) 0)) := hD
    replace hT := hT.after hP hD hk
    have hl : lv_has ls 4 [(3, .int (nI (5 * k))), (2, .ref (rA_ad R 0)), (1, .ref (gA_ad g326 0)), (0, .ref b)] := by rw [had]; exact hl
    refine lv_aload_n hx hb d_law_329 rfl (lv_at hl 1 rfl) ?_
    refine lv_aload_n hx hb d_law_330 rfl (lv_at hl 3 rfl) ?_
    refine lv_iload_n hx hb d_law_331 rfl (lv_at hl 0 rfl) ?_
    refine lv_iconst (v := 1) hx hb d_law_332 rfl ?_
    refine lv_iadd hx hb d_law_333 ?_
    rw [show nI (5 * k) + 1 = nI (5 * k + 1) from nI_add (5 * k) 1]
    refine va_sld hx hb hX hbl (Nat.not_le.mpr hbl) hS (vp_in_nI (n := 5 * k + 1) (by omega) (by omega)) d_law_334 ?_
    rw [nI_clamp (n := 5 * k + 1) (by omega)]
    refine lv_aload_n hx hb d_law_335 rfl (lv_at hl 3 rfl) ?_
    refine lv_iload_n hx hb d_law_336 rfl (lv_at hl 0 rfl) ?_
    refine lv_iconst (v := 2) hx hb d_law_337 rfl ?_
    refine lv_iadd hx hb d_law_338 ?_
    rw [show nI (5 * k) + 2 = nI (5 * k + 2) from nI_add (5 * k) 2]
    refine va_sld hx hb hX hbl (Nat.not_le.mpr hbl) hS (vp_in_nI (n := 5 * k + 2) (by omega) (by omega)) d_law_339 ?_
    rw [nI_clamp (n := 5 * k + 2) (by omega)]
    refine lv_if_eq (tgt := 347) hx hb d_law_340 rfl (fun h340 => ?_) (fun h340 => ?_)
    ·
      refine lv_iconst (v := 0) hx hb d_law_347 rfl ?_
      refine va_calli (va_runV (As := [.int (xs (5 * k + 1)), .int 0]) (rest := [.int (b2i (downF A (xs (5 * k + 1)) 0))]) ⟨hx, hb, hml, hown, hts⟩ (c_M_down l X R A (Ao s.heap.size (cw X g326 (downA A (xs (5 * k + 1)) 0))) (xs (5 * k + 1)) (0 : Int32) hI hRR (Or.inl rfl)) (cwV 2 hts (gV (wd_3 101 rfl rfl) (wd_3 102 rfl rfl) (wd_3 103 rfl rfl) (wd_1 6 rfl rfl) (wd_3 104 rfl rfl)) rfl rfl rfl ⟨rfl, hd_M_down⟩ ⟨Nat.le_of_ble_eq_true rfl, Nat.le_of_ble_eq_true rfl⟩) (vx_preV (P := QW X (Ao s.heap.size (cw X g326 (downA A (xs (5 * k + 1)) 0))) R A) ⟨hT.2.1, hT.swap.d⟩ hK (va_recv hK.1 hT.2.1 (ci := 6) rfl rw_0)) rfl rfl hl.1 rfl (lv_room (Nat.le_of_ble_eq_true rfl)) d_law_348 ⟨by show _ ≤ 600000; omega, by show _ ≤ 7302250; omega⟩) hS (fun q _ h => h.1) (fun q h => h.1) (fun r348 u348 t348 H locs ht hvm hu348 hB hz hk hS => ?_)
      obtain ⟨hP, hD⟩ := hB
      rw [ht] at hP
      obtain ⟨o348, a348⟩ := u348
      obtain ⟨e348, hv2, hRR, had⟩ := hu348
      have hv2 : a348 = (downA A (xs (5 * k + 1)) 0) := hv2
      have had : rA_ad o348 0 = rA_ad R 0 := had
      have hRR : RR o348 (downA A (xs (5 * k + 1)) 0) := hRR
      have e348 : r348 = b2i (downF A (xs (5 * k + 1)) 0) := e348
      subst e348
      subst hv2
      have hP : va_P X.1 classes (rw_ X o348 (downA A (xs (5 * k + 1)) 0)) H := hP
      have hD : va_D (Ao s.heap.size (cw X g326 (downA A (xs (5 * k + 1)) 0))) (rw_ X o348 (downA A (xs (5 * k + 1)) 0)) := hD
      replace hT := (hT.swap.after hP hD hk).swap
      have hl : lv_has ls 4 [(3, .int (nI (5 * k))), (2, .ref (rA_ad o348 0)), (1, .ref (gA_ad g326 0)), (0, .ref b)] := by rw [had]; exact hl
      refine lv_icmp_eq (tgt := 599) hx hb d_law_351 rfl (fun h351 => ?_) (fun h351 => ?_)
      ·
        have hnv : Inv (downA A (xs (5 * k + 1)) 0) ∧ SNk (downA A (xs (5 * k + 1)) 0) (k + 1) := (Inv_dwn hI hN)
        refine W.widen (k := 36 + 4 * (k + 1)) (n := 6364 + 19 * (k + 1)) (by omega) (by omega) ?_
        exact kont g326 (downA A (xs (5 * k + 1)) 0) o348 H locs ls hnv.1 hC hRR hnv.2 hT hS (lv_sub hl [0, 1, 2, 3] rfl)
      ·
        exact absurd rfl h351
    ·
      exact absurd h318 h340
  ·
    refine lv_iconst (v := 1) hx hb d_law_321 rfl ?_
    refine lv_goto (tgt := 326) hx hb d_law_322 rfl ?_
    refine va_calli (va_runV (As := [.int (xs (5 * k + 1)), .int 1]) (rest := []) ⟨hx, hb, hml, hown, hts⟩ (c_T_down l X G A (Ao s.heap.size (rw_ X R A)) (xs (5 * k + 1)) (1 : Int32) hI hC) (cwV 2 hts (gV (wd_2 90 rfl rfl) (wd_2 91 rfl rfl) (wd_2 92 rfl rfl) (wd_1 1 rfl rfl) (wd_2 93 rfl rfl)) rfl rfl rfl ⟨rfl, hd_T_down⟩ ⟨Nat.le_of_ble_eq_true rfl, Nat.le_of_ble_eq_true rfl⟩) (vx_preV (P := PW X (Ao s.heap.size (rw_ X R A)) G A) ⟨hT.1, hT.d⟩ hK (va_recv hK.1 hT.1 (ci := 0) rfl cw_0)) rfl rfl hl.1 rfl (lv_room (Nat.le_of_ble_eq_true rfl)) d_law_326 ⟨by show _ ≤ 600000; omega, by show _ ≤ 7302250; omega⟩) hS (fun q _ h => h.1) (fun q h => h.1) (fun r326 u326 t326 H locs ht hvm hu326 hB hz hk hS => ?_)
    obtain ⟨hP, hD⟩ := hB
    rw [ht] at hP
    obtain ⟨g326, a326⟩ := u326
    obtain ⟨e326, hv2, hC, had⟩ := hu326
    have hv2 : a326 = (downA A (xs (5 * k + 1)) 1) := hv2
    have had : gA_ad g326 0 = gA_ad G 0 := had
    have hC : RC g326 (downA A (xs (5 * k + 1)) 1) := hC
    have e326 : r326 = b2i (downF A (xs (5 * k + 1)) 1) := e326
    subst e326
    subst hv2
    have hP : va_P X.1 classes (cw X g326 (downA A (xs (5 * k + 1)) 1)) H := hP
    have hD : va_D (Ao s.heap.size (rw_ X R A)) (cw X g326 (downA A (xs (5 * k + 1)) 1)) := hD
    replace hT := hT.after hP hD hk
    have hl : lv_has ls 4 [(3, .int (nI (5 * k))), (2, .ref (rA_ad R 0)), (1, .ref (gA_ad g326 0)), (0, .ref b)] := by rw [had]; exact hl
    refine lv_aload_n hx hb d_law_329 rfl (lv_at hl 1 rfl) ?_
    refine lv_aload_n hx hb d_law_330 rfl (lv_at hl 3 rfl) ?_
    refine lv_iload_n hx hb d_law_331 rfl (lv_at hl 0 rfl) ?_
    refine lv_iconst (v := 1) hx hb d_law_332 rfl ?_
    refine lv_iadd hx hb d_law_333 ?_
    rw [show nI (5 * k) + 1 = nI (5 * k + 1) from nI_add (5 * k) 1]
    refine va_sld hx hb hX hbl (Nat.not_le.mpr hbl) hS (vp_in_nI (n := 5 * k + 1) (by omega) (by omega)) d_law_334 ?_
    rw [nI_clamp (n := 5 * k + 1) (by omega)]
    refine lv_aload_n hx hb d_law_335 rfl (lv_at hl 3 rfl) ?_
    refine lv_iload_n hx hb d_law_336 rfl (lv_at hl 0 rfl) ?_
    refine lv_iconst (v := 2) hx hb d_law_337 rfl ?_
    refine lv_iadd hx hb d_law_338 ?_
    rw [show nI (5 * k) + 2 = nI (5 * k + 2) from nI_add (5 * k) 2]
    refine va_sld hx hb hX hbl (Nat.not_le.mpr hbl) hS (vp_in_nI (n := 5 * k + 2) (by omega) (by omega)) d_law_339 ?_
    rw [nI_clamp (n := 5 * k + 2) (by omega)]
    refine lv_if_eq (tgt := 347) hx hb d_law_340 rfl (fun h340 => ?_) (fun h340 => ?_)
    ·
      exact absurd h340 h318
    ·
      refine lv_iconst (v := 1) hx hb d_law_343 rfl ?_
      refine lv_goto (tgt := 348) hx hb d_law_344 rfl ?_
      refine va_calli (va_runV (As := [.int (xs (5 * k + 1)), .int 1]) (rest := [.int (b2i (downF A (xs (5 * k + 1)) 1))]) ⟨hx, hb, hml, hown, hts⟩ (c_M_down l X R A (Ao s.heap.size (cw X g326 (downA A (xs (5 * k + 1)) 1))) (xs (5 * k + 1)) (1 : Int32) hI hRR (Or.inr rfl)) (cwV 2 hts (gV (wd_3 101 rfl rfl) (wd_3 102 rfl rfl) (wd_3 103 rfl rfl) (wd_1 6 rfl rfl) (wd_3 104 rfl rfl)) rfl rfl rfl ⟨rfl, hd_M_down⟩ ⟨Nat.le_of_ble_eq_true rfl, Nat.le_of_ble_eq_true rfl⟩) (vx_preV (P := QW X (Ao s.heap.size (cw X g326 (downA A (xs (5 * k + 1)) 1))) R A) ⟨hT.2.1, hT.swap.d⟩ hK (va_recv hK.1 hT.2.1 (ci := 6) rfl rw_0)) rfl rfl hl.1 rfl (lv_room (Nat.le_of_ble_eq_true rfl)) d_law_348 ⟨by show _ ≤ 600000; omega, by show _ ≤ 7302250; omega⟩) hS (fun q _ h => h.1) (fun q h => h.1) (fun r348 u348 t348 H locs ht hvm hu348 hB hz hk hS => ?_)
      obtain ⟨hP, hD⟩ := hB
      rw [ht] at hP
      obtain ⟨o348, a348⟩ := u348
      obtain ⟨e348, hv2, hRR, had⟩ := hu348
      have hv2 : a348 = (downA A (xs (5 * k + 1)) 1) := hv2
      have had : rA_ad o348 0 = rA_ad R 0 := had
      have hRR : RR o348 (downA A (xs (5 * k + 1)) 1) := hRR
      have e348 : r348 = b2i (downF A (xs (5 * k + 1)) 1) := e348
      subst e348
      subst hv2
      have hP : va_P X.1 classes (rw_ X o348 (downA A (xs (5 * k + 1)) 1)) H := hP
      have hD : va_D (Ao s.heap.size (cw X g326 (downA A (xs (5 * k + 1)) 1))) (rw_ X o348 (downA A (xs (5 * k + 1)) 1)) := hD
      replace hT := (hT.swap.after hP hD hk).swap
      have hl : lv_has ls 4 [(3, .int (nI (5 * k))), (2, .ref (rA_ad o348 0)), (1, .ref (gA_ad g326 0)), (0, .ref b)] := by rw [had]; exact hl
      refine lv_icmp_eq (tgt := 599) hx hb d_law_351 rfl (fun h351 => ?_) (fun h351 => ?_)
      ·
        have hnv : Inv (downA A (xs (5 * k + 1)) 1) ∧ SNk (downA A (xs (5 * k + 1)) 1) (k + 1) := (Inv_dwn hI hN)
        refine W.widen (k := 36 + 4 * (k + 1)) (n := 6364 + 19 * (k + 1)) (by omega) (by omega) ?_
        exact kont g326 (downA A (xs (5 * k + 1)) 1) o348 H locs ls hnv.1 hC hRR hnv.2 hT hS (lv_sub hl [0, 1, 2, 3] rfl)
      ·
        exact absurd rfl h351
set_option maxRecDepth 20000 in
set_option maxHeartbeats 4000000 in
theorem lw_case8 {p : Program} {l : Launch} {e : Env} {s : State} {m : MethodId} {args : Array Value} {below : List Frame} {meth : Method} {c : Code} {Q : State → Prop} {b L : Nat} {xs : Nat → Int32} {X : Xt} (hx : p.tables.exec = Jvm.exec) (hb : c.code = code) (hml : c.maxLocals = 4) (hown : s.vm.findClass R_law = some m.cls) (hts : ∀ w ∈ Cond.initialized "ClusterTool" :: WA, w.before args s = true) (hX : va_X b L xs s s.heap) (hbl : b < s.heap.size) (hL : L ≤ 2560) (hK : KK X s) {k : Nat} (hk5 : 5 * k + 5 ≤ L) (kont : ∀ (G : Gc) (A : St) (R : Gr) (H : Heap) (locs : List Loc) (ls : Array Slot), Inv A → RC G A → RR R A → SNk A (k + 1) → TW X s.heap.size (cw X G A) (rw_ X R A) H → va_S (fun q => s.heap.size ≤ q) s.heap H locs → lv_has ls 4 [(3, .int (nI (5 * k))), (2, .ref (rA_ad R 0)), (1, .ref (gA_ad G 0)), (0, .ref b)] → W p l e room_1 s m args below meth c H locs (36 + 4 * (k + 1)) (6364 + 19 * (k + 1)) Q (F0 m 599 ls [])) : ∀ (G : Gc) (A : St) (R : Gr) (H : Heap) (locs : List Loc) (ls : Array Slot), Inv A → RC G A → RR R A → SNk A k → TW X s.heap.size (cw X G A) (rw_ X R A) H → va_S (fun q => s.heap.size ≤ q) s.heap H locs → lv_has ls 4 [(3, .int (nI (5 * k))), (2, .ref (rA_ad R 0)), (1, .ref (gA_ad G 0)), (0, .ref b)] → W p l e room_1 s m args below meth c H locs (36 + 4 * k) (6364 + 19 * k) Q (F0 m 356 ls []) := by
  intro G A R H locs ls hI hC hRR hN hT hS hl
  have hBd := SNk_B hN (by omega)
  refine lv_aload_n hx hb d_law_356 rfl (lv_at hl 2 rfl) ?_
  refine va_calli (va_runV (As := []) (rest := []) ⟨hx, hb, hml, hown, hts⟩ (c_T_safe l X G A (Ao s.heap.size (rw_ X R A)) hI hC) (cwV 0 hts (gV (wd_2 105 rfl rfl) (wd_2 106 rfl rfl) (wd_2 107 rfl rfl) (wd_1 1 rfl rfl) (wd_2 108 rfl rfl)) rfl rfl rfl ⟨rfl, hd_T_safe⟩ ⟨Nat.le_of_ble_eq_true rfl, Nat.le_of_ble_eq_true rfl⟩) (vx_preV (P := PW X (Ao s.heap.size (rw_ X R A)) G A) ⟨hT.1, hT.d⟩ hK (va_recv hK.1 hT.1 (ci := 0) rfl cw_0)) rfl rfl hl.1 rfl (lv_room (Nat.le_of_ble_eq_true rfl)) d_law_357 ⟨by show _ ≤ 600000; omega, by show _ ≤ 7302250; omega⟩) hS (fun q _ h => h.1) (fun q h => h.1) (fun r357 u357 t357 H locs ht hvm hu357 hB hz hk hS => ?_)
  obtain ⟨hP, hD⟩ := hB
  rw [ht] at hP
  obtain ⟨g357, a357⟩ := u357
  obtain ⟨e357, hv2, hC, had⟩ := hu357
  have hv2 : a357 = A := hv2
  have had : gA_ad g357 0 = gA_ad G 0 := had
  have hC : RC g357 A := hC
  have e357 : r357 = b2i (safeF A) := e357
  subst e357
  have hP : va_P X.1 classes (cw X g357 a357) H := hP
  have hD : va_D (Ao s.heap.size (rw_ X R A)) (cw X g357 a357) := hD
  rw [hv2] at hP hD
  clear hv2
  have hP : va_P X.1 classes (cw X g357 A) H := hP
  have hD : va_D (Ao s.heap.size (rw_ X R A)) (cw X g357 A) := hD
  replace hT := hT.after hP hD hk
  have hl : lv_has ls 4 [(3, .int (nI (5 * k))), (2, .ref (rA_ad R 0)), (1, .ref (gA_ad g357 0)), (0, .ref b)] := by rw [had]; exact hl
  refine lv_aload_n hx hb d_law_360 rfl (lv_at hl 1 rfl) ?_
  refine va_calli (va_runV (As := []) (rest := [.int (b2i (safeF A))]) ⟨hx, hb, hml, hown, hts⟩ (c_M_safe l X R A (Ao s.heap.size (cw X g357 A)) hI hRR) (cwV 0 hts (gV (wd_2 239 rfl rfl) (wd_3 0 rfl rfl) (wd_3 1 rfl rfl) (wd_1 6 rfl rfl) (wd_3 2 rfl rfl)) rfl rfl rfl ⟨rfl, hd_M_safe⟩ ⟨Nat.le_of_ble_eq_true rfl, Nat.le_of_ble_eq_true rfl⟩) (vx_preV (P := QW X (Ao s.heap.size (cw X g357 A)) R A) ⟨hT.2.1, hT.swap.d⟩ hK (va_recv hK.1 hT.2.1 (ci := 6) rfl rw_0)) rfl rfl hl.1 rfl (lv_room (Nat.le_of_ble_eq_true rfl)) d_law_361 ⟨by show _ ≤ 600000; omega, by show _ ≤ 7302250; omega⟩) hS (fun q _ h => h.1) (fun q h => h.1) (fun r361 u361 t361 H locs ht hvm hu361 hB hz hk hS => ?_)
  obtain ⟨hP, hD⟩ := hB
  rw [ht] at hP
  obtain ⟨o361, a361⟩ := u361
  obtain ⟨e361, hv2, hRR, had⟩ := hu361
  have hv2 : a361 = A := hv2
  have had : rA_ad o361 0 = rA_ad R 0 := had
  have hRR : RR o361 A := hRR
  have e361 : r361 = b2i (safeF A) := e361
  subst e361
  have hP : va_P X.1 classes (rw_ X o361 a361) H := hP
  have hD : va_D (Ao s.heap.size (cw X g357 A)) (rw_ X o361 a361) := hD
  rw [hv2] at hP hD
  clear hv2
  have hP : va_P X.1 classes (rw_ X o361 A) H := hP
  have hD : va_D (Ao s.heap.size (cw X g357 A)) (rw_ X o361 A) := hD
  replace hT := (hT.swap.after hP hD hk).swap
  have hl : lv_has ls 4 [(3, .int (nI (5 * k))), (2, .ref (rA_ad o361 0)), (1, .ref (gA_ad g357 0)), (0, .ref b)] := by rw [had]; exact hl
  refine lv_icmp_eq (tgt := 599) hx hb d_law_364 rfl (fun h364 => ?_) (fun h364 => ?_)
  ·
    have hnv : Inv A ∧ SNk A (k + 1) := ⟨hI, SNk_up hN⟩
    refine W.widen (k := 36 + 4 * (k + 1)) (n := 6364 + 19 * (k + 1)) (by omega) (by omega) ?_
    exact kont g357 A o361 H locs ls hnv.1 hC hRR hnv.2 hT hS (lv_sub hl [0, 1, 2, 3] rfl)
  ·
    exact absurd rfl h364
set_option maxRecDepth 20000 in
set_option maxHeartbeats 4000000 in
theorem lw_case9 {p : Program} {l : Launch} {e : Env} {s : State} {m : MethodId} {args : Array Value} {below : List Frame} {meth : Method} {c : Code} {Q : State → Prop} {b L : Nat} {xs : Nat → Int32} {X : Xt} (hx : p.tables.exec = Jvm.exec) (hb : c.code = code) (hml : c.maxLocals = 4) (hown : s.vm.findClass R_law = some m.cls) (hts : ∀ w ∈ Cond.initialized "ClusterTool" :: WA, w.before args s = true) (hX : va_X b L xs s s.heap) (hbl : b < s.heap.size) (hL : L ≤ 2560) (hK : KK X s) {k : Nat} (hk5 : 5 * k + 5 ≤ L) (kont : ∀ (G : Gc) (A : St) (R : Gr) (H : Heap) (locs : List Loc) (ls : Array Slot), Inv A → RC G A → RR R A → SNk A (k + 1) → TW X s.heap.size (cw X G A) (rw_ X R A) H → va_S (fun q => s.heap.size ≤ q) s.heap H locs → lv_has ls 4 [(3, .int (nI (5 * k))), (2, .ref (rA_ad R 0)), (1, .ref (gA_ad G 0)), (0, .ref b)] → W p l e room_1 s m args below meth c H locs (36 + 4 * (k + 1)) (6364 + 19 * (k + 1)) Q (F0 m 599 ls [])) : ∀ (G : Gc) (A : St) (R : Gr) (H : Heap) (locs : List Loc) (ls : Array Slot), Inv A → RC G A → RR R A → SNk A k → TW X s.heap.size (cw X G A) (rw_ X R A) H → va_S (fun q => s.heap.size ≤ q) s.heap H locs → lv_has ls 4 [(3, .int (nI (5 * k))), (2, .ref (rA_ad R 0)), (1, .ref (gA_ad G 0)), (0, .ref b)] → W p l e room_1 s m args below meth c H locs (36 + 4 * k) (6364 + 19 * k) Q (F0 m 369 ls []) := by
  intro G A R H locs ls hI hC hRR hN hT hS hl
  have hBd := SNk_B hN (by omega)
  refine lv_aload_n hx hb d_law_369 rfl (lv_at hl 2 rfl) ?_
  refine lv_aload_n hx hb d_law_370 rfl (lv_at hl 3 rfl) ?_
  refine lv_iload_n hx hb d_law_371 rfl (lv_at hl 0 rfl) ?_
  refine lv_iconst (v := 1) hx hb d_law_372 rfl ?_
  refine lv_iadd hx hb d_law_373 ?_
  rw [show nI (5 * k) + 1 = nI (5 * k + 1) from nI_add (5 * k) 1]
  refine va_sld hx hb hX hbl (Nat.not_le.mpr hbl) hS (vp_in_nI (n := 5 * k + 1) (by omega) (by omega)) d_law_374 ?_
  rw [nI_clamp (n := 5 * k + 1) (by omega)]
  refine vp_callSi (W.runV (As := [.int (xs (5 * k + 1))]) (rest := []) ⟨hx, hb, hml, hown, hts⟩ (c_T_in l X G A (xs (5 * k + 1)) hI) (cwV 1 hts (gV (wd_2 109 rfl rfl) (wd_2 110 rfl rfl) (wd_2 111 rfl rfl) (wd_1 1 rfl rfl) (wd_2 112 rfl rfl)) rfl rfl rfl ⟨rfl, hd_T_in⟩ ⟨Nat.le_of_ble_eq_true rfl, Nat.le_of_ble_eq_true rfl⟩) (vx_preV (P := PR X G A) hT.1 hK (va_recv hK.1 hT.1 (ci := 0) rfl cw_0)) rfl rfl hl.1 rfl (lv_room (Nat.le_of_ble_eq_true rfl)) d_law_375 ⟨by show _ ≤ 600000; omega, by show _ ≤ 7302250; omega⟩) (fun r375 e375 => ?_)
  subst e375
  rw [in_eq hI hC]
  refine lv_aload_n hx hb d_law_378 rfl (lv_at hl 1 rfl) ?_
  refine lv_aload_n hx hb d_law_379 rfl (lv_at hl 3 rfl) ?_
  refine lv_iload_n hx hb d_law_380 rfl (lv_at hl 0 rfl) ?_
  refine lv_iconst (v := 1) hx hb d_law_381 rfl ?_
  refine lv_iadd hx hb d_law_382 ?_
  rw [show nI (5 * k) + 1 = nI (5 * k + 1) from nI_add (5 * k) 1]
  refine va_sld hx hb hX hbl (Nat.not_le.mpr hbl) hS (vp_in_nI (n := 5 * k + 1) (by omega) (by omega)) d_law_383 ?_
  rw [nI_clamp (n := 5 * k + 1) (by omega)]
  refine vp_callSi (W.runV (As := [.int (xs (5 * k + 1))]) (rest := [.int (inF A (xs (5 * k + 1)))]) ⟨hx, hb, hml, hown, hts⟩ (c_M_in l X R A (xs (5 * k + 1)) hI) (cwV 1 hts (gV (wd_3 105 rfl rfl) (wd_3 106 rfl rfl) (wd_3 107 rfl rfl) (wd_1 6 rfl rfl) (wd_3 108 rfl rfl)) rfl rfl rfl ⟨rfl, hd_M_in⟩ ⟨Nat.le_of_ble_eq_true rfl, Nat.le_of_ble_eq_true rfl⟩) (vx_preV (P := QR X R A) hT.2.1 hK (va_recv hK.1 hT.2.1 (ci := 6) rfl rw_0)) rfl rfl hl.1 rfl (lv_room (Nat.le_of_ble_eq_true rfl)) d_law_384 ⟨by show _ ≤ 600000; omega, by show _ ≤ 7302250; omega⟩) (fun r384 e384 => ?_)
  subst e384
  refine lv_icmp_eq (tgt := 599) hx hb d_law_387 rfl (fun h387 => ?_) (fun h387 => ?_)
  ·
    have hnv : Inv A ∧ SNk A (k + 1) := ⟨hI, SNk_up hN⟩
    refine W.widen (k := 36 + 4 * (k + 1)) (n := 6364 + 19 * (k + 1)) (by omega) (by omega) ?_
    exact kont G A R H locs ls hnv.1 hC hRR hnv.2 hT hS (lv_sub hl [0, 1, 2, 3] rfl)
  ·
    exact absurd rfl h387
set_option maxRecDepth 20000 in
set_option maxHeartbeats 4000000 in
theorem lw_case10 {p : Program} {l : Launch} {e : Env} {s : State} {m : MethodId} {args : Array Value} {below : List Frame} {meth : Method} {c : Code} {Q : State → Prop} {b L : Nat} {xs : Nat → Int32} {X : Xt} (hx : p.tables.exec = Jvm.exec) (hb : c.code = code) (hml : c.maxLocals = 4) (hown : s.vm.findClass R_law = some m.cls) (hts : ∀ w ∈ Cond.initialized "ClusterTool" :: WA, w.before args s = true) (hX : va_X b L xs s s.heap) (hbl : b < s.heap.size) (hL : L ≤ 2560) (hK : KK X s) {k : Nat} (hk5 : 5 * k + 5 ≤ L) (kont : ∀ (G : Gc) (A : St) (R : Gr) (H : Heap) (locs : List Loc) (ls : Array Slot), Inv A → RC G A → RR R A → SNk A (k + 1) → TW X s.heap.size (cw X G A) (rw_ X R A) H → va_S (fun q => s.heap.size ≤ q) s.heap H locs → lv_has ls 4 [(3, .int (nI (5 * k))), (2, .ref (rA_ad R 0)), (1, .ref (gA_ad G 0)), (0, .ref b)] → W p l e room_1 s m args below meth c H locs (36 + 4 * (k + 1)) (6364 + 19 * (k + 1)) Q (F0 m 599 ls [])) : ∀ (G : Gc) (A : St) (R : Gr) (H : Heap) (locs : List Loc) (ls : Array Slot), Inv A → RC G A → RR R A → SNk A k → TW X s.heap.size (cw X G A) (rw_ X R A) H → va_S (fun q => s.heap.size ≤ q) s.heap H locs → lv_has ls 4 [(3, .int (nI (5 * k))), (2, .ref (rA_ad R 0)), (1, .ref (gA_ad G 0)), (0, .ref b)] → W p l e room_1 s m args below meth c H locs (36 + 4 * k) (6364 + 19 * k) Q (F0 m 392 ls []) := by
  intro G A R H locs ls hI hC hRR hN hT hS hl
  have hBd := SNk_B hN (by omega)
  refine lv_aload_n hx hb d_law_392 rfl (lv_at hl 2 rfl) ?_
  refine lv_aload_n hx hb d_law_393 rfl (lv_at hl 3 rfl) ?_
  refine lv_iload_n hx hb d_law_394 rfl (lv_at hl 0 rfl) ?_
  refine lv_iconst (v := 1) hx hb d_law_395 rfl ?_
  refine lv_iadd hx hb d_law_396 ?_
  rw [show nI (5 * k) + 1 = nI (5 * k + 1) from nI_add (5 * k) 1]
  refine va_sld hx hb hX hbl (Nat.not_le.mpr hbl) hS (vp_in_nI (n := 5 * k + 1) (by omega) (by omega)) d_law_397 ?_
  rw [nI_clamp (n := 5 * k + 1) (by omega)]
  refine vp_callSi (W.runV (As := [.int (xs (5 * k + 1))]) (rest := []) ⟨hx, hb, hml, hown, hts⟩ (c_T_place l X G A (xs (5 * k + 1)) hI) (cwV 1 hts (gV (wd_2 113 rfl rfl) (wd_2 52 rfl rfl) (wd_2 53 rfl rfl) (wd_1 1 rfl rfl) (wd_2 54 rfl rfl)) rfl rfl rfl ⟨rfl, hd_T_place⟩ ⟨Nat.le_of_ble_eq_true rfl, Nat.le_of_ble_eq_true rfl⟩) (vx_preV (P := PR X G A) hT.1 hK (va_recv hK.1 hT.1 (ci := 0) rfl cw_0)) rfl rfl hl.1 rfl (lv_room (Nat.le_of_ble_eq_true rfl)) d_law_398 ⟨by show _ ≤ 600000; omega, by show _ ≤ 7302250; omega⟩) (fun r398 e398 => ?_)
  subst e398
  rw [place_eq hI]
  refine lv_aload_n hx hb d_law_401 rfl (lv_at hl 1 rfl) ?_
  refine lv_aload_n hx hb d_law_402 rfl (lv_at hl 3 rfl) ?_
  refine lv_iload_n hx hb d_law_403 rfl (lv_at hl 0 rfl) ?_
  refine lv_iconst (v := 1) hx hb d_law_404 rfl ?_
  refine lv_iadd hx hb d_law_405 ?_
  rw [show nI (5 * k) + 1 = nI (5 * k + 1) from nI_add (5 * k) 1]
  refine va_sld hx hb hX hbl (Nat.not_le.mpr hbl) hS (vp_in_nI (n := 5 * k + 1) (by omega) (by omega)) d_law_406 ?_
  rw [nI_clamp (n := 5 * k + 1) (by omega)]
  refine vp_callSi (W.runV (As := [.int (xs (5 * k + 1))]) (rest := [.int (placeF A (xs (5 * k + 1)))]) ⟨hx, hb, hml, hown, hts⟩ (c_M_place l X R A (xs (5 * k + 1)) hI) (cwV 1 hts (gV (wd_3 109 rfl rfl) (wd_3 110 rfl rfl) (wd_3 111 rfl rfl) (wd_1 6 rfl rfl) (wd_3 112 rfl rfl)) rfl rfl rfl ⟨rfl, hd_M_place⟩ ⟨Nat.le_of_ble_eq_true rfl, Nat.le_of_ble_eq_true rfl⟩) (vx_preV (P := QR X R A) hT.2.1 hK (va_recv hK.1 hT.2.1 (ci := 6) rfl rw_0)) rfl rfl hl.1 rfl (lv_room (Nat.le_of_ble_eq_true rfl)) d_law_407 ⟨by show _ ≤ 600000; omega, by show _ ≤ 7302250; omega⟩) (fun r407 e407 => ?_)
  subst e407
  refine lv_icmp_eq (tgt := 599) hx hb d_law_410 rfl (fun h410 => ?_) (fun h410 => ?_)
  ·
    have hnv : Inv A ∧ SNk A (k + 1) := ⟨hI, SNk_up hN⟩
    refine W.widen (k := 36 + 4 * (k + 1)) (n := 6364 + 19 * (k + 1)) (by omega) (by omega) ?_
    exact kont G A R H locs ls hnv.1 hC hRR hnv.2 hT hS (lv_sub hl [0, 1, 2, 3] rfl)
  ·
    exact absurd rfl h410
set_option maxRecDepth 20000 in
set_option maxHeartbeats 4000000 in
theorem lw_case11 {p : Program} {l : Launch} {e : Env} {s : State} {m : MethodId} {args : Array Value} {below : List Frame} {meth : Method} {c : Code} {Q : State → Prop} {b L : Nat} {xs : Nat → Int32} {X : Xt} (hx : p.tables.exec = Jvm.exec) (hb : c.code = code) (hml : c.maxLocals = 4) (hown : s.vm.findClass R_law = some m.cls) (hts : ∀ w ∈ Cond.initialized "ClusterTool" :: WA, w.before args s = true) (hX : va_X b L xs s s.heap) (hbl : b < s.heap.size) (hL : L ≤ 2560) (hK : KK X s) {k : Nat} (hk5 : 5 * k + 5 ≤ L) (kont : ∀ (G : Gc) (A : St) (R : Gr) (H : Heap) (locs : List Loc) (ls : Array Slot), Inv A → RC G A → RR R A → SNk A (k + 1) → TW X s.heap.size (cw X G A) (rw_ X R A) H → va_S (fun q => s.heap.size ≤ q) s.heap H locs → lv_has ls 4 [(3, .int (nI (5 * k))), (2, .ref (rA_ad R 0)), (1, .ref (gA_ad G 0)), (0, .ref b)] → W p l e room_1 s m args below meth c H locs (36 + 4 * (k + 1)) (6364 + 19 * (k + 1)) Q (F0 m 599 ls [])) : ∀ (G : Gc) (A : St) (R : Gr) (H : Heap) (locs : List Loc) (ls : Array Slot), Inv A → RC G A → RR R A → SNk A k → TW X s.heap.size (cw X G A) (rw_ X R A) H → va_S (fun q => s.heap.size ≤ q) s.heap H locs → lv_has ls 4 [(3, .int (nI (5 * k))), (2, .ref (rA_ad R 0)), (1, .ref (gA_ad G 0)), (0, .ref b)] → W p l e room_1 s m args below meth c H locs (36 + 4 * k) (6364 + 19 * k) Q (F0 m 415 ls []) := by
  intro G A R H locs ls hI hC hRR hN hT hS hl
  have hBd := SNk_B hN (by omega)
  refine lv_aload_n hx hb d_law_415 rfl (lv_at hl 2 rfl) ?_
  refine lv_aload_n hx hb d_law_416 rfl (lv_at hl 3 rfl) ?_
  refine lv_iload_n hx hb d_law_417 rfl (lv_at hl 0 rfl) ?_
  refine lv_iconst (v := 1) hx hb d_law_418 rfl ?_
  refine lv_iadd hx hb d_law_419 ?_
  rw [show nI (5 * k) + 1 = nI (5 * k + 1) from nI_add (5 * k) 1]
  refine va_sld hx hb hX hbl (Nat.not_le.mpr hbl) hS (vp_in_nI (n := 5 * k + 1) (by omega) (by omega)) d_law_420 ?_
  rw [nI_clamp (n := 5 * k + 1) (by omega)]
  refine vp_callSi (W.runV (As := [.int (xs (5 * k + 1))]) (rest := []) ⟨hx, hb, hml, hown, hts⟩ (c_T_stage l X G A (xs (5 * k + 1)) hI) (cwV 1 hts (gV (wd_2 114 rfl rfl) (wd_2 115 rfl rfl) (wd_2 116 rfl rfl) (wd_1 1 rfl rfl) (wd_2 117 rfl rfl)) rfl rfl rfl ⟨rfl, hd_T_stage⟩ ⟨Nat.le_of_ble_eq_true rfl, Nat.le_of_ble_eq_true rfl⟩) (vx_preV (P := PR X G A) hT.1 hK (va_recv hK.1 hT.1 (ci := 0) rfl cw_0)) rfl rfl hl.1 rfl (lv_room (Nat.le_of_ble_eq_true rfl)) d_law_421 ⟨by show _ ≤ 600000; omega, by show _ ≤ 7302250; omega⟩) (fun r421 e421 => ?_)
  subst e421
  rw [stage_eq hI]
  refine lv_aload_n hx hb d_law_424 rfl (lv_at hl 1 rfl) ?_
  refine lv_aload_n hx hb d_law_425 rfl (lv_at hl 3 rfl) ?_
  refine lv_iload_n hx hb d_law_426 rfl (lv_at hl 0 rfl) ?_
  refine lv_iconst (v := 1) hx hb d_law_427 rfl ?_
  refine lv_iadd hx hb d_law_428 ?_
  rw [show nI (5 * k) + 1 = nI (5 * k + 1) from nI_add (5 * k) 1]
  refine va_sld hx hb hX hbl (Nat.not_le.mpr hbl) hS (vp_in_nI (n := 5 * k + 1) (by omega) (by omega)) d_law_429 ?_
  rw [nI_clamp (n := 5 * k + 1) (by omega)]
  refine vp_callSi (W.runV (As := [.int (xs (5 * k + 1))]) (rest := [.int (stageF A (xs (5 * k + 1)))]) ⟨hx, hb, hml, hown, hts⟩ (c_M_stage l X R A (xs (5 * k + 1)) hI) (cwV 1 hts (gV (wd_3 113 rfl rfl) (wd_3 114 rfl rfl) (wd_3 115 rfl rfl) (wd_1 6 rfl rfl) (wd_3 116 rfl rfl)) rfl rfl rfl ⟨rfl, hd_M_stage⟩ ⟨Nat.le_of_ble_eq_true rfl, Nat.le_of_ble_eq_true rfl⟩) (vx_preV (P := QR X R A) hT.2.1 hK (va_recv hK.1 hT.2.1 (ci := 6) rfl rw_0)) rfl rfl hl.1 rfl (lv_room (Nat.le_of_ble_eq_true rfl)) d_law_430 ⟨by show _ ≤ 600000; omega, by show _ ≤ 7302250; omega⟩) (fun r430 e430 => ?_)
  subst e430
  refine lv_icmp_eq (tgt := 599) hx hb d_law_433 rfl (fun h433 => ?_) (fun h433 => ?_)
  ·
    have hnv : Inv A ∧ SNk A (k + 1) := ⟨hI, SNk_up hN⟩
    refine W.widen (k := 36 + 4 * (k + 1)) (n := 6364 + 19 * (k + 1)) (by omega) (by omega) ?_
    exact kont G A R H locs ls hnv.1 hC hRR hnv.2 hT hS (lv_sub hl [0, 1, 2, 3] rfl)
  ·
    exact absurd rfl h433
set_option maxRecDepth 20000 in
set_option maxHeartbeats 4000000 in
theorem lw_case12 {p : Program} {l : Launch} {e : Env} {s : State} {m : MethodId} {args : Array Value} {below : List Frame} {meth : Method} {c : Code} {Q : State → Prop} {b L : Nat} {xs : Nat → Int32} {X : Xt} (hx : p.tables.exec = Jvm.exec) (hb : c.code = code) (hml : c.maxLocals = 4) (hown : s.vm.findClass R_law = some m.cls) (hts : ∀ w ∈ Cond.initialized "ClusterTool" :: WA, w.before args s = true) (hX : va_X b L xs s s.heap) (hbl : b < s.heap.size) (hL : L ≤ 2560) (hK : KK X s) {k : Nat} (hk5 : 5 * k + 5 ≤ L) (kont : ∀ (G : Gc) (A : St) (R : Gr) (H : Heap) (locs : List Loc) (ls : Array Slot), Inv A → RC G A → RR R A → SNk A (k + 1) → TW X s.heap.size (cw X G A) (rw_ X R A) H → va_S (fun q => s.heap.size ≤ q) s.heap H locs → lv_has ls 4 [(3, .int (nI (5 * k))), (2, .ref (rA_ad R 0)), (1, .ref (gA_ad G 0)), (0, .ref b)] → W p l e room_1 s m args below meth c H locs (36 + 4 * (k + 1)) (6364 + 19 * (k + 1)) Q (F0 m 599 ls [])) : ∀ (G : Gc) (A : St) (R : Gr) (H : Heap) (locs : List Loc) (ls : Array Slot), Inv A → RC G A → RR R A → SNk A k → TW X s.heap.size (cw X G A) (rw_ X R A) H → va_S (fun q => s.heap.size ≤ q) s.heap H locs → lv_has ls 4 [(3, .int (nI (5 * k))), (2, .ref (rA_ad R 0)), (1, .ref (gA_ad G 0)), (0, .ref b)] → W p l e room_1 s m args below meth c H locs (36 + 4 * k) (6364 + 19 * k) Q (F0 m 438 ls []) := by
  intro G A R H locs ls hI hC hRR hN hT hS hl
  have hBd := SNk_B hN (by omega)
  refine lv_aload_n hx hb d_law_438 rfl (lv_at hl 2 rfl) ?_
  refine lv_aload_n hx hb d_law_439 rfl (lv_at hl 3 rfl) ?_
  refine lv_iload_n hx hb d_law_440 rfl (lv_at hl 0 rfl) ?_
  refine lv_iconst (v := 1) hx hb d_law_441 rfl ?_
  refine lv_iadd hx hb d_law_442 ?_
  rw [show nI (5 * k) + 1 = nI (5 * k + 1) from nI_add (5 * k) 1]
  refine va_sld hx hb hX hbl (Nat.not_le.mpr hbl) hS (vp_in_nI (n := 5 * k + 1) (by omega) (by omega)) d_law_443 ?_
  rw [nI_clamp (n := 5 * k + 1) (by omega)]
  refine lv_aload_n hx hb d_law_444 rfl (lv_at hl 3 rfl) ?_
  refine lv_iload_n hx hb d_law_445 rfl (lv_at hl 0 rfl) ?_
  refine lv_iconst (v := 2) hx hb d_law_446 rfl ?_
  refine lv_iadd hx hb d_law_447 ?_
  rw [show nI (5 * k) + 2 = nI (5 * k + 2) from nI_add (5 * k) 2]
  refine va_sld hx hb hX hbl (Nat.not_le.mpr hbl) hS (vp_in_nI (n := 5 * k + 2) (by omega) (by omega)) d_law_448 ?_
  rw [nI_clamp (n := 5 * k + 2) (by omega)]
  refine vp_callSi (W.runV (As := [.int (xs (5 * k + 1)), .int (xs (5 * k + 2))]) (rest := []) ⟨hx, hb, hml, hown, hts⟩ (c_T_visited l X G A (xs (5 * k + 1)) (xs (5 * k + 2)) hI) (cwV 2 hts (gV (wd_2 118 rfl rfl) (wd_2 119 rfl rfl) (wd_2 120 rfl rfl) (wd_1 1 rfl rfl) (wd_2 121 rfl rfl)) rfl rfl rfl ⟨rfl, hd_T_visited⟩ ⟨Nat.le_of_ble_eq_true rfl, Nat.le_of_ble_eq_true rfl⟩) (vx_preV (P := PR X G A) hT.1 hK (va_recv hK.1 hT.1 (ci := 0) rfl cw_0)) rfl rfl hl.1 rfl (lv_room (Nat.le_of_ble_eq_true rfl)) d_law_449 ⟨by show _ ≤ 600000; omega, by show _ ≤ 7302250; omega⟩) (fun r449 e449 => ?_)
  subst e449
  rw [visited_eq hI]
  refine lv_aload_n hx hb d_law_452 rfl (lv_at hl 1 rfl) ?_
  refine lv_aload_n hx hb d_law_453 rfl (lv_at hl 3 rfl) ?_
  refine lv_iload_n hx hb d_law_454 rfl (lv_at hl 0 rfl) ?_
  refine lv_iconst (v := 1) hx hb d_law_455 rfl ?_
  refine lv_iadd hx hb d_law_456 ?_
  rw [show nI (5 * k) + 1 = nI (5 * k + 1) from nI_add (5 * k) 1]
  refine va_sld hx hb hX hbl (Nat.not_le.mpr hbl) hS (vp_in_nI (n := 5 * k + 1) (by omega) (by omega)) d_law_457 ?_
  rw [nI_clamp (n := 5 * k + 1) (by omega)]
  refine lv_aload_n hx hb d_law_458 rfl (lv_at hl 3 rfl) ?_
  refine lv_iload_n hx hb d_law_459 rfl (lv_at hl 0 rfl) ?_
  refine lv_iconst (v := 2) hx hb d_law_460 rfl ?_
  refine lv_iadd hx hb d_law_461 ?_
  rw [show nI (5 * k) + 2 = nI (5 * k + 2) from nI_add (5 * k) 2]
  refine va_sld hx hb hX hbl (Nat.not_le.mpr hbl) hS (vp_in_nI (n := 5 * k + 2) (by omega) (by omega)) d_law_462 ?_
  rw [nI_clamp (n := 5 * k + 2) (by omega)]
  refine vp_callSi (W.runV (As := [.int (xs (5 * k + 1)), .int (xs (5 * k + 2))]) (rest := [.int (visitedF A (xs (5 * k + 1)) (xs (5 * k + 2)))]) ⟨hx, hb, hml, hown, hts⟩ (c_M_visited l X R A (xs (5 * k + 1)) (xs (5 * k + 2)) hI) (cwV 2 hts (gV (wd_3 117 rfl rfl) (wd_3 118 rfl rfl) (wd_3 119 rfl rfl) (wd_1 6 rfl rfl) (wd_3 120 rfl rfl)) rfl rfl rfl ⟨rfl, hd_M_visited⟩ ⟨Nat.le_of_ble_eq_true rfl, Nat.le_of_ble_eq_true rfl⟩) (vx_preV (P := QR X R A) hT.2.1 hK (va_recv hK.1 hT.2.1 (ci := 6) rfl rw_0)) rfl rfl hl.1 rfl (lv_room (Nat.le_of_ble_eq_true rfl)) d_law_463 ⟨by show _ ≤ 600000; omega, by show _ ≤ 7302250; omega⟩) (fun r463 e463 => ?_)
  subst e463
  refine lv_icmp_eq (tgt := 599) hx hb d_law_466 rfl (fun h466 => ?_) (fun h466 => ?_)
  ·
    have hnv : Inv A ∧ SNk A (k + 1) := ⟨hI, SNk_up hN⟩
    refine W.widen (k := 36 + 4 * (k + 1)) (n := 6364 + 19 * (k + 1)) (by omega) (by omega) ?_
    exact kont G A R H locs ls hnv.1 hC hRR hnv.2 hT hS (lv_sub hl [0, 1, 2, 3] rfl)
  ·
    exact absurd rfl h466
set_option maxRecDepth 20000 in
set_option maxHeartbeats 4000000 in
theorem lw_case13 {p : Program} {l : Launch} {e : Env} {s : State} {m : MethodId} {args : Array Value} {below : List Frame} {meth : Method} {c : Code} {Q : State → Prop} {b L : Nat} {xs : Nat → Int32} {X : Xt} (hx : p.tables.exec = Jvm.exec) (hb : c.code = code) (hml : c.maxLocals = 4) (hown : s.vm.findClass R_law = some m.cls) (hts : ∀ w ∈ Cond.initialized "ClusterTool" :: WA, w.before args s = true) (hX : va_X b L xs s s.heap) (hbl : b < s.heap.size) (hL : L ≤ 2560) (hK : KK X s) {k : Nat} (hk5 : 5 * k + 5 ≤ L) (kont : ∀ (G : Gc) (A : St) (R : Gr) (H : Heap) (locs : List Loc) (ls : Array Slot), Inv A → RC G A → RR R A → SNk A (k + 1) → TW X s.heap.size (cw X G A) (rw_ X R A) H → va_S (fun q => s.heap.size ≤ q) s.heap H locs → lv_has ls 4 [(3, .int (nI (5 * k))), (2, .ref (rA_ad R 0)), (1, .ref (gA_ad G 0)), (0, .ref b)] → W p l e room_1 s m args below meth c H locs (36 + 4 * (k + 1)) (6364 + 19 * (k + 1)) Q (F0 m 599 ls [])) : ∀ (G : Gc) (A : St) (R : Gr) (H : Heap) (locs : List Loc) (ls : Array Slot), Inv A → RC G A → RR R A → SNk A k → TW X s.heap.size (cw X G A) (rw_ X R A) H → va_S (fun q => s.heap.size ≤ q) s.heap H locs → lv_has ls 4 [(3, .int (nI (5 * k))), (2, .ref (rA_ad R 0)), (1, .ref (gA_ad G 0)), (0, .ref b)] → W p l e room_1 s m args below meth c H locs (36 + 4 * k) (6364 + 19 * k) Q (F0 m 471 ls []) := by
  intro G A R H locs ls hI hC hRR hN hT hS hl
  have hBd := SNk_B hN (by omega)
  refine lv_aload_n hx hb d_law_471 rfl (lv_at hl 2 rfl) ?_
  refine lv_aload_n hx hb d_law_472 rfl (lv_at hl 3 rfl) ?_
  refine lv_iload_n hx hb d_law_473 rfl (lv_at hl 0 rfl) ?_
  refine lv_iconst (v := 1) hx hb d_law_474 rfl ?_
  refine lv_iadd hx hb d_law_475 ?_
  rw [show nI (5 * k) + 1 = nI (5 * k + 1) from nI_add (5 * k) 1]
  refine va_sld hx hb hX hbl (Nat.not_le.mpr hbl) hS (vp_in_nI (n := 5 * k + 1) (by omega) (by omega)) d_law_476 ?_
  rw [nI_clamp (n := 5 * k + 1) (by omega)]
  refine lv_aload_n hx hb d_law_477 rfl (lv_at hl 3 rfl) ?_
  refine lv_iload_n hx hb d_law_478 rfl (lv_at hl 0 rfl) ?_
  refine lv_iconst (v := 2) hx hb d_law_479 rfl ?_
  refine lv_iadd hx hb d_law_480 ?_
  rw [show nI (5 * k) + 2 = nI (5 * k + 2) from nI_add (5 * k) 2]
  refine va_sld hx hb hX hbl (Nat.not_le.mpr hbl) hS (vp_in_nI (n := 5 * k + 2) (by omega) (by omega)) d_law_481 ?_
  rw [nI_clamp (n := 5 * k + 2) (by omega)]
  refine lv_aload_n hx hb d_law_482 rfl (lv_at hl 3 rfl) ?_
  refine lv_iload_n hx hb d_law_483 rfl (lv_at hl 0 rfl) ?_
  refine lv_iconst (v := 3) hx hb d_law_484 rfl ?_
  refine lv_iadd hx hb d_law_485 ?_
  rw [show nI (5 * k) + 3 = nI (5 * k + 3) from nI_add (5 * k) 3]
  refine va_sld hx hb hX hbl (Nat.not_le.mpr hbl) hS (vp_in_nI (n := 5 * k + 3) (by omega) (by omega)) d_law_486 ?_
  rw [nI_clamp (n := 5 * k + 3) (by omega)]
  refine lv_if_eq (tgt := 494) hx hb d_law_487 rfl (fun h487 => ?_) (fun h487 => ?_)
  ·
    refine lv_iconst (v := 0) hx hb d_law_494 rfl ?_
    refine vp_callSi (W.runV (As := [.int (xs (5 * k + 1)), .int (xs (5 * k + 2)), .int 0]) (rest := []) ⟨hx, hb, hml, hown, hts⟩ (c_T_when l X G A (xs (5 * k + 1)) (xs (5 * k + 2)) (0 : Int32) hI) (cwV 3 hts (gV (wd_2 127 rfl rfl) (wd_2 128 rfl rfl) (wd_2 129 rfl rfl) (wd_1 1 rfl rfl) (wd_2 130 rfl rfl)) rfl rfl rfl ⟨rfl, hd_T_when⟩ ⟨Nat.le_of_ble_eq_true rfl, Nat.le_of_ble_eq_true rfl⟩) (vx_preV (P := PR X G A) hT.1 hK (va_recv hK.1 hT.1 (ci := 0) rfl cw_0)) rfl rfl hl.1 rfl (lv_room (Nat.le_of_ble_eq_true rfl)) d_law_495 ⟨by show _ ≤ 600000; omega, by show _ ≤ 7302250; omega⟩) (fun r495 e495 => ?_)
    subst e495
    rw [when_eq hI]
    refine lv_aload_n hx hb d_law_498 rfl (lv_at hl 1 rfl) ?_
    refine lv_aload_n hx hb d_law_499 rfl (lv_at hl 3 rfl) ?_
    refine lv_iload_n hx hb d_law_500 rfl (lv_at hl 0 rfl) ?_
    refine lv_iconst (v := 1) hx hb d_law_501 rfl ?_
    refine lv_iadd hx hb d_law_502 ?_
    rw [show nI (5 * k) + 1 = nI (5 * k + 1) from nI_add (5 * k) 1]
    refine va_sld hx hb hX hbl (Nat.not_le.mpr hbl) hS (vp_in_nI (n := 5 * k + 1) (by omega) (by omega)) d_law_503 ?_
    rw [nI_clamp (n := 5 * k + 1) (by omega)]
    refine lv_aload_n hx hb d_law_504 rfl (lv_at hl 3 rfl) ?_
    refine lv_iload_n hx hb d_law_505 rfl (lv_at hl 0 rfl) ?_
    refine lv_iconst (v := 2) hx hb d_law_506 rfl ?_
    refine lv_iadd hx hb d_law_507 ?_
    rw [show nI (5 * k) + 2 = nI (5 * k + 2) from nI_add (5 * k) 2]
    refine va_sld hx hb hX hbl (Nat.not_le.mpr hbl) hS (vp_in_nI (n := 5 * k + 2) (by omega) (by omega)) d_law_508 ?_
    rw [nI_clamp (n := 5 * k + 2) (by omega)]
    refine lv_aload_n hx hb d_law_509 rfl (lv_at hl 3 rfl) ?_
    refine lv_iload_n hx hb d_law_510 rfl (lv_at hl 0 rfl) ?_
    refine lv_iconst (v := 3) hx hb d_law_511 rfl ?_
    refine lv_iadd hx hb d_law_512 ?_
    rw [show nI (5 * k) + 3 = nI (5 * k + 3) from nI_add (5 * k) 3]
    refine va_sld hx hb hX hbl (Nat.not_le.mpr hbl) hS (vp_in_nI (n := 5 * k + 3) (by omega) (by omega)) d_law_513 ?_
    rw [nI_clamp (n := 5 * k + 3) (by omega)]
    refine lv_if_eq (tgt := 521) hx hb d_law_514 rfl (fun h514 => ?_) (fun h514 => ?_)
    ·
      refine lv_iconst (v := 0) hx hb d_law_521 rfl ?_
      refine vp_callSi (W.runV (As := [.int (xs (5 * k + 1)), .int (xs (5 * k + 2)), .int 0]) (rest := [.int (whenF A (xs (5 * k + 1)) (xs (5 * k + 2)) 0)]) ⟨hx, hb, hml, hown, hts⟩ (c_M_when l X R A (xs (5 * k + 1)) (xs (5 * k + 2)) (0 : Int32) hI) (cwV 3 hts (gV (wd_3 125 rfl rfl) (wd_3 126 rfl rfl) (wd_3 127 rfl rfl) (wd_1 6 rfl rfl) (wd_3 128 rfl rfl)) rfl rfl rfl ⟨rfl, hd_M_when⟩ ⟨Nat.le_of_ble_eq_true rfl, Nat.le_of_ble_eq_true rfl⟩) (vx_preV (P := QR X R A) hT.2.1 hK (va_recv hK.1 hT.2.1 (ci := 6) rfl rw_0)) rfl rfl hl.1 rfl (lv_room (Nat.le_of_ble_eq_true rfl)) d_law_522 ⟨by show _ ≤ 600000; omega, by show _ ≤ 7302250; omega⟩) (fun r522 e522 => ?_)
      subst e522
      refine lv_icmp_eq (tgt := 599) hx hb d_law_525 rfl (fun h525 => ?_) (fun h525 => ?_)
      ·
        have hnv : Inv A ∧ SNk A (k + 1) := ⟨hI, SNk_up hN⟩
        refine W.widen (k := 36 + 4 * (k + 1)) (n := 6364 + 19 * (k + 1)) (by omega) (by omega) ?_
        exact kont G A R H locs ls hnv.1 hC hRR hnv.2 hT hS (lv_sub hl [0, 1, 2, 3] rfl)
      ·
        exact absurd rfl h525
    ·
      exact absurd h487 h514
  ·
    refine lv_iconst (v := 1) hx hb d_law_490 rfl ?_
    refine lv_goto (tgt := 495) hx hb d_law_491 rfl ?_
    refine vp_callSi (W.runV (As := [.int (xs (5 * k + 1)), .int (xs (5 * k + 2)), .int 1]) (rest := []) ⟨hx, hb, hml, hown, hts⟩ (c_T_when l X G A (xs (5 * k + 1)) (xs (5 * k + 2)) (1 : Int32) hI) (cwV 3 hts (gV (wd_2 127 rfl rfl) (wd_2 128 rfl rfl) (wd_2 129 rfl rfl) (wd_1 1 rfl rfl) (wd_2 130 rfl rfl)) rfl rfl rfl ⟨rfl, hd_T_when⟩ ⟨Nat.le_of_ble_eq_true rfl, Nat.le_of_ble_eq_true rfl⟩) (vx_preV (P := PR X G A) hT.1 hK (va_recv hK.1 hT.1 (ci := 0) rfl cw_0)) rfl rfl hl.1 rfl (lv_room (Nat.le_of_ble_eq_true rfl)) d_law_495 ⟨by show _ ≤ 600000; omega, by show _ ≤ 7302250; omega⟩) (fun r495 e495 => ?_)
    subst e495
    rw [when_eq hI]
    refine lv_aload_n hx hb d_law_498 rfl (lv_at hl 1 rfl) ?_
    refine lv_aload_n hx hb d_law_499 rfl (lv_at hl 3 rfl) ?_
    refine lv_iload_n hx hb d_law_500 rfl (lv_at hl 0 rfl) ?_
    refine lv_iconst (v := 1) hx hb d_law_501 rfl ?_
    refine lv_iadd hx hb d_law_502 ?_
    rw [show nI (5 * k) + 1 = nI (5 * k + 1) from nI_add (5 * k) 1]
    refine va_sld hx hb hX hbl (Nat.not_le.mpr hbl) hS (vp_in_nI (n := 5 * k + 1) (by omega) (by omega)) d_law_503 ?_
    rw [nI_clamp (n := 5 * k + 1) (by omega)]
    refine lv_aload_n hx hb d_law_504 rfl (lv_at hl 3 rfl) ?_
    refine lv_iload_n hx hb d_law_505 rfl (lv_at hl 0 rfl) ?_
    refine lv_iconst (v := 2) hx hb d_law_506 rfl ?_
    refine lv_iadd hx hb d_law_507 ?_
    rw [show nI (5 * k) + 2 = nI (5 * k + 2) from nI_add (5 * k) 2]
    refine va_sld hx hb hX hbl (Nat.not_le.mpr hbl) hS (vp_in_nI (n := 5 * k + 2) (by omega) (by omega)) d_law_508 ?_
    rw [nI_clamp (n := 5 * k + 2) (by omega)]
    refine lv_aload_n hx hb d_law_509 rfl (lv_at hl 3 rfl) ?_
    refine lv_iload_n hx hb d_law_510 rfl (lv_at hl 0 rfl) ?_
    refine lv_iconst (v := 3) hx hb d_law_511 rfl ?_
    refine lv_iadd hx hb d_law_512 ?_
    rw [show nI (5 * k) + 3 = nI (5 * k + 3) from nI_add (5 * k) 3]
    refine va_sld hx hb hX hbl (Nat.not_le.mpr hbl) hS (vp_in_nI (n := 5 * k + 3) (by omega) (by omega)) d_law_513 ?_
    rw [nI_clamp (n := 5 * k + 3) (by omega)]
    refine lv_if_eq (tgt := 521) hx hb d_law_514 rfl (fun h514 => ?_) (fun h514 => ?_)
    ·
      exact absurd h514 h487
    ·
      refine lv_iconst (v := 1) hx hb d_law_517 rfl ?_
      refine lv_goto (tgt := 522) hx hb d_law_518 rfl ?_
      refine vp_callSi (W.runV (As := [.int (xs (5 * k + 1)), .int (xs (5 * k + 2)), .int 1]) (rest := [.int (whenF A (xs (5 * k + 1)) (xs (5 * k + 2)) 1)]) ⟨hx, hb, hml, hown, hts⟩ (c_M_when l X R A (xs (5 * k + 1)) (xs (5 * k + 2)) (1 : Int32) hI) (cwV 3 hts (gV (wd_3 125 rfl rfl) (wd_3 126 rfl rfl) (wd_3 127 rfl rfl) (wd_1 6 rfl rfl) (wd_3 128 rfl rfl)) rfl rfl rfl ⟨rfl, hd_M_when⟩ ⟨Nat.le_of_ble_eq_true rfl, Nat.le_of_ble_eq_true rfl⟩) (vx_preV (P := QR X R A) hT.2.1 hK (va_recv hK.1 hT.2.1 (ci := 6) rfl rw_0)) rfl rfl hl.1 rfl (lv_room (Nat.le_of_ble_eq_true rfl)) d_law_522 ⟨by show _ ≤ 600000; omega, by show _ ≤ 7302250; omega⟩) (fun r522 e522 => ?_)
      subst e522
      refine lv_icmp_eq (tgt := 599) hx hb d_law_525 rfl (fun h525 => ?_) (fun h525 => ?_)
      ·
        have hnv : Inv A ∧ SNk A (k + 1) := ⟨hI, SNk_up hN⟩
        refine W.widen (k := 36 + 4 * (k + 1)) (n := 6364 + 19 * (k + 1)) (by omega) (by omega) ?_
        exact kont G A R H locs ls hnv.1 hC hRR hnv.2 hT hS (lv_sub hl [0, 1, 2, 3] rfl)
      ·
        exact absurd rfl h525
set_option maxRecDepth 20000 in
set_option maxHeartbeats 4000000 in
theorem lw_case14 {p : Program} {l : Launch} {e : Env} {s : State} {m : MethodId} {args : Array Value} {below : List Frame} {meth : Method} {c : Code} {Q : State → Prop} {b L : Nat} {xs : Nat → Int32} {X : Xt} (hx : p.tables.exec = Jvm.exec) (hb : c.code = code) (hml : c.maxLocals = 4) (hown : s.vm.findClass R_law = some m.cls) (hts : ∀ w ∈ Cond.initialized "ClusterTool" :: WA, w.before args s = true) (hX : va_X b L xs s s.heap) (hbl : b < s.heap.size) (hL : L ≤ 2560) (hK : KK X s) {k : Nat} (hk5 : 5 * k + 5 ≤ L) (kont : ∀ (G : Gc) (A : St) (R : Gr) (H : Heap) (locs : List Loc) (ls : Array Slot), Inv A → RC G A → RR R A → SNk A (k + 1) → TW X s.heap.size (cw X G A) (rw_ X R A) H → va_S (fun q => s.heap.size ≤ q) s.heap H locs → lv_has ls 4 [(3, .int (nI (5 * k))), (2, .ref (rA_ad R 0)), (1, .ref (gA_ad G 0)), (0, .ref b)] → W p l e room_1 s m args below meth c H locs (36 + 4 * (k + 1)) (6364 + 19 * (k + 1)) Q (F0 m 599 ls [])) : ∀ (G : Gc) (A : St) (R : Gr) (H : Heap) (locs : List Loc) (ls : Array Slot), Inv A → RC G A → RR R A → SNk A k → TW X s.heap.size (cw X G A) (rw_ X R A) H → va_S (fun q => s.heap.size ≤ q) s.heap H locs → lv_has ls 4 [(3, .int (nI (5 * k))), (2, .ref (rA_ad R 0)), (1, .ref (gA_ad G 0)), (0, .ref b)] → W p l e room_1 s m args below meth c H locs (36 + 4 * k) (6364 + 19 * k) Q (F0 m 530 ls []) := by
  intro G A R H locs ls hI hC hRR hN hT hS hl
  have hBd := SNk_B hN (by omega)
  refine lv_aload_n hx hb d_law_530 rfl (lv_at hl 2 rfl) ?_
  refine lv_aload_n hx hb d_law_531 rfl (lv_at hl 3 rfl) ?_
  refine lv_iload_n hx hb d_law_532 rfl (lv_at hl 0 rfl) ?_
  refine lv_iconst (v := 1) hx hb d_law_533 rfl ?_
  refine lv_iadd hx hb d_law_534 ?_
  rw [show nI (5 * k) + 1 = nI (5 * k + 1) from nI_add (5 * k) 1]
  refine va_sld hx hb hX hbl (Nat.not_le.mpr hbl) hS (vp_in_nI (n := 5 * k + 1) (by omega) (by omega)) d_law_535 ?_
  rw [nI_clamp (n := 5 * k + 1) (by omega)]
  refine vp_callSi (W.runV (As := [.int (xs (5 * k + 1))]) (rest := []) ⟨hx, hb, hml, hown, hts⟩ (c_T_left l X G A (xs (5 * k + 1)) hI) (cwV 1 hts (gV (wd_2 131 rfl rfl) (wd_2 132 rfl rfl) (wd_2 133 rfl rfl) (wd_1 1 rfl rfl) (wd_2 134 rfl rfl)) rfl rfl rfl ⟨rfl, hd_T_left⟩ ⟨Nat.le_of_ble_eq_true rfl, Nat.le_of_ble_eq_true rfl⟩) (vx_preV (P := PR X G A) hT.1 hK (va_recv hK.1 hT.1 (ci := 0) rfl cw_0)) rfl rfl hl.1 rfl (lv_room (Nat.le_of_ble_eq_true rfl)) d_law_536 ⟨by show _ ≤ 600000; omega, by show _ ≤ 7302250; omega⟩) (fun r536 e536 => ?_)
  subst e536
  rw [left_eq hI]
  refine lv_aload_n hx hb d_law_539 rfl (lv_at hl 1 rfl) ?_
  refine lv_aload_n hx hb d_law_540 rfl (lv_at hl 3 rfl) ?_
  refine lv_iload_n hx hb d_law_541 rfl (lv_at hl 0 rfl) ?_
  refine lv_iconst (v := 1) hx hb d_law_542 rfl ?_
  refine lv_iadd hx hb d_law_543 ?_
  rw [show nI (5 * k) + 1 = nI (5 * k + 1) from nI_add (5 * k) 1]
  refine va_sld hx hb hX hbl (Nat.not_le.mpr hbl) hS (vp_in_nI (n := 5 * k + 1) (by omega) (by omega)) d_law_544 ?_
  rw [nI_clamp (n := 5 * k + 1) (by omega)]
  refine vp_callSi (W.runV (As := [.int (xs (5 * k + 1))]) (rest := [.int (leftF A (xs (5 * k + 1)))]) ⟨hx, hb, hml, hown, hts⟩ (c_M_left l X R A (xs (5 * k + 1)) hI) (cwV 1 hts (gV (wd_3 129 rfl rfl) (wd_3 130 rfl rfl) (wd_3 131 rfl rfl) (wd_1 6 rfl rfl) (wd_3 132 rfl rfl)) rfl rfl rfl ⟨rfl, hd_M_left⟩ ⟨Nat.le_of_ble_eq_true rfl, Nat.le_of_ble_eq_true rfl⟩) (vx_preV (P := QR X R A) hT.2.1 hK (va_recv hK.1 hT.2.1 (ci := 6) rfl rw_0)) rfl rfl hl.1 rfl (lv_room (Nat.le_of_ble_eq_true rfl)) d_law_545 ⟨by show _ ≤ 600000; omega, by show _ ≤ 7302250; omega⟩) (fun r545 e545 => ?_)
  subst e545
  refine lv_icmp_eq (tgt := 599) hx hb d_law_548 rfl (fun h548 => ?_) (fun h548 => ?_)
  ·
    have hnv : Inv A ∧ SNk A (k + 1) := ⟨hI, SNk_up hN⟩
    refine W.widen (k := 36 + 4 * (k + 1)) (n := 6364 + 19 * (k + 1)) (by omega) (by omega) ?_
    exact kont G A R H locs ls hnv.1 hC hRR hnv.2 hT hS (lv_sub hl [0, 1, 2, 3] rfl)
  ·
    exact absurd rfl h548
set_option maxRecDepth 20000 in
set_option maxHeartbeats 4000000 in
theorem lw_case15 {p : Program} {l : Launch} {e : Env} {s : State} {m : MethodId} {args : Array Value} {below : List Frame} {meth : Method} {c : Code} {Q : State → Prop} {b L : Nat} {xs : Nat → Int32} {X : Xt} (hx : p.tables.exec = Jvm.exec) (hb : c.code = code) (hml : c.maxLocals = 4) (hown : s.vm.findClass R_law = some m.cls) (hts : ∀ w ∈ Cond.initialized "ClusterTool" :: WA, w.before args s = true) (hX : va_X b L xs s s.heap) (hbl : b < s.heap.size) (hL : L ≤ 2560) (hK : KK X s) {k : Nat} (hk5 : 5 * k + 5 ≤ L) (kont : ∀ (G : Gc) (A : St) (R : Gr) (H : Heap) (locs : List Loc) (ls : Array Slot), Inv A → RC G A → RR R A → SNk A (k + 1) → TW X s.heap.size (cw X G A) (rw_ X R A) H → va_S (fun q => s.heap.size ≤ q) s.heap H locs → lv_has ls 4 [(3, .int (nI (5 * k))), (2, .ref (rA_ad R 0)), (1, .ref (gA_ad G 0)), (0, .ref b)] → W p l e room_1 s m args below meth c H locs (36 + 4 * (k + 1)) (6364 + 19 * (k + 1)) Q (F0 m 599 ls [])) : ∀ (G : Gc) (A : St) (R : Gr) (H : Heap) (locs : List Loc) (ls : Array Slot), Inv A → RC G A → RR R A → SNk A k → TW X s.heap.size (cw X G A) (rw_ X R A) H → va_S (fun q => s.heap.size ≤ q) s.heap H locs → lv_has ls 4 [(3, .int (nI (5 * k))), (2, .ref (rA_ad R 0)), (1, .ref (gA_ad G 0)), (0, .ref b)] → W p l e room_1 s m args below meth c H locs (36 + 4 * k) (6364 + 19 * k) Q (F0 m 553 ls []) := by
  intro G A R H locs ls hI hC hRR hN hT hS hl
  have hBd := SNk_B hN (by omega)
  refine lv_aload_n hx hb d_law_553 rfl (lv_at hl 2 rfl) ?_
  refine lv_aload_n hx hb d_law_554 rfl (lv_at hl 3 rfl) ?_
  refine lv_iload_n hx hb d_law_555 rfl (lv_at hl 0 rfl) ?_
  refine lv_iconst (v := 1) hx hb d_law_556 rfl ?_
  refine lv_iadd hx hb d_law_557 ?_
  rw [show nI (5 * k) + 1 = nI (5 * k + 1) from nI_add (5 * k) 1]
  refine va_sld hx hb hX hbl (Nat.not_le.mpr hbl) hS (vp_in_nI (n := 5 * k + 1) (by omega) (by omega)) d_law_558 ?_
  rw [nI_clamp (n := 5 * k + 1) (by omega)]
  refine vp_callSi (W.runV (As := [.int (xs (5 * k + 1))]) (rest := []) ⟨hx, hb, hml, hown, hts⟩ (c_T_stay l X G A (xs (5 * k + 1)) hI) (cwV 1 hts (gV (wd_2 135 rfl rfl) (wd_2 56 rfl rfl) (wd_2 57 rfl rfl) (wd_1 1 rfl rfl) (wd_2 58 rfl rfl)) rfl rfl rfl ⟨rfl, hd_T_stay⟩ ⟨Nat.le_of_ble_eq_true rfl, Nat.le_of_ble_eq_true rfl⟩) (vx_preV (P := PR X G A) hT.1 hK (va_recv hK.1 hT.1 (ci := 0) rfl cw_0)) rfl rfl hl.1 rfl (lv_room (Nat.le_of_ble_eq_true rfl)) d_law_559 ⟨by show _ ≤ 600000; omega, by show _ ≤ 7302250; omega⟩) (fun r559 e559 => ?_)
  subst e559
  rw [show f_T_stay G A (xs (5 * k + 1)) = stayF A (xs (5 * k + 1)) from stay_nI hI hC hBd]
  refine lv_aload_n hx hb d_law_562 rfl (lv_at hl 1 rfl) ?_
  refine lv_aload_n hx hb d_law_563 rfl (lv_at hl 3 rfl) ?_
  refine lv_iload_n hx hb d_law_564 rfl (lv_at hl 0 rfl) ?_
  refine lv_iconst (v := 1) hx hb d_law_565 rfl ?_
  refine lv_iadd hx hb d_law_566 ?_
  rw [show nI (5 * k) + 1 = nI (5 * k + 1) from nI_add (5 * k) 1]
  refine va_sld hx hb hX hbl (Nat.not_le.mpr hbl) hS (vp_in_nI (n := 5 * k + 1) (by omega) (by omega)) d_law_567 ?_
  rw [nI_clamp (n := 5 * k + 1) (by omega)]
  refine vp_callSi (W.runV (As := [.int (xs (5 * k + 1))]) (rest := [.int (stayF A (xs (5 * k + 1)))]) ⟨hx, hb, hml, hown, hts⟩ (c_M_stay l X R A (xs (5 * k + 1)) hI hBd) (cwV 1 hts (gV (wd_3 74 rfl rfl) (wd_3 75 rfl rfl) (wd_3 76 rfl rfl) (wd_1 6 rfl rfl) (wd_3 77 rfl rfl)) rfl rfl rfl ⟨rfl, hd_M_stay⟩ ⟨Nat.le_of_ble_eq_true rfl, Nat.le_of_ble_eq_true rfl⟩) (vx_preV (P := QR X R A) hT.2.1 hK (va_recv hK.1 hT.2.1 (ci := 6) rfl rw_0)) rfl rfl hl.1 rfl (lv_room (Nat.le_of_ble_eq_true rfl)) d_law_568 ⟨by show _ ≤ 600000; omega, by show _ ≤ 7302250; omega⟩) (fun r568 e568 => ?_)
  subst e568
  refine lv_icmp_eq (tgt := 599) hx hb d_law_571 rfl (fun h571 => ?_) (fun h571 => ?_)
  ·
    have hnv : Inv A ∧ SNk A (k + 1) := ⟨hI, SNk_up hN⟩
    refine W.widen (k := 36 + 4 * (k + 1)) (n := 6364 + 19 * (k + 1)) (by omega) (by omega) ?_
    exact kont G A R H locs ls hnv.1 hC hRR hnv.2 hT hS (lv_sub hl [0, 1, 2, 3] rfl)
  ·
    exact absurd rfl h571
set_option maxRecDepth 20000 in
set_option maxHeartbeats 4000000 in
theorem lw_case16 {p : Program} {l : Launch} {e : Env} {s : State} {m : MethodId} {args : Array Value} {below : List Frame} {meth : Method} {c : Code} {Q : State → Prop} {b L : Nat} {xs : Nat → Int32} {X : Xt} (hx : p.tables.exec = Jvm.exec) (hb : c.code = code) (hml : c.maxLocals = 4) (hown : s.vm.findClass R_law = some m.cls) (hts : ∀ w ∈ Cond.initialized "ClusterTool" :: WA, w.before args s = true) (hX : va_X b L xs s s.heap) (hbl : b < s.heap.size) (hL : L ≤ 2560) (hK : KK X s) {k : Nat} (hk5 : 5 * k + 5 ≤ L) (kont : ∀ (G : Gc) (A : St) (R : Gr) (H : Heap) (locs : List Loc) (ls : Array Slot), Inv A → RC G A → RR R A → SNk A (k + 1) → TW X s.heap.size (cw X G A) (rw_ X R A) H → va_S (fun q => s.heap.size ≤ q) s.heap H locs → lv_has ls 4 [(3, .int (nI (5 * k))), (2, .ref (rA_ad R 0)), (1, .ref (gA_ad G 0)), (0, .ref b)] → W p l e room_1 s m args below meth c H locs (36 + 4 * (k + 1)) (6364 + 19 * (k + 1)) Q (F0 m 599 ls [])) : ∀ (G : Gc) (A : St) (R : Gr) (H : Heap) (locs : List Loc) (ls : Array Slot), Inv A → RC G A → RR R A → SNk A k → TW X s.heap.size (cw X G A) (rw_ X R A) H → va_S (fun q => s.heap.size ≤ q) s.heap H locs → lv_has ls 4 [(3, .int (nI (5 * k))), (2, .ref (rA_ad R 0)), (1, .ref (gA_ad G 0)), (0, .ref b)] → W p l e room_1 s m args below meth c H locs (36 + 4 * k) (6364 + 19 * k) Q (F0 m 576 ls []) := by
  intro G A R H locs ls hI hC hRR hN hT hS hl
  have hBd := SNk_B hN (by omega)
  refine lv_aload_n hx hb d_law_576 rfl (lv_at hl 2 rfl) ?_
  refine lv_aload_n hx hb d_law_577 rfl (lv_at hl 3 rfl) ?_
  refine lv_iload_n hx hb d_law_578 rfl (lv_at hl 0 rfl) ?_
  refine lv_iconst (v := 1) hx hb d_law_579 rfl ?_
  refine lv_iadd hx hb d_law_580 ?_
  rw [show nI (5 * k) + 1 = nI (5 * k + 1) from nI_add (5 * k) 1]
  refine va_sld hx hb hX hbl (Nat.not_le.mpr hbl) hS (vp_in_nI (n := 5 * k + 1) (by omega) (by omega)) d_law_581 ?_
  rw [nI_clamp (n := 5 * k + 1) (by omega)]
  refine vp_callSi (W.runV (As := [.int (xs (5 * k + 1))]) (rest := []) ⟨hx, hb, hml, hown, hts⟩ (c_T_count l X G A (xs (5 * k + 1)) hI hC) (cwV 1 hts (gV (wd_2 136 rfl rfl) (wd_2 137 rfl rfl) (wd_2 138 rfl rfl) (wd_1 1 rfl rfl) (wd_2 139 rfl rfl)) rfl rfl rfl ⟨rfl, hd_T_count⟩ ⟨Nat.le_of_ble_eq_true rfl, Nat.le_of_ble_eq_true rfl⟩) (vx_preV (P := PR X G A) hT.1 hK (va_recv hK.1 hT.1 (ci := 0) rfl cw_0)) rfl rfl hl.1 rfl (lv_room (Nat.le_of_ble_eq_true rfl)) d_law_582 ⟨by show _ ≤ 600000; omega, by show _ ≤ 7302250; omega⟩) (fun r582 e582 => ?_)
  subst e582
  refine lv_aload_n hx hb d_law_585 rfl (lv_at hl 1 rfl) ?_
  refine lv_aload_n hx hb d_law_586 rfl (lv_at hl 3 rfl) ?_
  refine lv_iload_n hx hb d_law_587 rfl (lv_at hl 0 rfl) ?_
  refine lv_iconst (v := 1) hx hb d_law_588 rfl ?_
  refine lv_iadd hx hb d_law_589 ?_
  rw [show nI (5 * k) + 1 = nI (5 * k + 1) from nI_add (5 * k) 1]
  refine va_sld hx hb hX hbl (Nat.not_le.mpr hbl) hS (vp_in_nI (n := 5 * k + 1) (by omega) (by omega)) d_law_590 ?_
  rw [nI_clamp (n := 5 * k + 1) (by omega)]
  refine vp_callSi (W.runV (As := [.int (xs (5 * k + 1))]) (rest := [.int (countF A (xs (5 * k + 1)))]) ⟨hx, hb, hml, hown, hts⟩ (c_M_count l X R A (xs (5 * k + 1)) hI) (cwV 1 hts (gV (wd_3 133 rfl rfl) (wd_3 134 rfl rfl) (wd_3 135 rfl rfl) (wd_1 6 rfl rfl) (wd_3 136 rfl rfl)) rfl rfl rfl ⟨rfl, hd_M_count⟩ ⟨Nat.le_of_ble_eq_true rfl, Nat.le_of_ble_eq_true rfl⟩) (vx_preV (P := QR X R A) hT.2.1 hK (va_recv hK.1 hT.2.1 (ci := 6) rfl rw_0)) rfl rfl hl.1 rfl (lv_room (Nat.le_of_ble_eq_true rfl)) d_law_591 ⟨by show _ ≤ 600000; omega, by show _ ≤ 7302250; omega⟩) (fun r591 e591 => ?_)
  subst e591
  refine lv_icmp_eq (tgt := 599) hx hb d_law_594 rfl (fun h594 => ?_) (fun h594 => ?_)
  ·
    have hnv : Inv A ∧ SNk A (k + 1) := ⟨hI, SNk_up hN⟩
    refine W.widen (k := 36 + 4 * (k + 1)) (n := 6364 + 19 * (k + 1)) (by omega) (by omega) ?_
    exact kont G A R H locs ls hnv.1 hC hRR hnv.2 hT hS (lv_sub hl [0, 1, 2, 3] rfl)
  ·
    exact absurd rfl h594
