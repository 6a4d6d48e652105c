set_option maxRecDepth 20000 in
set_option maxHeartbeats 4000000 in
theorem lw_loop {p : Program} {l : Launch} {e : Env} {s : State} {m : MethodId} {args : Array Value} {below : List Frame} {meth : Method} {c : Code} {Q : State → Prop} {b L : Nat} {xs : Nat → Int32} {X : Xt} (hx : p.tables.exec = Jvm.exec) (hb : c.code = code) (hml : c.maxLocals = 4) (hown : s.vm.findClass R_law = some m.cls) (hts : ∀ w ∈ Cond.initialized "ClusterTool" :: WA, w.before args s = true) (hX : va_X b L xs s s.heap) (hbl : b < s.heap.size) (hL : L ≤ 2560) (hK : KK X s) (kont : ∀ (k : Nat) (G : Gc) (A : St) (R : Gr) (H : Heap) (locs : List Loc) (ls : Array Slot), k ≤ 512 → va_S (fun q => s.heap.size ≤ q) s.heap H locs → W p l e room_1 s m args below meth c H locs (36 + 4 * k) (6364 + 19 * k) Q (F0 m 605 ls [])) : ∀ (r k : Nat) (G : Gc) (A : St) (R : Gr) (H : Heap) (locs : List Loc) (ls : Array Slot), k ≤ 512 → L ≤ 5 * k + 5 * r → Inv A → RC G A → RR R A → SNk A k → TW X s.heap.size (cw X G A) (rw_ X R A) H → va_S (fun q => s.heap.size ≤ q) s.heap H locs → lv_has ls 4 [(3, .int (nI (5 * k))), (2, .ref (rA_ad R 0)), (1, .ref (gA_ad G 0)), (0, .ref b)] → W p l e room_1 s m args below meth c H locs (36 + 4 * k) (6364 + 19 * k) Q (F0 m 18 ls []) := by
  intro r
  induction r with
  | zero =>
    intro k G A R H locs ls hk9 hr9 hI hC hRR hN hT hS hl
    refine lv_iload_n hx hb d_law_18 rfl (lv_at hl 0 rfl) ?_
    refine lv_aload_n hx hb d_law_19 rfl (lv_at hl 3 rfl) ?_
    refine va_slen hx hb hX hbl (Nat.not_le.mpr hbl) hS d_law_20 ?_
    refine lv_iconst (v := 5) hx hb d_law_21 rfl ?_
    refine lv_isub hx hb d_law_22 ?_
    refine lv_icmp_gt (tgt := 605) hx hb d_law_23 rfl (fun h23 => ?_) (fun h23 => ?_)
    ·
      exact kont k G A R H locs ls hk9 hS
    ·
      exact absurd ((lenx hL (by omega)).mpr (by omega)) h23
  | succ r ih =>
    intro k G A R H locs ls hk9 hr9 hI hC hRR hN hT hS hl
    refine lv_iload_n hx hb d_law_18 rfl (lv_at hl 0 rfl) ?_
    refine lv_aload_n hx hb d_law_19 rfl (lv_at hl 3 rfl) ?_
    refine va_slen hx hb hX hbl (Nat.not_le.mpr hbl) hS d_law_20 ?_
    refine lv_iconst (v := 5) hx hb d_law_21 rfl ?_
    refine lv_isub hx hb d_law_22 ?_
    refine lv_icmp_gt (tgt := 605) hx hb d_law_23 rfl (fun h23 => ?_) (fun h23 => ?_)
    ·
      exact kont k G A R H locs ls hk9 hS
    ·
      have hk5 : 5 * k + 5 ≤ L := Nat.le_of_not_lt fun z => h23 ((lenx hL (by omega)).mpr z)
      have kn : ∀ (G : Gc) (A : St) (R : Gr) (H : Heap) (locs : List Loc) (ls : Array Slot), Inv A → RC G A → RR R A → SNk A (k + 1) → TW X s.heap.size (cw X G A) (rw_ X R A) H → va_S (fun q => s.heap.size ≤ q) s.heap H locs → lv_has ls 4 [(3, .int (nI (5 * k))), (2, .ref (rA_ad R 0)), (1, .ref (gA_ad G 0)), (0, .ref b)] → W p l e room_1 s m args below meth c H locs (36 + 4 * (k + 1)) (6364 + 19 * (k + 1)) Q (F0 m 599 ls []) := by
        intro G A R H locs ls hI hC hRR hN hT hS hl
        refine lv_iinc (k := 0) (v := (nI (5 * k) + 5)) (lv' := [(3, .int (nI (5 * k) + 5)), (2, .ref (rA_ad R 0)), (1, .ref (gA_ad G 0)), (0, .ref b)]) hx hb d_law_599 hl rfl rfl (by decide) rfl (fun ls hl => ?_)
        refine lv_goto (tgt := 18) hx hb d_law_602 rfl ?_
        have hl : lv_has ls 4 [(3, .int (nI (5 * (k + 1)))), (2, .ref (rA_ad R 0)), (1, .ref (gA_ad G 0)), (0, .ref b)] := by rw [show nI (5 * (k + 1)) = nI (5 * k) + 5 from (nI_add (5 * k) 5).symm]; exact lv_sub hl [0, 1, 2, 3] rfl
        exact ih (k + 1) G A R H locs ls (by omega) (by omega) hI hC hRR hN hT hS hl
      refine lv_aload_n hx hb d_law_26 rfl (lv_at hl 3 rfl) ?_
      refine lv_iload_n hx hb d_law_27 rfl (lv_at hl 0 rfl) ?_
      refine va_sld hx hb hX hbl (Nat.not_le.mpr hbl) hS (vp_in_nI (n := 5 * k) (by omega) (by omega)) d_law_28 ?_
      rw [nI_clamp (n := 5 * k) (by omega)]
      refine lv_bipush (v := 31) hx hb d_law_29 rfl ?_
      refine lv_iand hx hb d_law_31 ?_
      rcases sw17 (xs (5 * k) &&& 31) with hw0 | hw1 | hw2 | hw3 | hw4 | hw5 | hw6 | hw7 | hw8 | hw9 | hw10 | hw11 | hw12 | hw13 | hw14 | hw15 | hw16 | hw17
      ·
        rw [hw0]
        refine lv_tableIn (tgt := 116) hx hb d_law_32 (by decide) (by decide) rfl rfl ?_
        exact lw_case0 hx hb hml hown hts hX hbl hL hK hk5 kn G A R H locs ls hI hC hRR hN hT hS (lv_sub hl [0, 1, 2, 3] rfl)
      ·
        rw [hw1]
        refine lv_tableIn (tgt := 169) hx hb d_law_32 (by decide) (by decide) rfl rfl ?_
        exact lw_case1 hx hb hml hown hts hX hbl hL hK hk5 kn G A R H locs ls hI hC hRR hN hT hS (lv_sub hl [0, 1, 2, 3] rfl)
      ·
        rw [hw2]
        refine lv_tableIn (tgt := 192) hx hb d_law_32 (by decide) (by decide) rfl rfl ?_
        exact lw_case2 hx hb hml hown hts hX hbl hL hK hk5 kn G A R H locs ls hI hC hRR hN hT hS (lv_sub hl [0, 1, 2, 3] rfl)
      ·
        rw [hw3]
        refine lv_tableIn (tgt := 225) hx hb d_law_32 (by decide) (by decide) rfl rfl ?_
        exact lw_case3 hx hb hml hown hts hX hbl hL hK hk5 kn G A R H locs ls hI hC hRR hN hT hS (lv_sub hl [0, 1, 2, 3] rfl)
      ·
        rw [hw4]
        refine lv_tableIn (tgt := 258) hx hb d_law_32 (by decide) (by decide) rfl rfl ?_
        exact lw_case4 hx hb hml hown hts hX hbl hL hK hk5 kn G A R H locs ls hI hC hRR hN hT hS (lv_sub hl [0, 1, 2, 3] rfl)
      ·
        rw [hw5]
        refine lv_tableIn (tgt := 271) hx hb d_law_32 (by decide) (by decide) rfl rfl ?_
        exact lw_case5 hx hb hml hown hts hX hbl hL hK hk5 kn G A R H locs ls hI hC hRR hN hT hS (lv_sub hl [0, 1, 2, 3] rfl)
      ·
        rw [hw6]
        refine lv_tableIn (tgt := 284) hx hb d_law_32 (by decide) (by decide) rfl rfl ?_
        exact lw_case6 hx hb hml hown hts hX hbl hL hK hk5 kn G A R H locs ls hI hC hRR hN hT hS (lv_sub hl [0, 1, 2, 3] rfl)
      ·
        rw [hw7]
        refine lv_tableIn (tgt := 307) hx hb d_law_32 (by decide) (by decide) rfl rfl ?_
        exact lw_case7 hx hb hml hown hts hX hbl hL hK hk5 kn G A R H locs ls hI hC hRR hN hT hS (lv_sub hl [0, 1, 2, 3] rfl)
      ·
        rw [hw8]
        refine lv_tableIn (tgt := 356) hx hb d_law_32 (by decide) (by decide) rfl rfl ?_
        exact lw_case8 hx hb hml hown hts hX hbl hL hK hk5 kn G A R H locs ls hI hC hRR hN hT hS (lv_sub hl [0, 1, 2, 3] rfl)
      ·
        rw [hw9]
        refine lv_tableIn (tgt := 369) hx hb d_law_32 (by decide) (by decide) rfl rfl ?_
        exact lw_case9 hx hb hml hown hts hX hbl hL hK hk5 kn G A R H locs ls hI hC hRR hN hT hS (lv_sub hl [0, 1, 2, 3] rfl)
      ·
        rw [hw10]
        refine lv_tableIn (tgt := 392) hx hb d_law_32 (by decide) (by decide) rfl rfl ?_
        exact lw_case10 hx hb hml hown hts hX hbl hL hK hk5 kn G A R H locs ls hI hC hRR hN hT hS (lv_sub hl [0, 1, 2, 3] rfl)
      ·
        rw [hw11]
        refine lv_tableIn (tgt := 415) hx hb d_law_32 (by decide) (by decide) rfl rfl ?_
        exact lw_case11 hx hb hml hown hts hX hbl hL hK hk5 kn G A R H locs ls hI hC hRR hN hT hS (lv_sub hl [0, 1, 2, 3] rfl)
      ·
        rw [hw12]
        refine lv_tableIn (tgt := 438) hx hb d_law_32 (by decide) (by decide) rfl rfl ?_
        exact lw_case12 hx hb hml hown hts hX hbl hL hK hk5 kn G A R H locs ls hI hC hRR hN hT hS (lv_sub hl [0, 1, 2, 3] rfl)
      ·
        rw [hw13]
        refine lv_tableIn (tgt := 471) hx hb d_law_32 (by decide) (by decide) rfl rfl ?_
        exact lw_case13 hx hb hml hown hts hX hbl hL hK hk5 kn G A R H locs ls hI hC hRR hN hT hS (lv_sub hl [0, 1, 2, 3] rfl)
      ·
        rw [hw14]
        refine lv_tableIn (tgt := 530) hx hb d_law_32 (by decide) (by decide) rfl rfl ?_
        exact lw_case14 hx hb hml hown hts hX hbl hL hK hk5 kn G A R H locs ls hI hC hRR hN hT hS (lv_sub hl [0, 1, 2, 3] rfl)
      ·
        rw [hw15]
        refine lv_tableIn (tgt := 553) hx hb d_law_32 (by decide) (by decide) rfl rfl ?_
        exact lw_case15 hx hb hml hown hts hX hbl hL hK hk5 kn G A R H locs ls hI hC hRR hN hT hS (lv_sub hl [0, 1, 2, 3] rfl)
      ·
        rw [hw16]
        refine lv_tableIn (tgt := 576) hx hb d_law_32 (by decide) (by decide) rfl rfl ?_
        exact lw_case16 hx hb hml hown hts hX hbl hL hK hk5 kn G A R H locs ls hI hC hRR hN hT hS (lv_sub hl [0, 1, 2, 3] rfl)
      ·
        refine lv_tableOut (tgt := 599) hx hb d_law_32 hw17 rfl ?_
        refine W.widen (k := 36 + 4 * (k + 1)) (n := 6364 + 19 * (k + 1)) (by omega) (by omega) ?_
        exact kn G A R H locs ls hI hC hRR (SNk_up hN) hT hS (lv_sub hl [0, 1, 2, 3] rfl)
