set_option maxHeartbeats 4000000 in
set_option maxRecDepth 100000 in
theorem lc_0 {p : Program} {e : Env} {s : State} {m : MethodId} {below : List Frame} {meth : Method} {c : Code} (l : Launch) {b L : Nat} {xs : Nat → Int32} (hL : L ≤ 3584) (C0 : lw_At p s m meth c b L xs) {dC : Nat → ClassId} {dI : Nat → Nat → Nat} {h0 q1 q2 q3 j0 k1 k2 k3 : Nat} {cL cI cJ eL eI eJ : ClassId} {f : Nat → Int64} {g h : Nat → Int32} {n : Nat} (hok : nt_ok (f, g, h, n)) (hK : va_K (dC, dI) vwCl (nt_ty cL cI cJ ++ nt_ty eL eI eJ) s) {A : Nat → Prop} (hA : ∀ q : Nat, s.heap.size ≤ q → A q) (hbA : ¬ A b) {H : Heap} {locs : List Loc} {ls : Array Slot} {i : Nat} (hi : i + 7 ≤ L) (hl : lv_has ls 4 [(0, .ref b), (1, .ref h0), (2, .ref j0), (3, .int (nI i))]) (hP : va_P (dC, dI) vwCl (nt_w 0 h0 q1 q2 q3 cL cI cJ f g h n ++ nt_w 1 j0 k1 k2 k3 eL eI eJ f g h n) H) (hD : va_D A (nt_w 0 h0 q1 q2 q3 cL cI cJ f g h n ++ nt_w 1 j0 k1 k2 k3 eL eI eJ f g h n)) (hS : va_S A s.heap H locs) {Q : State → Prop} (nx : ∀ (u : nt_S) (H : Heap) (locs : List Loc), nt_ok u → va_P (dC, dI) vwCl (nt_w 0 h0 q1 q2 q3 cL cI cJ u.1 u.2.1 u.2.2.1 u.2.2.2 ++ nt_w 1 j0 k1 k2 k3 eL eI eJ u.1 u.2.1 u.2.2.1 u.2.2.2) H → va_D A (nt_w 0 h0 q1 q2 q3 cL cI cJ u.1 u.2.1 u.2.2.1 u.2.2.2 ++ nt_w 1 j0 k1 k2 k3 eL eI eJ u.1 u.2.1 u.2.2.1 u.2.2.2) → va_S A s.heap H locs → W p l e room_1 s m #[Value.ref b] below meth c H locs 8 5408 Q (F0 m 495 ls [])) : W p l e room_1 s m #[Value.ref b] below meth c H locs 8 5408 Q (F0 m 84 ls []) := by
  obtain ⟨hx, hb, -, hml, hown, hts, hX, hbl, -, -⟩ := C0
  have hts := fun w h => hts w (wsL_law_in w h)
  have hn : n ≤ 900 := hok.1
  have hKX : va_K (dC, dI) vwCl (nt_ty cL cI cJ) s := hK.sub [0, 1, 2] rfl
  have hKM : va_K (dC, dI) vwCl (nt_ty eL eI eJ) s := hK.sub [3, 4, 5] rfl
  have hc13 := hts (.constantLong RL 13 4294967295) (by decide +kernel)
  refine lv_aload_n hx hb dL_law_84 rfl (lv_at hl 1 rfl) ?_
  refine lv_aload_n hx hb dL_law_85 rfl (lv_at hl 0 rfl) ?_
  refine lv_iload_n hx hb dL_law_86 rfl (lv_at hl 3 rfl) ?_
  refine lv_iconst (v := nI 1) hx hb dL_law_87 (by decide) ?_
  refine lv_iadd hx hb dL_law_88 ?_
  refine nt_top (y := nI (i + 1)) (nI_add i 1) ?_
  refine nt_sld hx hb hX hbl hbA hS (j := (i + 1)) (by omega) hL dL_law_89 ?_
  refine lv_i2l (v := (xs (i + 1)).toInt64) hx hb dL_law_90 rfl ?_
  refine lv_bipush (v := 32) hx hb dL_law_91 (by decide) ?_
  refine lv_lshl (v := ((xs (i + 1)).toInt64) <<< ((32 : Int32).toInt64 &&& 63)) hx hb dL_law_93 rfl ?_
  refine lv_aload_n hx hb dL_law_94 rfl (lv_at hl 0 rfl) ?_
  refine lv_iload_n hx hb dL_law_95 rfl (lv_at hl 3 rfl) ?_
  refine lv_iconst (v := nI 2) hx hb dL_law_96 (by decide) ?_
  refine lv_iadd hx hb dL_law_97 ?_
  refine nt_top (y := nI (i + 2)) (nI_add i 2) ?_
  refine nt_sld hx hb hX hbl hbA hS (j := (i + 2)) (by omega) hL dL_law_98 ?_
  refine lv_i2l (v := (xs (i + 2)).toInt64) hx hb dL_law_99 rfl ?_
  refine lv_ldc2 (v := 4294967295) hx hb hown hc13 dL_law_100 ?_
  refine lv_land hx hb dL_law_103 ?_
  refine lv_lor hx hb dL_law_104 ?_
  refine lv_aload_n hx hb dL_law_105 rfl (lv_at hl 0 rfl) ?_
  refine lv_iload_n hx hb dL_law_106 rfl (lv_at hl 3 rfl) ?_
  refine lv_iconst (v := nI 3) hx hb dL_law_107 (by decide) ?_
  refine lv_iadd hx hb dL_law_108 ?_
  refine nt_top (y := nI (i + 3)) (nI_add i 3) ?_
  refine nt_sld hx hb hX hbl hbA hS (j := (i + 3)) (by omega) hL dL_law_109 ?_
  refine lv_aload_n hx hb dL_law_110 rfl (lv_at hl 0 rfl) ?_
  refine lv_iload_n hx hb dL_law_111 rfl (lv_at hl 3 rfl) ?_
  refine lv_iconst (v := nI 4) hx hb dL_law_112 (by decide) ?_
  refine lv_iadd hx hb dL_law_113 ?_
  refine nt_top (y := nI (i + 4)) (nI_add i 4) ?_
  refine nt_sld hx hb hX hbl hbA hS (j := (i + 4)) (by omega) hL dL_law_114 ?_
  have hPc : va_P (dC, dI) vwCl (nt_w 0 h0 q1 q2 q3 cL cI cJ f g h n) H := hP.sub [0, 1, 2, 3] rfl
  have hDc : va_D A (nt_w 0 h0 q1 q2 q3 cL cI cJ f g h n) := hD.sub [0, 1, 2, 3] (by decide) rfl
  refine nt_calli2 (va_runV (As := [.long ((((xs (i + 1)).toInt64) <<< ((32 : Int32).toInt64 &&& 63)) ||| (((xs (i + 2)).toInt64) &&& 4294967295)), .int (xs (i + 3)), .int (xs (i + 4))]) (rest := []) ⟨hx, hb, hml, hown, hts⟩ (kX_add l dC dI h0 q1 q2 q3 _ cL cI cJ f g h n ((((xs (i + 1)).toInt64) <<< ((32 : Int32).toInt64 &&& 63)) ||| (((xs (i + 2)).toInt64) &&& 4294967295)) (xs (i + 3)) (xs (i + 4)) hok) (cwV 3 hts gL_law_X0_add rfl rfl rfl (by decide +kernel) ⟨Nat.le_of_ble_eq_true rfl, Nat.le_of_ble_eq_true rfl⟩) (nt_preV rfl hPc hKX hDc [.long ((((xs (i + 1)).toInt64) <<< ((32 : Int32).toInt64 &&& 63)) ||| (((xs (i + 2)).toInt64) &&& 4294967295)), .int (xs (i + 3)), .int (xs (i + 4))]) rfl rfl hl.1 rfl (lv_room (Nat.le_of_ble_eq_true rfl)) dL_law_115 ⟨Nat.le_of_ble_eq_true rfl, Nat.le_of_ble_eq_true rfl⟩) hP hD hS hA (fun r1 u1 H locs hp1 hP hD hS => ?_)
  refine lv_aload_n hx hb dL_law_118 rfl (lv_at hl 2 rfl) ?_
  refine lv_aload_n hx hb dL_law_119 rfl (lv_at hl 0 rfl) ?_
  refine lv_iload_n hx hb dL_law_120 rfl (lv_at hl 3 rfl) ?_
  refine lv_iconst (v := nI 1) hx hb dL_law_121 (by decide) ?_
  refine lv_iadd hx hb dL_law_122 ?_
  refine nt_top (y := nI (i + 1)) (nI_add i 1) ?_
  refine nt_sld hx hb hX hbl hbA hS (j := (i + 1)) (by omega) hL dL_law_123 ?_
  refine lv_i2l (v := (xs (i + 1)).toInt64) hx hb dL_law_124 rfl ?_
  refine lv_bipush (v := 32) hx hb dL_law_125 (by decide) ?_
  refine lv_lshl (v := ((xs (i + 1)).toInt64) <<< ((32 : Int32).toInt64 &&& 63)) hx hb dL_law_127 rfl ?_
  refine lv_aload_n hx hb dL_law_128 rfl (lv_at hl 0 rfl) ?_
  refine lv_iload_n hx hb dL_law_129 rfl (lv_at hl 3 rfl) ?_
  refine lv_iconst (v := nI 2) hx hb dL_law_130 (by decide) ?_
  refine lv_iadd hx hb dL_law_131 ?_
  refine nt_top (y := nI (i + 2)) (nI_add i 2) ?_
  refine nt_sld hx hb hX hbl hbA hS (j := (i + 2)) (by omega) hL dL_law_132 ?_
  refine lv_i2l (v := (xs (i + 2)).toInt64) hx hb dL_law_133 rfl ?_
  refine lv_ldc2 (v := 4294967295) hx hb hown hc13 dL_law_134 ?_
  refine lv_land hx hb dL_law_137 ?_
  refine lv_lor hx hb dL_law_138 ?_
  refine lv_aload_n hx hb dL_law_139 rfl (lv_at hl 0 rfl) ?_
  refine lv_iload_n hx hb dL_law_140 rfl (lv_at hl 3 rfl) ?_
  refine lv_iconst (v := nI 3) hx hb dL_law_141 (by decide) ?_
  refine lv_iadd hx hb dL_law_142 ?_
  refine nt_top (y := nI (i + 3)) (nI_add i 3) ?_
  refine nt_sld hx hb hX hbl hbA hS (j := (i + 3)) (by omega) hL dL_law_143 ?_
  refine lv_aload_n hx hb dL_law_144 rfl (lv_at hl 0 rfl) ?_
  refine lv_iload_n hx hb dL_law_145 rfl (lv_at hl 3 rfl) ?_
  refine lv_iconst (v := nI 4) hx hb dL_law_146 (by decide) ?_
  refine lv_iadd hx hb dL_law_147 ?_
  refine nt_top (y := nI (i + 4)) (nI_add i 4) ?_
  refine nt_sld hx hb hX hbl hbA hS (j := (i + 4)) (by omega) hL dL_law_148 ?_
  have hPc : va_P (dC, dI) vwCl (nt_w 1 j0 k1 k2 k3 eL eI eJ f g h n) H := hP.sub [0, 1, 2, 3] rfl
  have hDc : va_D A (nt_w 1 j0 k1 k2 k3 eL eI eJ f g h n) := hD.sub [0, 1, 2, 3] (by decide) rfl
  refine nt_calli2 (va_runV (As := [.long ((((xs (i + 1)).toInt64) <<< ((32 : Int32).toInt64 &&& 63)) ||| (((xs (i + 2)).toInt64) &&& 4294967295)), .int (xs (i + 3)), .int (xs (i + 4))]) (rest := [.int r1]) ⟨hx, hb, hml, hown, hts⟩ (kM_add l dC dI j0 k1 k2 k3 _ eL eI eJ f g h n ((((xs (i + 1)).toInt64) <<< ((32 : Int32).toInt64 &&& 63)) ||| (((xs (i + 2)).toInt64) &&& 4294967295)) (xs (i + 3)) (xs (i + 4)) hok) (cwV 3 hts gL_law_X1_add rfl rfl rfl (by decide +kernel) ⟨Nat.le_of_ble_eq_true rfl, Nat.le_of_ble_eq_true rfl⟩) (nt_preV rfl hPc hKM hDc [.long ((((xs (i + 1)).toInt64) <<< ((32 : Int32).toInt64 &&& 63)) ||| (((xs (i + 2)).toInt64) &&& 4294967295)), .int (xs (i + 3)), .int (xs (i + 4))]) rfl rfl hl.1 rfl (lv_room (Nat.le_of_ble_eq_true rfl)) dL_law_149 ⟨Nat.le_of_ble_eq_true rfl, Nat.le_of_ble_eq_true rfl⟩) hP hD hS hA (fun r2 u2 H locs hp2 hP hD hS => ?_)
  obtain ⟨rfl, rfl⟩ := Prod.mk.inj (hp1.trans hp2.symm)
  have hok2 : nt_ok u1 := by
    have h9 : u1 = (nt_add (f, g, h, n) ((((xs (i + 1)).toInt64) <<< ((32 : Int32).toInt64 &&& 63)) ||| (((xs (i + 2)).toInt64) &&& 4294967295)) (xs (i + 3)) (xs (i + 4))).2 := congrArg Prod.snd hp1
    rw [h9]
    exact nt_add_ok hok ((((xs (i + 1)).toInt64) <<< ((32 : Int32).toInt64 &&& 63)) ||| (((xs (i + 2)).toInt64) &&& 4294967295)) (xs (i + 3)) (xs (i + 4))
  refine lv_icmp_eq (tgt := 495) hx hb dL_law_152 (by decide) (fun _ => ?_) (fun h9 => absurd rfl h9)
  exact nx u1 H locs hok2 hP hD hS
set_option maxHeartbeats 4000000 in
set_option maxRecDepth 100000 in
theorem lc_1 {p : Program} {e : Env} {s : State} {m : MethodId} {below : List Frame} {meth : Method} {c : Code} (l : Launch) {b L : Nat} {xs : Nat → Int32} (hL : L ≤ 3584) (C0 : lw_At p s m meth c b L xs) {dC : Nat → ClassId} {dI : Nat → Nat → Nat} {h0 q1 q2 q3 j0 k1 k2 k3 : Nat} {cL cI cJ eL eI eJ : ClassId} {f : Nat → Int64} {g h : Nat → Int32} {n : Nat} (hok : nt_ok (f, g, h, n)) (hK : va_K (dC, dI) vwCl (nt_ty cL cI cJ ++ nt_ty eL eI eJ) s) {A : Nat → Prop} (hA : ∀ q : Nat, s.heap.size ≤ q → A q) (hbA : ¬ A b) {H : Heap} {locs : List Loc} {ls : Array Slot} {i : Nat} (hi : i + 7 ≤ L) (hl : lv_has ls 4 [(0, .ref b), (1, .ref h0), (2, .ref j0), (3, .int (nI i))]) (hP : va_P (dC, dI) vwCl (nt_w 0 h0 q1 q2 q3 cL cI cJ f g h n ++ nt_w 1 j0 k1 k2 k3 eL eI eJ f g h n) H) (hD : va_D A (nt_w 0 h0 q1 q2 q3 cL cI cJ f g h n ++ nt_w 1 j0 k1 k2 k3 eL eI eJ f g h n)) (hS : va_S A s.heap H locs) {Q : State → Prop} (nx : ∀ (u : nt_S) (H : Heap) (locs : List Loc), nt_ok u → va_P (dC, dI) vwCl (nt_w 0 h0 q1 q2 q3 cL cI cJ u.1 u.2.1 u.2.2.1 u.2.2.2 ++ nt_w 1 j0 k1 k2 k3 eL eI eJ u.1 u.2.1 u.2.2.1 u.2.2.2) H → va_D A (nt_w 0 h0 q1 q2 q3 cL cI cJ u.1 u.2.1 u.2.2.1 u.2.2.2 ++ nt_w 1 j0 k1 k2 k3 eL eI eJ u.1 u.2.1 u.2.2.1 u.2.2.2) → va_S A s.heap H locs → W p l e room_1 s m #[Value.ref b] below meth c H locs 8 5408 Q (F0 m 495 ls [])) : W p l e room_1 s m #[Value.ref b] below meth c H locs 8 5408 Q (F0 m 157 ls []) := by
  obtain ⟨hx, hb, -, hml, hown, hts, hX, hbl, -, -⟩ := C0
  have hts := fun w h => hts w (wsL_law_in w h)
  have hn : n ≤ 900 := hok.1
  have hKX : va_K (dC, dI) vwCl (nt_ty cL cI cJ) s := hK.sub [0, 1, 2] rfl
  have hKM : va_K (dC, dI) vwCl (nt_ty eL eI eJ) s := hK.sub [3, 4, 5] rfl
  have hc13 := hts (.constantLong RL 13 4294967295) (by decide +kernel)
  refine lv_aload_n hx hb dL_law_157 rfl (lv_at hl 1 rfl) ?_
  refine lv_aload_n hx hb dL_law_158 rfl (lv_at hl 0 rfl) ?_
  refine lv_iload_n hx hb dL_law_159 rfl (lv_at hl 3 rfl) ?_
  refine lv_iconst (v := nI 1) hx hb dL_law_160 (by decide) ?_
  refine lv_iadd hx hb dL_law_161 ?_
  refine nt_top (y := nI (i + 1)) (nI_add i 1) ?_
  refine nt_sld hx hb hX hbl hbA hS (j := (i + 1)) (by omega) hL dL_law_162 ?_
  refine lv_i2l (v := (xs (i + 1)).toInt64) hx hb dL_law_163 rfl ?_
  refine lv_bipush (v := 32) hx hb dL_law_164 (by decide) ?_
  refine lv_lshl (v := ((xs (i + 1)).toInt64) <<< ((32 : Int32).toInt64 &&& 63)) hx hb dL_law_166 rfl ?_
  refine lv_aload_n hx hb dL_law_167 rfl (lv_at hl 0 rfl) ?_
  refine lv_iload_n hx hb dL_law_168 rfl (lv_at hl 3 rfl) ?_
  refine lv_iconst (v := nI 2) hx hb dL_law_169 (by decide) ?_
  refine lv_iadd hx hb dL_law_170 ?_
  refine nt_top (y := nI (i + 2)) (nI_add i 2) ?_
  refine nt_sld hx hb hX hbl hbA hS (j := (i + 2)) (by omega) hL dL_law_171 ?_
  refine lv_i2l (v := (xs (i + 2)).toInt64) hx hb dL_law_172 rfl ?_
  refine lv_ldc2 (v := 4294967295) hx hb hown hc13 dL_law_173 ?_
  refine lv_land hx hb dL_law_176 ?_
  refine lv_lor hx hb dL_law_177 ?_
  refine lv_aload_n hx hb dL_law_178 rfl (lv_at hl 0 rfl) ?_
  refine lv_iload_n hx hb dL_law_179 rfl (lv_at hl 3 rfl) ?_
  refine lv_iconst (v := nI 3) hx hb dL_law_180 (by decide) ?_
  refine lv_iadd hx hb dL_law_181 ?_
  refine nt_top (y := nI (i + 3)) (nI_add i 3) ?_
  refine nt_sld hx hb hX hbl hbA hS (j := (i + 3)) (by omega) hL dL_law_182 ?_
  refine lv_i2l (v := (xs (i + 3)).toInt64) hx hb dL_law_183 rfl ?_
  refine lv_bipush (v := 32) hx hb dL_law_184 (by decide) ?_
  refine lv_lshl (v := ((xs (i + 3)).toInt64) <<< ((32 : Int32).toInt64 &&& 63)) hx hb dL_law_186 rfl ?_
  refine lv_aload_n hx hb dL_law_187 rfl (lv_at hl 0 rfl) ?_
  refine lv_iload_n hx hb dL_law_188 rfl (lv_at hl 3 rfl) ?_
  refine lv_iconst (v := nI 4) hx hb dL_law_189 (by decide) ?_
  refine lv_iadd hx hb dL_law_190 ?_
  refine nt_top (y := nI (i + 4)) (nI_add i 4) ?_
  refine nt_sld hx hb hX hbl hbA hS (j := (i + 4)) (by omega) hL dL_law_191 ?_
  refine lv_i2l (v := (xs (i + 4)).toInt64) hx hb dL_law_192 rfl ?_
  refine lv_ldc2 (v := 4294967295) hx hb hown hc13 dL_law_193 ?_
  refine lv_land hx hb dL_law_196 ?_
  refine lv_lor hx hb dL_law_197 ?_
  refine lv_aload_n hx hb dL_law_198 rfl (lv_at hl 0 rfl) ?_
  refine lv_iload_n hx hb dL_law_199 rfl (lv_at hl 3 rfl) ?_
  refine lv_iconst (v := nI 5) hx hb dL_law_200 (by decide) ?_
  refine lv_iadd hx hb dL_law_201 ?_
  refine nt_top (y := nI (i + 5)) (nI_add i 5) ?_
  refine nt_sld hx hb hX hbl hbA hS (j := (i + 5)) (by omega) hL dL_law_202 ?_
  refine lv_aload_n hx hb dL_law_203 rfl (lv_at hl 0 rfl) ?_
  refine lv_iload_n hx hb dL_law_204 rfl (lv_at hl 3 rfl) ?_
  refine lv_bipush (v := nI 6) hx hb dL_law_205 (by decide) ?_
  refine lv_iadd hx hb dL_law_207 ?_
  refine nt_top (y := nI (i + 6)) (nI_add i 6) ?_
  refine nt_sld hx hb hX hbl hbA hS (j := (i + 6)) (by omega) hL dL_law_208 ?_
  have hPc : va_P (dC, dI) vwCl (nt_w 0 h0 q1 q2 q3 cL cI cJ f g h n) H := hP.sub [0, 1, 2, 3] rfl
  have hDc : va_D A (nt_w 0 h0 q1 q2 q3 cL cI cJ f g h n) := hD.sub [0, 1, 2, 3] (by decide) rfl
  refine nt_calli2 (va_runV (As := [.long ((((xs (i + 1)).toInt64) <<< ((32 : Int32).toInt64 &&& 63)) ||| (((xs (i + 2)).toInt64) &&& 4294967295)), .long ((((xs (i + 3)).toInt64) <<< ((32 : Int32).toInt64 &&& 63)) ||| (((xs (i + 4)).toInt64) &&& 4294967295)), .int (xs (i + 5)), .int (xs (i + 6))]) (rest := []) ⟨hx, hb, hml, hown, hts⟩ (kX_some l dC dI h0 q1 q2 q3 _ cL cI cJ f g h n ((((xs (i + 1)).toInt64) <<< ((32 : Int32).toInt64 &&& 63)) ||| (((xs (i + 2)).toInt64) &&& 4294967295)) ((((xs (i + 3)).toInt64) <<< ((32 : Int32).toInt64 &&& 63)) ||| (((xs (i + 4)).toInt64) &&& 4294967295)) (xs (i + 5)) (xs (i + 6)) hok) (cwV 4 hts gL_law_X0_some rfl rfl rfl (by decide +kernel) ⟨Nat.le_of_ble_eq_true rfl, Nat.le_of_ble_eq_true rfl⟩) (nt_preV rfl hPc hKX hDc [.long ((((xs (i + 1)).toInt64) <<< ((32 : Int32).toInt64 &&& 63)) ||| (((xs (i + 2)).toInt64) &&& 4294967295)), .long ((((xs (i + 3)).toInt64) <<< ((32 : Int32).toInt64 &&& 63)) ||| (((xs (i + 4)).toInt64) &&& 4294967295)), .int (xs (i + 5)), .int (xs (i + 6))]) rfl rfl hl.1 rfl (lv_room (Nat.le_of_ble_eq_true rfl)) dL_law_209 ⟨Nat.le_of_ble_eq_true rfl, Nat.le_of_ble_eq_true rfl⟩) hP hD hS hA (fun r1 u1 H locs hp1 hP hD hS => ?_)
  refine lv_aload_n hx hb dL_law_212 rfl (lv_at hl 2 rfl) ?_
  refine lv_aload_n hx hb dL_law_213 rfl (lv_at hl 0 rfl) ?_
  refine lv_iload_n hx hb dL_law_214 rfl (lv_at hl 3 rfl) ?_
  refine lv_iconst (v := nI 1) hx hb dL_law_215 (by decide) ?_
  refine lv_iadd hx hb dL_law_216 ?_
  refine nt_top (y := nI (i + 1)) (nI_add i 1) ?_
  refine nt_sld hx hb hX hbl hbA hS (j := (i + 1)) (by omega) hL dL_law_217 ?_
  refine lv_i2l (v := (xs (i + 1)).toInt64) hx hb dL_law_218 rfl ?_
  refine lv_bipush (v := 32) hx hb dL_law_219 (by decide) ?_
  refine lv_lshl (v := ((xs (i + 1)).toInt64) <<< ((32 : Int32).toInt64 &&& 63)) hx hb dL_law_221 rfl ?_
  refine lv_aload_n hx hb dL_law_222 rfl (lv_at hl 0 rfl) ?_
  refine lv_iload_n hx hb dL_law_223 rfl (lv_at hl 3 rfl) ?_
  refine lv_iconst (v := nI 2) hx hb dL_law_224 (by decide) ?_
  refine lv_iadd hx hb dL_law_225 ?_
  refine nt_top (y := nI (i + 2)) (nI_add i 2) ?_
  refine nt_sld hx hb hX hbl hbA hS (j := (i + 2)) (by omega) hL dL_law_226 ?_
  refine lv_i2l (v := (xs (i + 2)).toInt64) hx hb dL_law_227 rfl ?_
  refine lv_ldc2 (v := 4294967295) hx hb hown hc13 dL_law_228 ?_
  refine lv_land hx hb dL_law_231 ?_
  refine lv_lor hx hb dL_law_232 ?_
  refine lv_aload_n hx hb dL_law_233 rfl (lv_at hl 0 rfl) ?_
  refine lv_iload_n hx hb dL_law_234 rfl (lv_at hl 3 rfl) ?_
  refine lv_iconst (v := nI 3) hx hb dL_law_235 (by decide) ?_
  refine lv_iadd hx hb dL_law_236 ?_
  refine nt_top (y := nI (i + 3)) (nI_add i 3) ?_
  refine nt_sld hx hb hX hbl hbA hS (j := (i + 3)) (by omega) hL dL_law_237 ?_
  refine lv_i2l (v := (xs (i + 3)).toInt64) hx hb dL_law_238 rfl ?_
  refine lv_bipush (v := 32) hx hb dL_law_239 (by decide) ?_
  refine lv_lshl (v := ((xs (i + 3)).toInt64) <<< ((32 : Int32).toInt64 &&& 63)) hx hb dL_law_241 rfl ?_
  refine lv_aload_n hx hb dL_law_242 rfl (lv_at hl 0 rfl) ?_
  refine lv_iload_n hx hb dL_law_243 rfl (lv_at hl 3 rfl) ?_
  refine lv_iconst (v := nI 4) hx hb dL_law_244 (by decide) ?_
  refine lv_iadd hx hb dL_law_245 ?_
  refine nt_top (y := nI (i + 4)) (nI_add i 4) ?_
  refine nt_sld hx hb hX hbl hbA hS (j := (i + 4)) (by omega) hL dL_law_246 ?_
  refine lv_i2l (v := (xs (i + 4)).toInt64) hx hb dL_law_247 rfl ?_
  refine lv_ldc2 (v := 4294967295) hx hb hown hc13 dL_law_248 ?_
  refine lv_land hx hb dL_law_251 ?_
  refine lv_lor hx hb dL_law_252 ?_
  refine lv_aload_n hx hb dL_law_253 rfl (lv_at hl 0 rfl) ?_
  refine lv_iload_n hx hb dL_law_254 rfl (lv_at hl 3 rfl) ?_
  refine lv_iconst (v := nI 5) hx hb dL_law_255 (by decide) ?_
  refine lv_iadd hx hb dL_law_256 ?_
  refine nt_top (y := nI (i + 5)) (nI_add i 5) ?_
  refine nt_sld hx hb hX hbl hbA hS (j := (i + 5)) (by omega) hL dL_law_257 ?_
  refine lv_aload_n hx hb dL_law_258 rfl (lv_at hl 0 rfl) ?_
  refine lv_iload_n hx hb dL_law_259 rfl (lv_at hl 3 rfl) ?_
  refine lv_bipush (v := nI 6) hx hb dL_law_260 (by decide) ?_
  refine lv_iadd hx hb dL_law_262 ?_
  refine nt_top (y := nI (i + 6)) (nI_add i 6) ?_
  refine nt_sld hx hb hX hbl hbA hS (j := (i + 6)) (by omega) hL dL_law_263 ?_
  have hPc : va_P (dC, dI) vwCl (nt_w 1 j0 k1 k2 k3 eL eI eJ f g h n) H := hP.sub [0, 1, 2, 3] rfl
  have hDc : va_D A (nt_w 1 j0 k1 k2 k3 eL eI eJ f g h n) := hD.sub [0, 1, 2, 3] (by decide) rfl
  refine nt_calli2 (va_runV (As := [.long ((((xs (i + 1)).toInt64) <<< ((32 : Int32).toInt64 &&& 63)) ||| (((xs (i + 2)).toInt64) &&& 4294967295)), .long ((((xs (i + 3)).toInt64) <<< ((32 : Int32).toInt64 &&& 63)) ||| (((xs (i + 4)).toInt64) &&& 4294967295)), .int (xs (i + 5)), .int (xs (i + 6))]) (rest := [.int r1]) ⟨hx, hb, hml, hown, hts⟩ (kM_some l dC dI j0 k1 k2 k3 _ eL eI eJ f g h n ((((xs (i + 1)).toInt64) <<< ((32 : Int32).toInt64 &&& 63)) ||| (((xs (i + 2)).toInt64) &&& 4294967295)) ((((xs (i + 3)).toInt64) <<< ((32 : Int32).toInt64 &&& 63)) ||| (((xs (i + 4)).toInt64) &&& 4294967295)) (xs (i + 5)) (xs (i + 6)) hok) (cwV 4 hts gL_law_X1_some rfl rfl rfl (by decide +kernel) ⟨Nat.le_of_ble_eq_true rfl, Nat.le_of_ble_eq_true rfl⟩) (nt_preV rfl hPc hKM hDc [.long ((((xs (i + 1)).toInt64) <<< ((32 : Int32).toInt64 &&& 63)) ||| (((xs (i + 2)).toInt64) &&& 4294967295)), .long ((((xs (i + 3)).toInt64) <<< ((32 : Int32).toInt64 &&& 63)) ||| (((xs (i + 4)).toInt64) &&& 4294967295)), .int (xs (i + 5)), .int (xs (i + 6))]) rfl rfl hl.1 rfl (lv_room (Nat.le_of_ble_eq_true rfl)) dL_law_264 ⟨Nat.le_of_ble_eq_true rfl, Nat.le_of_ble_eq_true rfl⟩) hP hD hS hA (fun r2 u2 H locs hp2 hP hD hS => ?_)
  obtain ⟨rfl, rfl⟩ := Prod.mk.inj (hp1.trans hp2.symm)
  have hok2 : nt_ok u1 := by
    have h9 : u1 = (nt_some (f, g, h, n) ((((xs (i + 1)).toInt64) <<< ((32 : Int32).toInt64 &&& 63)) ||| (((xs (i + 2)).toInt64) &&& 4294967295)) ((((xs (i + 3)).toInt64) <<< ((32 : Int32).toInt64 &&& 63)) ||| (((xs (i + 4)).toInt64) &&& 4294967295)) (xs (i + 5)) (xs (i + 6))).2 := congrArg Prod.snd hp1
    rw [h9]
    exact nt_some_ok hok ((((xs (i + 1)).toInt64) <<< ((32 : Int32).toInt64 &&& 63)) ||| (((xs (i + 2)).toInt64) &&& 4294967295)) ((((xs (i + 3)).toInt64) <<< ((32 : Int32).toInt64 &&& 63)) ||| (((xs (i + 4)).toInt64) &&& 4294967295)) (xs (i + 5)) (xs (i + 6))
  refine lv_icmp_eq (tgt := 495) hx hb dL_law_267 (by decide) (fun _ => ?_) (fun h9 => absurd rfl h9)
  exact nx u1 H locs hok2 hP hD hS
