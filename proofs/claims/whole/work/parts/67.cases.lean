set_option maxHeartbeats 4000000 in
set_option maxRecDepth 100000 in
theorem law_lay {pg : Program} {l : Launch} {e : Env} {s : State} {m : MethodId} {below : List Frame} {meth : Method} {c : Code} {H : Heap} {locs : List Loc} {C Z : Nat} {Q : State → Prop} {ls : Array Slot} {D : va_G} {cs : Nat → ClassId} {adC adM : Nat → Nat} {qo mo b L i N : Nat} {xs : Nat → Int32} {A : Nat → Prop} {J V : Mm} {o : Nat → Int64}
    (X : LCx pg l s m c D cs A b L xs) (hi : i + 5 ≤ L) (hl : lv_has ls 9 [(0, .ref b), (1, .ref (adC 0)), (2, .ref mo), (3, .ref qo), (4, .int (nI i))]) (hLS : LSt D cs adC adM qo mo A J V N o H) (hS : va_S A s.heap H locs) (hC : C ≤ 90000) (hZ : Z ≤ 900000)
    (kk : ∀ (adM' : Nat → Nat) (J' V' : Mm) (N' : Nat) (o' : Nat → Int64) (H' : Heap) (locs' : List Loc) (ls' : Array Slot) (C' Z' : Nat), LSt D cs adC adM' qo mo A J' V' N' o' H' → va_S A s.heap H' locs' → lv_has ls' 9 [(0, .ref b), (1, .ref (adC 0)), (2, .ref mo), (3, .ref qo), (4, .int (nI i))] → C' ≤ C + 10 → Z' ≤ Z + 1100 → W pg l e room_1 s m #[Value.ref b] below meth c H' locs' C' Z' Q (F0 m 1195 ls' [])) : W pg l e room_1 s m #[Value.ref b] below meth c H locs C Z Q (F0 m 116 ls []) := by
  obtain ⟨hx, hb, hml, hown, hts, hscr, hbl, hbA, hK, hN, hXW, hAO, hA, hL, hst⟩ := X
  obtain ⟨⟨hIV, hR, hR2, hRl⟩, hPX, hDX, hPM, hDM, hap, rfl⟩ := hLS
  have hN8 := hIV.1.2.1
  refine lv_aload_n hx hb dL_law_116 rfl (lv_at hl 1 rfl) ?_
  refine lv_aload_n hx hb dL_law_117 rfl (lv_at hl 0 rfl) ?_
  refine lv_iload hx hb dL_law_118 (lv_at hl 4 rfl) ?_
  refine lv_iconst (v := nI 1) hx hb dL_law_120 (by decide) ?_
  refine lv_iadd hx hb dL_law_121 ?_
  rw [nI_add i 1]
  refine r_sld hx hb hscr hbl hbA hS hL (j := i + 1) (by omega) dL_law_122 ?_
  refine lv_aload_n hx hb dL_law_123 rfl (lv_at hl 0 rfl) ?_
  refine lv_iload hx hb dL_law_124 (lv_at hl 4 rfl) ?_
  refine lv_iconst (v := nI 2) hx hb dL_law_126 (by decide) ?_
  refine lv_iadd hx hb dL_law_127 ?_
  rw [nI_add i 2]
  refine r_sld hx hb hscr hbl hbA hS hL (j := i + 2) (by omega) dL_law_128 ?_
  refine lv_aload_n hx hb dL_law_129 rfl (lv_at hl 0 rfl) ?_
  refine lv_iload hx hb dL_law_130 (lv_at hl 4 rfl) ?_
  refine lv_iconst (v := nI 3) hx hb dL_law_132 (by decide) ?_
  refine lv_iadd hx hb dL_law_133 ?_
  rw [nI_add i 3]
  refine r_sld hx hb hscr hbl hbA hS hL (j := i + 3) (by omega) dL_law_134 ?_
  refine lv_aload_n hx hb dL_law_135 rfl (lv_at hl 3 rfl) ?_
  have hfX := A_free hDX hS hA
  refine va_calli (vx_runSW (As := [.ref (adC 0), .int (xs (i + 1)), .int (xs (i + 2)), .int (xs (i + 3)), .ref qo]) (rest := []) ⟨hx, hb, hml, hown, hts⟩ (c_L_lay l hst D cs adC J qo o H.size (xs (i + 1)) (xs (i + 2)) (xs (i + 3)) N hIV hR hR2) (vx_cwSW 5 hts gL_law_L_lay rfl rfl rfl (by decide +kernel) ⟨Nat.le_of_ble_eq_true rfl, Nat.le_of_ble_eq_true rfl⟩) (h_preS hPX hDX hK hN (hXW.at hS) hfX) rfl rfl hl.1 rfl (lv_room (Nat.le_of_ble_eq_true rfl)) dL_law_136 ⟨rc (by omega), rs (by omega)⟩) hS (fun q _ h => hfX q h) hfX (fun r u t9 H9 locs ht9 hvm9 hw9 hB9 hz9 hk9 hS => ?_)
  obtain ⟨rfl, hFX, hans⟩ := hw9
  rw [ht9] at hB9
  have hPM := M_keep hap hPM hk9
  have hapu := Ap_lX (J := u.1) (o' := u.2) hap
  have hDX := lX_D (J := u.1) (o' := u.2) hDX
  refine lv_istore (lv' := [(5, .int (nI (thZ_lay J 1 N (xs (i + 1)) (xs (i + 2)) (xs (i + 3))))), (0, .ref b), (1, .ref (adC 0)), (2, .ref (adM 0)), (3, .ref qo), (4, .int (nI i))]) hx hb dL_law_139 hl (by decide) rfl (fun ls hl => ?_)
  refine lv_aload_n hx hb dL_law_141 rfl (lv_at hl 3 rfl) ?_
  refine lv_aload_n hx hb dL_law_142 rfl (lv_at hl 1 rfl) ?_
  refine lv_iload hx hb dL_law_143 (lv_at hl 5 rfl) ?_
  refine lv_iconst (v := nI 1) hx hb dL_law_145 (by decide) ?_
  refine lv_iadd hx hb dL_law_146 ?_
  rw [nI_add i 1]
  refine r_sld hx hb hscr hbl hbA hS hL (j := i + 1) (by omega) dL_law_147 ?_
  refine lv_aload_n hx hb dL_law_148 rfl (lv_at hl 1 rfl) ?_
  refine lv_iload hx hb dL_law_149 (lv_at hl 5 rfl) ?_
  refine lv_iconst (v := nI 2) hx hb dL_law_151 (by decide) ?_
  refine lv_iadd hx hb dL_law_152 ?_
  rw [nI_add i 2]
  refine r_sld hx hb hscr hbl hbA hS hL (j := i + 2) (by omega) dL_law_153 ?_
  refine lv_aload_n hx hb dL_law_154 rfl (lv_at hl 1 rfl) ?_
  refine lv_iload hx hb dL_law_155 (lv_at hl 5 rfl) ?_
  refine lv_iconst (v := nI 3) hx hb dL_law_157 (by decide) ?_
  refine lv_iadd hx hb dL_law_158 ?_
  rw [nI_add i 3]
  refine r_sld hx hb hscr hbl hbA hS hL (j := i + 3) (by omega) dL_law_159 ?_
  refine g_calliK hB9 hapu hDM hS hA (va_runV (As := [.int (xs (i + 1)), .int (xs (i + 2)), .int (xs (i + 3))]) (rest := []) ⟨hx, hb, hml, hown, hts⟩ (c_X6_lay_ l D cs adM V H9.size 0 rfl (xs (i + 1)) (xs (i + 2)) (xs (i + 3)) 1 J N hRl hIV) (cwV 3 hts gL_law_X6_lay_ rfl rfl rfl (by decide +kernel) ⟨Nat.le_of_ble_eq_true rfl, Nat.le_of_ble_eq_true rfl⟩) (g_preV hPM hDM hK hN (k := 0) rfl (by decide) rfl rfl rfl rfl) rfl rfl hl.1 rfl (lv_room (Nat.le_of_ble_eq_true rfl)) dL_law_160 ⟨rc (by omega), rs (by omega)⟩) (fun b2 V2 H locs hw9 hPX hPM hDM hS => ?_)
  obtain ⟨hRl2, hth2, hb2⟩ := hw9
  refine lv_istore (lv' := [(6, .int b2), (5, .int (nI (thZ_lay J 1 N (xs (i + 1)) (xs (i + 2)) (xs (i + 3))))), (0, .ref b), (1, .ref (adC 0)), (2, .ref (adM 0)), (3, .ref qo), (4, .int (nI i))]) hx hb dL_law_163 hl (by decide) rfl (fun ls hl => ?_)
  refine lv_aload_n hx hb dL_law_165 rfl (lv_at hl 4 rfl) ?_
  refine g_callFK (F := f_X6_thrown V2 0) hPX hapu hDM hS hA (va_runV (As := []) (rest := []) ⟨hx, hb, hml, hown, hts⟩ (c_X6_thrown l D cs adM V2 H.size 0 rfl) (cwV 0 hts gL_law_X6_thrown rfl rfl rfl (by decide +kernel) ⟨Nat.le_of_ble_eq_true rfl, Nat.le_of_ble_eq_true rfl⟩) (g_preV hPM hDM hK hN (k := 0) rfl (by decide) rfl rfl rfl rfl) rfl rfl hl.1 rfl (lv_room (Nat.le_of_ble_eq_true rfl)) dL_law_166 ⟨rc (by omega), rs (by omega)⟩) (fun H locs hPX hPM hDM hS => ?_)
  refine lv_iload hx hb dL_law_169 (lv_at hl 1 rfl) ?_
  refine lv_icmp_eq (tgt := 176) hx hb dL_law_171 (by decide) (fun _ => ?_) (fun y => absurd hth2 y)
  have hLI : LI u.1 V2 N := LI.of (J' := mZ_lay J 1 N (xs (i + 1)) (xs (i + 2)) (xs (i + 3))) hFX (hIV.lay (xs (i + 1)) (xs (i + 2)) (xs (i + 3))) hRl2
  have hend : ∀ (H' : Heap) (locs' : List Loc) (ls' : Array Slot) (C' Z' : Nat), va_P D vwCl (lX cs adC u.1 qo u.2) H' → va_P D vwCl (gw kM cs adM V2) H' → va_S A s.heap H' locs' → lv_has ls' 9 [(0, .ref b), (1, .ref (adC 0)), (2, .ref (adM 0)), (3, .ref qo), (4, .int (nI i))] → C' ≤ C + 10 → Z' ≤ Z + 1100 → W pg l e room_1 s m #[Value.ref b] below meth c H' locs' C' Z' Q (F0 m 1195 ls' []) := fun H' locs' ls' C' Z' h1 h2 h3 h4 h5 h6 => kk adM u.1 V2 N u.2 H' locs' ls' C' Z' ⟨hLI, h1, hDX, h2, hDM, hapu, rfl⟩ h3 h4 h5 h6
  refine lv_iload hx hb dL_law_176 (lv_at hl 1 rfl) ?_
  by_cases hz : thZ_lay J 1 N (xs (i + 1)) (xs (i + 2)) (xs (i + 3)) = 0
  · refine lv_if_ne (tgt := 193) hx hb dL_law_178 (by decide) (fun y => absurd (show nI (thZ_lay J 1 N (xs (i + 1)) (xs (i + 2)) (xs (i + 3))) = 0 from by rw [hz]; rfl) y) (fun _ => ?_)
    obtain ⟨a9, ha9, ho9⟩ := hans hz
    have hb9 := hb2 hz
    have hab : a9 = b2 := (ha9.trans hb9.symm)
    refine lv_aload_n hx hb dL_law_181 rfl (lv_at hl 5 rfl) ?_
    refine lv_iconst (v := nI 0) hx hb dL_law_182 (by decide) ?_
    refine va_lald hx hb hK hPX (gw kC cs adC u.1).length 3 (app_rt (k := 0) rfl) rfl (vp_in_nI (by decide) (by decide)) dL_law_183 ?_
    rw [nI_clamp (by decide), ho9]
    refine lv_iload hx hb dL_law_184 (lv_at hl 0 rfl) ?_
    refine lv_i2l (v := b2.toInt64) hx hb dL_law_186 rfl ?_
    refine W.lcmp hx hb dL_law_187 ?_
    rw [hab, cmp_self]
    refine lv_if_eq (tgt := 193) hx hb dL_law_188 (by decide) (fun _ => ?_) (fun y => absurd rfl y)
    refine lv_goto (tgt := 1195) hx hb dL_law_193 (by decide) ?_
    exact hend _ _ _ _ _ hPX hPM hS (lv_sub hl [2, 3, 4, 5, 6] rfl) (by omega) (by omega)
  · refine lv_if_ne (tgt := 193) hx hb dL_law_178 (by decide) (fun _ => ?_) (fun y => absurd y (nz b_lay hz))
    refine lv_goto (tgt := 1195) hx hb dL_law_193 (by decide) ?_
    exact hend _ _ _ _ _ hPX hPM hS (lv_sub hl [2, 3, 4, 5, 6] rfl) (by omega) (by omega)
set_option maxHeartbeats 4000000 in
set_option maxRecDepth 100000 in
theorem law_cell {pg : Program} {l : Launch} {e : Env} {s : State} {m : MethodId} {below : List Frame} {meth : Method} {c : Code} {H : Heap} {locs : List Loc} {C Z : Nat} {Q : State → Prop} {ls : Array Slot} {D : va_G} {cs : Nat → ClassId} {adC adM : Nat → Nat} {qo mo b L i N : Nat} {xs : Nat → Int32} {A : Nat → Prop} {J V : Mm} {o : Nat → Int64}
    (X : LCx pg l s m c D cs A b L xs) (hi : i + 5 ≤ L) (hl : lv_has ls 9 [(0, .ref b), (1, .ref (adC 0)), (2, .ref mo), (3, .ref qo), (4, .int (nI i))]) (hLS : LSt D cs adC adM qo mo A J V N o H) (hS : va_S A s.heap H locs) (hC : C ≤ 90000) (hZ : Z ≤ 900000)
    (kk : ∀ (adM' : Nat → Nat) (J' V' : Mm) (N' : Nat) (o' : Nat → Int64) (H' : Heap) (locs' : List Loc) (ls' : Array Slot) (C' Z' : Nat), LSt D cs adC adM' qo mo A J' V' N' o' H' → va_S A s.heap H' locs' → lv_has ls' 9 [(0, .ref b), (1, .ref (adC 0)), (2, .ref mo), (3, .ref qo), (4, .int (nI i))] → C' ≤ C + 10 → Z' ≤ Z + 1100 → W pg l e room_1 s m #[Value.ref b] below meth c H' locs' C' Z' Q (F0 m 1195 ls' [])) : W pg l e room_1 s m #[Value.ref b] below meth c H locs C Z Q (F0 m 196 ls []) := by
  obtain ⟨hx, hb, hml, hown, hts, hscr, hbl, hbA, hK, hN, hXW, hAO, hA, hL, hst⟩ := X
  obtain ⟨⟨hIV, hR, hR2, hRl⟩, hPX, hDX, hPM, hDM, hap, rfl⟩ := hLS
  have hN8 := hIV.1.2.1
  refine lv_aload_n hx hb dL_law_196 rfl (lv_at hl 1 rfl) ?_
  refine lv_aload_n hx hb dL_law_197 rfl (lv_at hl 0 rfl) ?_
  refine lv_iload hx hb dL_law_198 (lv_at hl 4 rfl) ?_
  refine lv_iconst (v := nI 1) hx hb dL_law_200 (by decide) ?_
  refine lv_iadd hx hb dL_law_201 ?_
  rw [nI_add i 1]
  refine r_sld hx hb hscr hbl hbA hS hL (j := i + 1) (by omega) dL_law_202 ?_
  refine lv_aload_n hx hb dL_law_203 rfl (lv_at hl 0 rfl) ?_
  refine lv_iload hx hb dL_law_204 (lv_at hl 4 rfl) ?_
  refine lv_iconst (v := nI 2) hx hb dL_law_206 (by decide) ?_
  refine lv_iadd hx hb dL_law_207 ?_
  rw [nI_add i 2]
  refine r_sld hx hb hscr hbl hbA hS hL (j := i + 2) (by omega) dL_law_208 ?_
  refine lv_aload_n hx hb dL_law_209 rfl (lv_at hl 0 rfl) ?_
  refine lv_iload hx hb dL_law_210 (lv_at hl 4 rfl) ?_
  refine lv_iconst (v := nI 3) hx hb dL_law_212 (by decide) ?_
  refine lv_iadd hx hb dL_law_213 ?_
  rw [nI_add i 3]
  refine r_sld hx hb hscr hbl hbA hS hL (j := i + 3) (by omega) dL_law_214 ?_
  refine lv_aload_n hx hb dL_law_215 rfl (lv_at hl 3 rfl) ?_
  have hfX := A_free hDX hS hA
  refine va_calli (vx_runSW (As := [.ref (adC 0), .int (xs (i + 1)), .int (xs (i + 2)), .int (xs (i + 3)), .ref qo]) (rest := []) ⟨hx, hb, hml, hown, hts⟩ (c_L_cell l hst D cs adC J qo o H.size (xs (i + 1)) (xs (i + 2)) (xs (i + 3)) N hIV hR hR2) (vx_cwSW 5 hts gL_law_L_cell rfl rfl rfl (by decide +kernel) ⟨Nat.le_of_ble_eq_true rfl, Nat.le_of_ble_eq_true rfl⟩) (h_preS hPX hDX hK hN (hXW.at hS) hfX) rfl rfl hl.1 rfl (lv_room (Nat.le_of_ble_eq_true rfl)) dL_law_216 ⟨rc (by omega), rs (by omega)⟩) hS (fun q _ h => hfX q h) hfX (fun r u t9 H9 locs ht9 hvm9 hw9 hB9 hz9 hk9 hS => ?_)
  obtain ⟨rfl, hFX, hans⟩ := hw9
  rw [ht9] at hB9
  have hPM := M_keep hap hPM hk9
  have hapu := Ap_lX (J := u.1) (o' := u.2) hap
  have hDX := lX_D (J := u.1) (o' := u.2) hDX
  refine lv_istore (lv' := [(5, .int (nI (thZ_cell (xs (i + 1)) (xs (i + 2)) (xs (i + 3))))), (0, .ref b), (1, .ref (adC 0)), (2, .ref (adM 0)), (3, .ref qo), (4, .int (nI i))]) hx hb dL_law_219 hl (by decide) rfl (fun ls hl => ?_)
  refine lv_aload_n hx hb dL_law_221 rfl (lv_at hl 3 rfl) ?_
  refine lv_aload_n hx hb dL_law_222 rfl (lv_at hl 1 rfl) ?_
  refine lv_iload hx hb dL_law_223 (lv_at hl 5 rfl) ?_
  refine lv_iconst (v := nI 1) hx hb dL_law_225 (by decide) ?_
  refine lv_iadd hx hb dL_law_226 ?_
  rw [nI_add i 1]
  refine r_sld hx hb hscr hbl hbA hS hL (j := i + 1) (by omega) dL_law_227 ?_
  refine lv_aload_n hx hb dL_law_228 rfl (lv_at hl 1 rfl) ?_
  refine lv_iload hx hb dL_law_229 (lv_at hl 5 rfl) ?_
  refine lv_iconst (v := nI 2) hx hb dL_law_231 (by decide) ?_
  refine lv_iadd hx hb dL_law_232 ?_
  rw [nI_add i 2]
  refine r_sld hx hb hscr hbl hbA hS hL (j := i + 2) (by omega) dL_law_233 ?_
  refine lv_aload_n hx hb dL_law_234 rfl (lv_at hl 1 rfl) ?_
  refine lv_iload hx hb dL_law_235 (lv_at hl 5 rfl) ?_
  refine lv_iconst (v := nI 3) hx hb dL_law_237 (by decide) ?_
  refine lv_iadd hx hb dL_law_238 ?_
  rw [nI_add i 3]
  refine r_sld hx hb hscr hbl hbA hS hL (j := i + 3) (by omega) dL_law_239 ?_
  refine g_calliK hB9 hapu hDM hS hA (va_runV (As := [.int (xs (i + 1)), .int (xs (i + 2)), .int (xs (i + 3))]) (rest := []) ⟨hx, hb, hml, hown, hts⟩ (c_X6_cell l D cs adM V H9.size 0 rfl (xs (i + 1)) (xs (i + 2)) (xs (i + 3)) 1 J N hRl hIV) (cwV 3 hts gL_law_X6_cell rfl rfl rfl (by decide +kernel) ⟨Nat.le_of_ble_eq_true rfl, Nat.le_of_ble_eq_true rfl⟩) (g_preV hPM hDM hK hN (k := 0) rfl (by decide) rfl rfl rfl rfl) rfl rfl hl.1 rfl (lv_room (Nat.le_of_ble_eq_true rfl)) dL_law_240 ⟨rc (by omega), rs (by omega)⟩) (fun b2 V2 H locs hw9 hPX hPM hDM hS => ?_)
  obtain ⟨hRl2, hth2, hb2⟩ := hw9
  refine lv_istore (lv' := [(6, .int b2), (5, .int (nI (thZ_cell (xs (i + 1)) (xs (i + 2)) (xs (i + 3))))), (0, .ref b), (1, .ref (adC 0)), (2, .ref (adM 0)), (3, .ref qo), (4, .int (nI i))]) hx hb dL_law_243 hl (by decide) rfl (fun ls hl => ?_)
  refine lv_aload_n hx hb dL_law_245 rfl (lv_at hl 4 rfl) ?_
  refine g_callFK (F := f_X6_thrown V2 0) hPX hapu hDM hS hA (va_runV (As := []) (rest := []) ⟨hx, hb, hml, hown, hts⟩ (c_X6_thrown l D cs adM V2 H.size 0 rfl) (cwV 0 hts gL_law_X6_thrown rfl rfl rfl (by decide +kernel) ⟨Nat.le_of_ble_eq_true rfl, Nat.le_of_ble_eq_true rfl⟩) (g_preV hPM hDM hK hN (k := 0) rfl (by decide) rfl rfl rfl rfl) rfl rfl hl.1 rfl (lv_room (Nat.le_of_ble_eq_true rfl)) dL_law_246 ⟨rc (by omega), rs (by omega)⟩) (fun H locs hPX hPM hDM hS => ?_)
  refine lv_iload hx hb dL_law_249 (lv_at hl 1 rfl) ?_
  refine lv_icmp_eq (tgt := 256) hx hb dL_law_251 (by decide) (fun _ => ?_) (fun y => absurd hth2 y)
  have hLI : LI u.1 V2 N := LI.of (J' := J) hFX hIV hRl2
  have hend : ∀ (H' : Heap) (locs' : List Loc) (ls' : Array Slot) (C' Z' : Nat), va_P D vwCl (lX cs adC u.1 qo u.2) H' → va_P D vwCl (gw kM cs adM V2) H' → va_S A s.heap H' locs' → lv_has ls' 9 [(0, .ref b), (1, .ref (adC 0)), (2, .ref (adM 0)), (3, .ref qo), (4, .int (nI i))] → C' ≤ C + 10 → Z' ≤ Z + 1100 → W pg l e room_1 s m #[Value.ref b] below meth c H' locs' C' Z' Q (F0 m 1195 ls' []) := fun H' locs' ls' C' Z' h1 h2 h3 h4 h5 h6 => kk adM u.1 V2 N u.2 H' locs' ls' C' Z' ⟨hLI, h1, hDX, h2, hDM, hapu, rfl⟩ h3 h4 h5 h6
  refine lv_iload hx hb dL_law_256 (lv_at hl 1 rfl) ?_
  by_cases hz : thZ_cell (xs (i + 1)) (xs (i + 2)) (xs (i + 3)) = 0
  · refine lv_if_ne (tgt := 273) hx hb dL_law_258 (by decide) (fun y => absurd (show nI (thZ_cell (xs (i + 1)) (xs (i + 2)) (xs (i + 3))) = 0 from by rw [hz]; rfl) y) (fun _ => ?_)
    obtain ⟨a9, ha9, ho9⟩ := hans hz
    have hb9 := hb2 hz
    have hab : a9 = b2 := (ha9.trans hb9.symm)
    refine lv_aload_n hx hb dL_law_261 rfl (lv_at hl 5 rfl) ?_
    refine lv_iconst (v := nI 0) hx hb dL_law_262 (by decide) ?_
    refine va_lald hx hb hK hPX (gw kC cs adC u.1).length 3 (app_rt (k := 0) rfl) rfl (vp_in_nI (by decide) (by decide)) dL_law_263 ?_
    rw [nI_clamp (by decide), ho9]
    refine lv_iload hx hb dL_law_264 (lv_at hl 0 rfl) ?_
    refine lv_i2l (v := b2.toInt64) hx hb dL_law_266 rfl ?_
    refine W.lcmp hx hb dL_law_267 ?_
    rw [hab, cmp_self]
    refine lv_if_eq (tgt := 273) hx hb dL_law_268 (by decide) (fun _ => ?_) (fun y => absurd rfl y)
    refine lv_goto (tgt := 1195) hx hb dL_law_273 (by decide) ?_
    exact hend _ _ _ _ _ hPX hPM hS (lv_sub hl [2, 3, 4, 5, 6] rfl) (by omega) (by omega)
  · refine lv_if_ne (tgt := 273) hx hb dL_law_258 (by decide) (fun _ => ?_) (fun y => absurd y (nz b_cell hz))
    refine lv_goto (tgt := 1195) hx hb dL_law_273 (by decide) ?_
    exact hend _ _ _ _ _ hPX hPM hS (lv_sub hl [2, 3, 4, 5, 6] rfl) (by omega) (by omega)
set_option maxHeartbeats 4000000 in
set_option maxRecDepth 100000 in
theorem law_come {pg : Program} {l : Launch} {e : Env} {s : State} {m : MethodId} {below : List Frame} {meth : Method} {c : Code} {H : Heap} {locs : List Loc} {C Z : Nat} {Q : State → Prop} {ls : Array Slot} {D : va_G} {cs : Nat → ClassId} {adC adM : Nat → Nat} {qo mo b L i N : Nat} {xs : Nat → Int32} {A : Nat → Prop} {J V : Mm} {o : Nat → Int64}
    (X : LCx pg l s m c D cs A b L xs) (hi : i + 5 ≤ L) (hl : lv_has ls 9 [(0, .ref b), (1, .ref (adC 0)), (2, .ref mo), (3, .ref qo), (4, .int (nI i))]) (hLS : LSt D cs adC adM qo mo A J V N o H) (hS : va_S A s.heap H locs) (hC : C ≤ 90000) (hZ : Z ≤ 900000)
    (kk : ∀ (adM' : Nat → Nat) (J' V' : Mm) (N' : Nat) (o' : Nat → Int64) (H' : Heap) (locs' : List Loc) (ls' : Array Slot) (C' Z' : Nat), LSt D cs adC adM' qo mo A J' V' N' o' H' → va_S A s.heap H' locs' → lv_has ls' 9 [(0, .ref b), (1, .ref (adC 0)), (2, .ref mo), (3, .ref qo), (4, .int (nI i))] → C' ≤ C + 10 → Z' ≤ Z + 1100 → W pg l e room_1 s m #[Value.ref b] below meth c H' locs' C' Z' Q (F0 m 1195 ls' [])) : W pg l e room_1 s m #[Value.ref b] below meth c H locs C Z Q (F0 m 276 ls []) := by
  obtain ⟨hx, hb, hml, hown, hts, hscr, hbl, hbA, hK, hN, hXW, hAO, hA, hL, hst⟩ := X
  obtain ⟨⟨hIV, hR, hR2, hRl⟩, hPX, hDX, hPM, hDM, hap, rfl⟩ := hLS
  have hN8 := hIV.1.2.1
  refine lv_aload_n hx hb dL_law_276 rfl (lv_at hl 1 rfl) ?_
  refine lv_aload_n hx hb dL_law_277 rfl (lv_at hl 0 rfl) ?_
  refine lv_iload hx hb dL_law_278 (lv_at hl 4 rfl) ?_
  refine lv_iconst (v := nI 1) hx hb dL_law_280 (by decide) ?_
  refine lv_iadd hx hb dL_law_281 ?_
  rw [nI_add i 1]
  refine r_sld hx hb hscr hbl hbA hS hL (j := i + 1) (by omega) dL_law_282 ?_
  refine lv_aload_n hx hb dL_law_283 rfl (lv_at hl 0 rfl) ?_
  refine lv_iload hx hb dL_law_284 (lv_at hl 4 rfl) ?_
  refine lv_iconst (v := nI 2) hx hb dL_law_286 (by decide) ?_
  refine lv_iadd hx hb dL_law_287 ?_
  rw [nI_add i 2]
  refine r_sld hx hb hscr hbl hbA hS hL (j := i + 2) (by omega) dL_law_288 ?_
  refine lv_aload_n hx hb dL_law_289 rfl (lv_at hl 0 rfl) ?_
  refine lv_iload hx hb dL_law_290 (lv_at hl 4 rfl) ?_
  refine lv_iconst (v := nI 3) hx hb dL_law_292 (by decide) ?_
  refine lv_iadd hx hb dL_law_293 ?_
  rw [nI_add i 3]
  refine r_sld hx hb hscr hbl hbA hS hL (j := i + 3) (by omega) dL_law_294 ?_
  refine lv_aload_n hx hb dL_law_295 rfl (lv_at hl 0 rfl) ?_
  refine lv_iload hx hb dL_law_296 (lv_at hl 4 rfl) ?_
  refine lv_iconst (v := nI 4) hx hb dL_law_298 (by decide) ?_
  refine lv_iadd hx hb dL_law_299 ?_
  rw [nI_add i 4]
  refine r_sld hx hb hscr hbl hbA hS hL (j := i + 4) (by omega) dL_law_300 ?_
  refine lv_aload_n hx hb dL_law_301 rfl (lv_at hl 3 rfl) ?_
  have hfX := A_free hDX hS hA
  refine va_calli (vx_runSW (As := [.ref (adC 0), .int (xs (i + 1)), .int (xs (i + 2)), .int (xs (i + 3)), .int (xs (i + 4)), .ref qo]) (rest := []) ⟨hx, hb, hml, hown, hts⟩ (c_L_come l hst D cs adC J qo o H.size (xs (i + 1)) (xs (i + 2)) (xs (i + 3)) (xs (i + 4)) N hIV hR hR2) (vx_cwSW 6 hts gL_law_L_come rfl rfl rfl (by decide +kernel) ⟨Nat.le_of_ble_eq_true rfl, Nat.le_of_ble_eq_true rfl⟩) (h_preS hPX hDX hK hN (hXW.at hS) hfX) rfl rfl hl.1 rfl (lv_room (Nat.le_of_ble_eq_true rfl)) dL_law_302 ⟨rc (by omega), rs (by omega)⟩) hS (fun q _ h => hfX q h) hfX (fun r u t9 H9 locs ht9 hvm9 hw9 hB9 hz9 hk9 hS => ?_)
  obtain ⟨rfl, hFX, hans⟩ := hw9
  rw [ht9] at hB9
  have hPM := M_keep hap hPM hk9
  have hapu := Ap_lX (J := u.1) (o' := u.2) hap
  have hDX := lX_D (J := u.1) (o' := u.2) hDX
  refine lv_istore (lv' := [(5, .int (nI (thZ_come J 1 N (xs (i + 1)) (xs (i + 2)) (xs (i + 3)) (xs (i + 4))))), (0, .ref b), (1, .ref (adC 0)), (2, .ref (adM 0)), (3, .ref qo), (4, .int (nI i))]) hx hb dL_law_305 hl (by decide) rfl (fun ls hl => ?_)
  refine lv_aload_n hx hb dL_law_307 rfl (lv_at hl 3 rfl) ?_
  refine lv_aload_n hx hb dL_law_308 rfl (lv_at hl 1 rfl) ?_
  refine lv_iload hx hb dL_law_309 (lv_at hl 5 rfl) ?_
  refine lv_iconst (v := nI 1) hx hb dL_law_311 (by decide) ?_
  refine lv_iadd hx hb dL_law_312 ?_
  rw [nI_add i 1]
  refine r_sld hx hb hscr hbl hbA hS hL (j := i + 1) (by omega) dL_law_313 ?_
  refine lv_aload_n hx hb dL_law_314 rfl (lv_at hl 1 rfl) ?_
  refine lv_iload hx hb dL_law_315 (lv_at hl 5 rfl) ?_
  refine lv_iconst (v := nI 2) hx hb dL_law_317 (by decide) ?_
  refine lv_iadd hx hb dL_law_318 ?_
  rw [nI_add i 2]
  refine r_sld hx hb hscr hbl hbA hS hL (j := i + 2) (by omega) dL_law_319 ?_
  refine lv_aload_n hx hb dL_law_320 rfl (lv_at hl 1 rfl) ?_
  refine lv_iload hx hb dL_law_321 (lv_at hl 5 rfl) ?_
  refine lv_iconst (v := nI 3) hx hb dL_law_323 (by decide) ?_
  refine lv_iadd hx hb dL_law_324 ?_
  rw [nI_add i 3]
  refine r_sld hx hb hscr hbl hbA hS hL (j := i + 3) (by omega) dL_law_325 ?_
  refine lv_aload_n hx hb dL_law_326 rfl (lv_at hl 1 rfl) ?_
  refine lv_iload hx hb dL_law_327 (lv_at hl 5 rfl) ?_
  refine lv_iconst (v := nI 4) hx hb dL_law_329 (by decide) ?_
  refine lv_iadd hx hb dL_law_330 ?_
  rw [nI_add i 4]
  refine r_sld hx hb hscr hbl hbA hS hL (j := i + 4) (by omega) dL_law_331 ?_
  refine g_calliK hB9 hapu hDM hS hA (va_runV (As := [.int (xs (i + 1)), .int (xs (i + 2)), .int (xs (i + 3)), .int (xs (i + 4))]) (rest := []) ⟨hx, hb, hml, hown, hts⟩ (c_X6_come l D cs adM V H9.size 0 rfl (xs (i + 1)) (xs (i + 2)) (xs (i + 3)) (xs (i + 4)) 1 J N hRl hIV) (cwV 4 hts gL_law_X6_come rfl rfl rfl (by decide +kernel) ⟨Nat.le_of_ble_eq_true rfl, Nat.le_of_ble_eq_true rfl⟩) (g_preV hPM hDM hK hN (k := 0) rfl (by decide) rfl rfl rfl rfl) rfl rfl hl.1 rfl (lv_room (Nat.le_of_ble_eq_true rfl)) dL_law_332 ⟨rc (by omega), rs (by omega)⟩) (fun b2 V2 H locs hw9 hPX hPM hDM hS => ?_)
  obtain ⟨hRl2, hth2, hb2⟩ := hw9
  refine lv_istore (lv' := [(6, .int b2), (5, .int (nI (thZ_come J 1 N (xs (i + 1)) (xs (i + 2)) (xs (i + 3)) (xs (i + 4))))), (0, .ref b), (1, .ref (adC 0)), (2, .ref (adM 0)), (3, .ref qo), (4, .int (nI i))]) hx hb dL_law_335 hl (by decide) rfl (fun ls hl => ?_)
  refine lv_aload_n hx hb dL_law_337 rfl (lv_at hl 4 rfl) ?_
  refine g_callFK (F := f_X6_thrown V2 0) hPX hapu hDM hS hA (va_runV (As := []) (rest := []) ⟨hx, hb, hml, hown, hts⟩ (c_X6_thrown l D cs adM V2 H.size 0 rfl) (cwV 0 hts gL_law_X6_thrown rfl rfl rfl (by decide +kernel) ⟨Nat.le_of_ble_eq_true rfl, Nat.le_of_ble_eq_true rfl⟩) (g_preV hPM hDM hK hN (k := 0) rfl (by decide) rfl rfl rfl rfl) rfl rfl hl.1 rfl (lv_room (Nat.le_of_ble_eq_true rfl)) dL_law_338 ⟨rc (by omega), rs (by omega)⟩) (fun H locs hPX hPM hDM hS => ?_)
  refine lv_iload hx hb dL_law_341 (lv_at hl 1 rfl) ?_
  refine lv_icmp_eq (tgt := 348) hx hb dL_law_343 (by decide) (fun _ => ?_) (fun y => absurd hth2 y)
  have hLI : LI u.1 V2 (nZ_come J 1 N (xs (i + 1)) (xs (i + 2)) (xs (i + 3)) (xs (i + 4))) := LI.of (J' := mZ_come J 1 N (xs (i + 1)) (xs (i + 2)) (xs (i + 3)) (xs (i + 4))) hFX (hIV.come (xs (i + 1)) (xs (i + 2)) (xs (i + 3)) (xs (i + 4))) hRl2
  have hend : ∀ (H' : Heap) (locs' : List Loc) (ls' : Array Slot) (C' Z' : Nat), va_P D vwCl (lX cs adC u.1 qo u.2) H' → va_P D vwCl (gw kM cs adM V2) H' → va_S A s.heap H' locs' → lv_has ls' 9 [(0, .ref b), (1, .ref (adC 0)), (2, .ref (adM 0)), (3, .ref qo), (4, .int (nI i))] → C' ≤ C + 10 → Z' ≤ Z + 1100 → W pg l e room_1 s m #[Value.ref b] below meth c H' locs' C' Z' Q (F0 m 1195 ls' []) := fun H' locs' ls' C' Z' h1 h2 h3 h4 h5 h6 => kk adM u.1 V2 (nZ_come J 1 N (xs (i + 1)) (xs (i + 2)) (xs (i + 3)) (xs (i + 4))) u.2 H' locs' ls' C' Z' ⟨hLI, h1, hDX, h2, hDM, hapu, rfl⟩ h3 h4 h5 h6
  refine lv_iload hx hb dL_law_348 (lv_at hl 1 rfl) ?_
  by_cases hz : thZ_come J 1 N (xs (i + 1)) (xs (i + 2)) (xs (i + 3)) (xs (i + 4)) = 0
  · refine lv_if_ne (tgt := 365) hx hb dL_law_350 (by decide) (fun y => absurd (show nI (thZ_come J 1 N (xs (i + 1)) (xs (i + 2)) (xs (i + 3)) (xs (i + 4))) = 0 from by rw [hz]; rfl) y) (fun _ => ?_)
    obtain ⟨a9, ha9, ho9⟩ := hans hz
    have hb9 := hb2 hz
    have hab : a9 = b2 := (ha9.trans hb9.symm)
    refine lv_aload_n hx hb dL_law_353 rfl (lv_at hl 5 rfl) ?_
    refine lv_iconst (v := nI 0) hx hb dL_law_354 (by decide) ?_
    refine va_lald hx hb hK hPX (gw kC cs adC u.1).length 3 (app_rt (k := 0) rfl) rfl (vp_in_nI (by decide) (by decide)) dL_law_355 ?_
    rw [nI_clamp (by decide), ho9]
    refine lv_iload hx hb dL_law_356 (lv_at hl 0 rfl) ?_
    refine lv_i2l (v := b2.toInt64) hx hb dL_law_358 rfl ?_
    refine W.lcmp hx hb dL_law_359 ?_
    rw [hab, cmp_self]
    refine lv_if_eq (tgt := 365) hx hb dL_law_360 (by decide) (fun _ => ?_) (fun y => absurd rfl y)
    refine lv_goto (tgt := 1195) hx hb dL_law_365 (by decide) ?_
    exact hend _ _ _ _ _ hPX hPM hS (lv_sub hl [2, 3, 4, 5, 6] rfl) (by omega) (by omega)
  · refine lv_if_ne (tgt := 365) hx hb dL_law_350 (by decide) (fun _ => ?_) (fun y => absurd y (nz b_come hz))
    refine lv_goto (tgt := 1195) hx hb dL_law_365 (by decide) ?_
    exact hend _ _ _ _ _ hPX hPM hS (lv_sub hl [2, 3, 4, 5, 6] rfl) (by omega) (by omega)
set_option maxHeartbeats 4000000 in
set_option maxRecDepth 100000 in
theorem law_order {pg : Program} {l : Launch} {e : Env} {s : State} {m : MethodId} {below : List Frame} {meth : Method} {c : Code} {H : Heap} {locs : List Loc} {C Z : Nat} {Q : State → Prop} {ls : Array Slot} {D : va_G} {cs : Nat → ClassId} {adC adM : Nat → Nat} {qo mo b L i N : Nat} {xs : Nat → Int32} {A : Nat → Prop} {J V : Mm} {o : Nat → Int64}
    (X : LCx pg l s m c D cs A b L xs) (hi : i + 5 ≤ L) (hl : lv_has ls 9 [(0, .ref b), (1, .ref (adC 0)), (2, .ref mo), (3, .ref qo), (4, .int (nI i))]) (hLS : LSt D cs adC adM qo mo A J V N o H) (hS : va_S A s.heap H locs) (hC : C ≤ 90000) (hZ : Z ≤ 900000)
    (kk : ∀ (adM' : Nat → Nat) (J' V' : Mm) (N' : Nat) (o' : Nat → Int64) (H' : Heap) (locs' : List Loc) (ls' : Array Slot) (C' Z' : Nat), LSt D cs adC adM' qo mo A J' V' N' o' H' → va_S A s.heap H' locs' → lv_has ls' 9 [(0, .ref b), (1, .ref (adC 0)), (2, .ref mo), (3, .ref qo), (4, .int (nI i))] → C' ≤ C + 10 → Z' ≤ Z + 1100 → W pg l e room_1 s m #[Value.ref b] below meth c H' locs' C' Z' Q (F0 m 1195 ls' [])) : W pg l e room_1 s m #[Value.ref b] below meth c H locs C Z Q (F0 m 368 ls []) := by
  obtain ⟨hx, hb, hml, hown, hts, hscr, hbl, hbA, hK, hN, hXW, hAO, hA, hL, hst⟩ := X
  obtain ⟨⟨hIV, hR, hR2, hRl⟩, hPX, hDX, hPM, hDM, hap, rfl⟩ := hLS
  have hN8 := hIV.1.2.1
  refine lv_aload_n hx hb dL_law_368 rfl (lv_at hl 1 rfl) ?_
  refine lv_aload_n hx hb dL_law_369 rfl (lv_at hl 0 rfl) ?_
  refine lv_iload hx hb dL_law_370 (lv_at hl 4 rfl) ?_
  refine lv_iconst (v := nI 1) hx hb dL_law_372 (by decide) ?_
  refine lv_iadd hx hb dL_law_373 ?_
  rw [nI_add i 1]
  refine r_sld hx hb hscr hbl hbA hS hL (j := i + 1) (by omega) dL_law_374 ?_
  refine lv_aload_n hx hb dL_law_375 rfl (lv_at hl 0 rfl) ?_
  refine lv_iload hx hb dL_law_376 (lv_at hl 4 rfl) ?_
  refine lv_iconst (v := nI 2) hx hb dL_law_378 (by decide) ?_
  refine lv_iadd hx hb dL_law_379 ?_
  rw [nI_add i 2]
  refine r_sld hx hb hscr hbl hbA hS hL (j := i + 2) (by omega) dL_law_380 ?_
  refine lv_aload_n hx hb dL_law_381 rfl (lv_at hl 0 rfl) ?_
  refine lv_iload hx hb dL_law_382 (lv_at hl 4 rfl) ?_
  refine lv_iconst (v := nI 3) hx hb dL_law_384 (by decide) ?_
  refine lv_iadd hx hb dL_law_385 ?_
  rw [nI_add i 3]
  refine r_sld hx hb hscr hbl hbA hS hL (j := i + 3) (by omega) dL_law_386 ?_
  refine lv_aload_n hx hb dL_law_387 rfl (lv_at hl 3 rfl) ?_
  have hfX := A_free hDX hS hA
  refine va_calli (vx_runSW (As := [.ref (adC 0), .int (xs (i + 1)), .int (xs (i + 2)), .int (xs (i + 3)), .ref qo]) (rest := []) ⟨hx, hb, hml, hown, hts⟩ (c_L_order l hst D cs adC J qo o H.size (xs (i + 1)) (xs (i + 2)) (xs (i + 3)) N hIV hR hR2) (vx_cwSW 5 hts gL_law_L_order rfl rfl rfl (by decide +kernel) ⟨Nat.le_of_ble_eq_true rfl, Nat.le_of_ble_eq_true rfl⟩) (h_preS hPX hDX hK hN (hXW.at hS) hfX) rfl rfl hl.1 rfl (lv_room (Nat.le_of_ble_eq_true rfl)) dL_law_388 ⟨rc (by omega), rs (by omega)⟩) hS (fun q _ h => hfX q h) hfX (fun r u t9 H9 locs ht9 hvm9 hw9 hB9 hz9 hk9 hS => ?_)
  obtain ⟨rfl, hFX, hans⟩ := hw9
  rw [ht9] at hB9
  have hPM := M_keep hap hPM hk9
  have hapu := Ap_lX (J := u.1) (o' := u.2) hap
  have hDX := lX_D (J := u.1) (o' := u.2) hDX
  refine lv_istore (lv' := [(5, .int (nI (thZ_order J 1 N (xs (i + 1)) (xs (i + 2)) (xs (i + 3))))), (0, .ref b), (1, .ref (adC 0)), (2, .ref (adM 0)), (3, .ref qo), (4, .int (nI i))]) hx hb dL_law_391 hl (by decide) rfl (fun ls hl => ?_)
  refine lv_aload_n hx hb dL_law_393 rfl (lv_at hl 3 rfl) ?_
  refine lv_aload_n hx hb dL_law_394 rfl (lv_at hl 1 rfl) ?_
  refine lv_iload hx hb dL_law_395 (lv_at hl 5 rfl) ?_
  refine lv_iconst (v := nI 1) hx hb dL_law_397 (by decide) ?_
  refine lv_iadd hx hb dL_law_398 ?_
  rw [nI_add i 1]
  refine r_sld hx hb hscr hbl hbA hS hL (j := i + 1) (by omega) dL_law_399 ?_
  refine lv_aload_n hx hb dL_law_400 rfl (lv_at hl 1 rfl) ?_
  refine lv_iload hx hb dL_law_401 (lv_at hl 5 rfl) ?_
  refine lv_iconst (v := nI 2) hx hb dL_law_403 (by decide) ?_
  refine lv_iadd hx hb dL_law_404 ?_
  rw [nI_add i 2]
  refine r_sld hx hb hscr hbl hbA hS hL (j := i + 2) (by omega) dL_law_405 ?_
  refine lv_aload_n hx hb dL_law_406 rfl (lv_at hl 1 rfl) ?_
  refine lv_iload hx hb dL_law_407 (lv_at hl 5 rfl) ?_
  refine lv_iconst (v := nI 3) hx hb dL_law_409 (by decide) ?_
  refine lv_iadd hx hb dL_law_410 ?_
  rw [nI_add i 3]
  refine r_sld hx hb hscr hbl hbA hS hL (j := i + 3) (by omega) dL_law_411 ?_
  refine g_calliK hB9 hapu hDM hS hA (va_runV (As := [.int (xs (i + 1)), .int (xs (i + 2)), .int (xs (i + 3))]) (rest := []) ⟨hx, hb, hml, hown, hts⟩ (c_X6_order l D cs adM V H9.size 0 rfl (xs (i + 1)) (xs (i + 2)) (xs (i + 3)) 1 J N hRl hIV) (cwV 3 hts gL_law_X6_order rfl rfl rfl (by decide +kernel) ⟨Nat.le_of_ble_eq_true rfl, Nat.le_of_ble_eq_true rfl⟩) (g_preV hPM hDM hK hN (k := 0) rfl (by decide) rfl rfl rfl rfl) rfl rfl hl.1 rfl (lv_room (Nat.le_of_ble_eq_true rfl)) dL_law_412 ⟨rc (by omega), rs (by omega)⟩) (fun b2 V2 H locs hw9 hPX hPM hDM hS => ?_)
  obtain ⟨hRl2, hth2, hb2⟩ := hw9
  refine lv_istore (lv' := [(6, .int b2), (5, .int (nI (thZ_order J 1 N (xs (i + 1)) (xs (i + 2)) (xs (i + 3))))), (0, .ref b), (1, .ref (adC 0)), (2, .ref (adM 0)), (3, .ref qo), (4, .int (nI i))]) hx hb dL_law_415 hl (by decide) rfl (fun ls hl => ?_)
  refine lv_aload_n hx hb dL_law_417 rfl (lv_at hl 4 rfl) ?_
  refine g_callFK (F := f_X6_thrown V2 0) hPX hapu hDM hS hA (va_runV (As := []) (rest := []) ⟨hx, hb, hml, hown, hts⟩ (c_X6_thrown l D cs adM V2 H.size 0 rfl) (cwV 0 hts gL_law_X6_thrown rfl rfl rfl (by decide +kernel) ⟨Nat.le_of_ble_eq_true rfl, Nat.le_of_ble_eq_true rfl⟩) (g_preV hPM hDM hK hN (k := 0) rfl (by decide) rfl rfl rfl rfl) rfl rfl hl.1 rfl (lv_room (Nat.le_of_ble_eq_true rfl)) dL_law_418 ⟨rc (by omega), rs (by omega)⟩) (fun H locs hPX hPM hDM hS => ?_)
  refine lv_iload hx hb dL_law_421 (lv_at hl 1 rfl) ?_
  refine lv_icmp_eq (tgt := 428) hx hb dL_law_423 (by decide) (fun _ => ?_) (fun y => absurd hth2 y)
  have hLI : LI u.1 V2 N := LI.of (J' := mZ_order J 1 N (xs (i + 1)) (xs (i + 2)) (xs (i + 3))) hFX (hIV.order (xs (i + 1)) (xs (i + 2)) (xs (i + 3))) hRl2
  have hend : ∀ (H' : Heap) (locs' : List Loc) (ls' : Array Slot) (C' Z' : Nat), va_P D vwCl (lX cs adC u.1 qo u.2) H' → va_P D vwCl (gw kM cs adM V2) H' → va_S A s.heap H' locs' → lv_has ls' 9 [(0, .ref b), (1, .ref (adC 0)), (2, .ref (adM 0)), (3, .ref qo), (4, .int (nI i))] → C' ≤ C + 10 → Z' ≤ Z + 1100 → W pg l e room_1 s m #[Value.ref b] below meth c H' locs' C' Z' Q (F0 m 1195 ls' []) := fun H' locs' ls' C' Z' h1 h2 h3 h4 h5 h6 => kk adM u.1 V2 N u.2 H' locs' ls' C' Z' ⟨hLI, h1, hDX, h2, hDM, hapu, rfl⟩ h3 h4 h5 h6
  refine lv_iload hx hb dL_law_428 (lv_at hl 1 rfl) ?_
  by_cases hz : thZ_order J 1 N (xs (i + 1)) (xs (i + 2)) (xs (i + 3)) = 0
  · refine lv_if_ne (tgt := 445) hx hb dL_law_430 (by decide) (fun y => absurd (show nI (thZ_order J 1 N (xs (i + 1)) (xs (i + 2)) (xs (i + 3))) = 0 from by rw [hz]; rfl) y) (fun _ => ?_)
    obtain ⟨a9, ha9, ho9⟩ := hans hz
    have hb9 := hb2 hz
    have hab : a9 = b2 := (ha9.trans hb9.symm)
    refine lv_aload_n hx hb dL_law_433 rfl (lv_at hl 5 rfl) ?_
    refine lv_iconst (v := nI 0) hx hb dL_law_434 (by decide) ?_
    refine va_lald hx hb hK hPX (gw kC cs adC u.1).length 3 (app_rt (k := 0) rfl) rfl (vp_in_nI (by decide) (by decide)) dL_law_435 ?_
    rw [nI_clamp (by decide), ho9]
    refine lv_iload hx hb dL_law_436 (lv_at hl 0 rfl) ?_
    refine lv_i2l (v := b2.toInt64) hx hb dL_law_438 rfl ?_
    refine W.lcmp hx hb dL_law_439 ?_
    rw [hab, cmp_self]
    refine lv_if_eq (tgt := 445) hx hb dL_law_440 (by decide) (fun _ => ?_) (fun y => absurd rfl y)
    refine lv_goto (tgt := 1195) hx hb dL_law_445 (by decide) ?_
    exact hend _ _ _ _ _ hPX hPM hS (lv_sub hl [2, 3, 4, 5, 6] rfl) (by omega) (by omega)
  · refine lv_if_ne (tgt := 445) hx hb dL_law_430 (by decide) (fun _ => ?_) (fun y => absurd y (nz b_order hz))
    refine lv_goto (tgt := 1195) hx hb dL_law_445 (by decide) ?_
    exact hend _ _ _ _ _ hPX hPM hS (lv_sub hl [2, 3, 4, 5, 6] rfl) (by omega) (by omega)
set_option maxHeartbeats 4000000 in
set_option maxRecDepth 100000 in
theorem law_call {pg : Program} {l : Launch} {e : Env} {s : State} {m : MethodId} {below : List Frame} {meth : Method} {c : Code} {H : Heap} {locs : List Loc} {C Z : Nat} {Q : State → Prop} {ls : Array Slot} {D : va_G} {cs : Nat → ClassId} {adC adM : Nat → Nat} {qo mo b L i N : Nat} {xs : Nat → Int32} {A : Nat → Prop} {J V : Mm} {o : Nat → Int64}
    (X : LCx pg l s m c D cs A b L xs) (hi : i + 5 ≤ L) (hl : lv_has ls 9 [(0, .ref b), (1, .ref (adC 0)), (2, .ref mo), (3, .ref qo), (4, .int (nI i))]) (hLS : LSt D cs adC adM qo mo A J V N o H) (hS : va_S A s.heap H locs) (hC : C ≤ 90000) (hZ : Z ≤ 900000)
    (kk : ∀ (adM' : Nat → Nat) (J' V' : Mm) (N' : Nat) (o' : Nat → Int64) (H' : Heap) (locs' : List Loc) (ls' : Array Slot) (C' Z' : Nat), LSt D cs adC adM' qo mo A J' V' N' o' H' → va_S A s.heap H' locs' → lv_has ls' 9 [(0, .ref b), (1, .ref (adC 0)), (2, .ref mo), (3, .ref qo), (4, .int (nI i))] → C' ≤ C + 10 → Z' ≤ Z + 1100 → W pg l e room_1 s m #[Value.ref b] below meth c H' locs' C' Z' Q (F0 m 1195 ls' [])) : W pg l e room_1 s m #[Value.ref b] below meth c H locs C Z Q (F0 m 448 ls []) := by
  obtain ⟨hx, hb, hml, hown, hts, hscr, hbl, hbA, hK, hN, hXW, hAO, hA, hL, hst⟩ := X
  obtain ⟨⟨hIV, hR, hR2, hRl⟩, hPX, hDX, hPM, hDM, hap, rfl⟩ := hLS
  have hN8 := hIV.1.2.1
  refine lv_aload_n hx hb dL_law_448 rfl (lv_at hl 1 rfl) ?_
  refine lv_aload_n hx hb dL_law_449 rfl (lv_at hl 0 rfl) ?_
  refine lv_iload hx hb dL_law_450 (lv_at hl 4 rfl) ?_
  refine lv_iconst (v := nI 1) hx hb dL_law_452 (by decide) ?_
  refine lv_iadd hx hb dL_law_453 ?_
  rw [nI_add i 1]
  refine r_sld hx hb hscr hbl hbA hS hL (j := i + 1) (by omega) dL_law_454 ?_
  refine lv_aload_n hx hb dL_law_455 rfl (lv_at hl 3 rfl) ?_
  have hfX := A_free hDX hS hA
  refine va_calli (vx_runSW (As := [.ref (adC 0), .int (xs (i + 1)), .ref qo]) (rest := []) ⟨hx, hb, hml, hown, hts⟩ (c_L_call l hst D cs adC J qo o H.size (xs (i + 1)) N hIV hR hR2) (vx_cwSW 3 hts gL_law_L_call rfl rfl rfl (by decide +kernel) ⟨Nat.le_of_ble_eq_true rfl, Nat.le_of_ble_eq_true rfl⟩) (h_preS hPX hDX hK hN (hXW.at hS) hfX) rfl rfl hl.1 rfl (lv_room (Nat.le_of_ble_eq_true rfl)) dL_law_456 ⟨rc (by omega), rs (by omega)⟩) hS (fun q _ h => hfX q h) hfX (fun r u t9 H9 locs ht9 hvm9 hw9 hB9 hz9 hk9 hS => ?_)
  obtain ⟨rfl, hFX, hans⟩ := hw9
  rw [ht9] at hB9
  have hPM := M_keep hap hPM hk9
  have hapu := Ap_lX (J := u.1) (o' := u.2) hap
  have hDX := lX_D (J := u.1) (o' := u.2) hDX
  refine lv_istore (lv' := [(5, .int (nI (th_X5_member 0 (xs (i + 1)) N))), (0, .ref b), (1, .ref (adC 0)), (2, .ref (adM 0)), (3, .ref qo), (4, .int (nI i))]) hx hb dL_law_459 hl (by decide) rfl (fun ls hl => ?_)
  refine lv_aload_n hx hb dL_law_461 rfl (lv_at hl 3 rfl) ?_
  refine lv_aload_n hx hb dL_law_462 rfl (lv_at hl 1 rfl) ?_
  refine lv_iload hx hb dL_law_463 (lv_at hl 5 rfl) ?_
  refine lv_iconst (v := nI 1) hx hb dL_law_465 (by decide) ?_
  refine lv_iadd hx hb dL_law_466 ?_
  rw [nI_add i 1]
  refine r_sld hx hb hscr hbl hbA hS hL (j := i + 1) (by omega) dL_law_467 ?_
  refine g_calliK hB9 hapu hDM hS hA (va_runV (As := [.int (xs (i + 1))]) (rest := []) ⟨hx, hb, hml, hown, hts⟩ (c_X6_call l D cs adM V H9.size 0 rfl (xs (i + 1)) 1 J N hRl hIV) (cwV 1 hts gL_law_X6_call rfl rfl rfl (by decide +kernel) ⟨Nat.le_of_ble_eq_true rfl, Nat.le_of_ble_eq_true rfl⟩) (g_preV hPM hDM hK hN (k := 0) rfl (by decide) rfl rfl rfl rfl) rfl rfl hl.1 rfl (lv_room (Nat.le_of_ble_eq_true rfl)) dL_law_468 ⟨rc (by omega), rs (by omega)⟩) (fun b2 V2 H locs hw9 hPX hPM hDM hS => ?_)
  obtain ⟨hRl2, hth2, hb2⟩ := hw9
  refine lv_istore (lv' := [(6, .int b2), (5, .int (nI (th_X5_member 0 (xs (i + 1)) N))), (0, .ref b), (1, .ref (adC 0)), (2, .ref (adM 0)), (3, .ref qo), (4, .int (nI i))]) hx hb dL_law_471 hl (by decide) rfl (fun ls hl => ?_)
  refine lv_aload_n hx hb dL_law_473 rfl (lv_at hl 4 rfl) ?_
  refine g_callFK (F := f_X6_thrown V2 0) hPX hapu hDM hS hA (va_runV (As := []) (rest := []) ⟨hx, hb, hml, hown, hts⟩ (c_X6_thrown l D cs adM V2 H.size 0 rfl) (cwV 0 hts gL_law_X6_thrown rfl rfl rfl (by decide +kernel) ⟨Nat.le_of_ble_eq_true rfl, Nat.le_of_ble_eq_true rfl⟩) (g_preV hPM hDM hK hN (k := 0) rfl (by decide) rfl rfl rfl rfl) rfl rfl hl.1 rfl (lv_room (Nat.le_of_ble_eq_true rfl)) dL_law_474 ⟨rc (by omega), rs (by omega)⟩) (fun H locs hPX hPM hDM hS => ?_)
  refine lv_iload hx hb dL_law_477 (lv_at hl 1 rfl) ?_
  refine lv_icmp_eq (tgt := 484) hx hb dL_law_479 (by decide) (fun _ => ?_) (fun y => absurd hth2 y)
  have hLI : LI u.1 V2 N := LI.of (J' := (if th_X5_member 0 (xs (i + 1)) N = 0 then wr J (1 + 8 + (1 + (xs (i + 1)).toNatClampNeg)) 7 (nI 0) else J)) hFX (hIV.call (xs (i + 1))) hRl2
  have hend : ∀ (H' : Heap) (locs' : List Loc) (ls' : Array Slot) (C' Z' : Nat), va_P D vwCl (lX cs adC u.1 qo u.2) H' → va_P D vwCl (gw kM cs adM V2) H' → va_S A s.heap H' locs' → lv_has ls' 9 [(0, .ref b), (1, .ref (adC 0)), (2, .ref (adM 0)), (3, .ref qo), (4, .int (nI i))] → C' ≤ C + 10 → Z' ≤ Z + 1100 → W pg l e room_1 s m #[Value.ref b] below meth c H' locs' C' Z' Q (F0 m 1195 ls' []) := fun H' locs' ls' C' Z' h1 h2 h3 h4 h5 h6 => kk adM u.1 V2 N u.2 H' locs' ls' C' Z' ⟨hLI, h1, hDX, h2, hDM, hapu, rfl⟩ h3 h4 h5 h6
  refine lv_iload hx hb dL_law_484 (lv_at hl 1 rfl) ?_
  by_cases hz : th_X5_member 0 (xs (i + 1)) N = 0
  · refine lv_if_ne (tgt := 501) hx hb dL_law_486 (by decide) (fun y => absurd (show nI (th_X5_member 0 (xs (i + 1)) N) = 0 from by rw [hz]; rfl) y) (fun _ => ?_)
    obtain ⟨a9, ha9, ho9⟩ := hans hz
    have hb9 := hb2 hz
    have hab : a9 = b2 := (ha9.trans hb9.symm)
    refine lv_aload_n hx hb dL_law_489 rfl (lv_at hl 5 rfl) ?_
    refine lv_iconst (v := nI 0) hx hb dL_law_490 (by decide) ?_
    refine va_lald hx hb hK hPX (gw kC cs adC u.1).length 3 (app_rt (k := 0) rfl) rfl (vp_in_nI (by decide) (by decide)) dL_law_491 ?_
    rw [nI_clamp (by decide), ho9]
    refine lv_iload hx hb dL_law_492 (lv_at hl 0 rfl) ?_
    refine lv_i2l (v := b2.toInt64) hx hb dL_law_494 rfl ?_
    refine W.lcmp hx hb dL_law_495 ?_
    rw [hab, cmp_self]
    refine lv_if_eq (tgt := 501) hx hb dL_law_496 (by decide) (fun _ => ?_) (fun y => absurd rfl y)
    refine lv_goto (tgt := 1195) hx hb dL_law_501 (by decide) ?_
    exact hend _ _ _ _ _ hPX hPM hS (lv_sub hl [2, 3, 4, 5, 6] rfl) (by omega) (by omega)
  · refine lv_if_ne (tgt := 501) hx hb dL_law_486 (by decide) (fun _ => ?_) (fun y => absurd y (nz (b_mem 0) hz))
    refine lv_goto (tgt := 1195) hx hb dL_law_501 (by decide) ?_
    exact hend _ _ _ _ _ hPX hPM hS (lv_sub hl [2, 3, 4, 5, 6] rfl) (by omega) (by omega)
set_option maxHeartbeats 4000000 in
set_option maxRecDepth 100000 in
theorem law_tunneller {pg : Program} {l : Launch} {e : Env} {s : State} {m : MethodId} {below : List Frame} {meth : Method} {c : Code} {H : Heap} {locs : List Loc} {C Z : Nat} {Q : State → Prop} {ls : Array Slot} {D : va_G} {cs : Nat → ClassId} {adC adM : Nat → Nat} {qo mo b L i N : Nat} {xs : Nat → Int32} {A : Nat → Prop} {J V : Mm} {o : Nat → Int64}
    (X : LCx pg l s m c D cs A b L xs) (hi : i + 5 ≤ L) (hl : lv_has ls 9 [(0, .ref b), (1, .ref (adC 0)), (2, .ref mo), (3, .ref qo), (4, .int (nI i))]) (hLS : LSt D cs adC adM qo mo A J V N o H) (hS : va_S A s.heap H locs) (hC : C ≤ 90000) (hZ : Z ≤ 900000)
    (kk : ∀ (adM' : Nat → Nat) (J' V' : Mm) (N' : Nat) (o' : Nat → Int64) (H' : Heap) (locs' : List Loc) (ls' : Array Slot) (C' Z' : Nat), LSt D cs adC adM' qo mo A J' V' N' o' H' → va_S A s.heap H' locs' → lv_has ls' 9 [(0, .ref b), (1, .ref (adC 0)), (2, .ref mo), (3, .ref qo), (4, .int (nI i))] → C' ≤ C + 10 → Z' ≤ Z + 1100 → W pg l e room_1 s m #[Value.ref b] below meth c H' locs' C' Z' Q (F0 m 1195 ls' [])) : W pg l e room_1 s m #[Value.ref b] below meth c H locs C Z Q (F0 m 504 ls []) := by
  obtain ⟨hx, hb, hml, hown, hts, hscr, hbl, hbA, hK, hN, hXW, hAO, hA, hL, hst⟩ := X
  obtain ⟨⟨hIV, hR, hR2, hRl⟩, hPX, hDX, hPM, hDM, hap, rfl⟩ := hLS
  have hN8 := hIV.1.2.1
  refine lv_aload_n hx hb dL_law_504 rfl (lv_at hl 1 rfl) ?_
  refine lv_aload_n hx hb dL_law_505 rfl (lv_at hl 0 rfl) ?_
  refine lv_iload hx hb dL_law_506 (lv_at hl 4 rfl) ?_
  refine lv_iconst (v := nI 1) hx hb dL_law_508 (by decide) ?_
  refine lv_iadd hx hb dL_law_509 ?_
  rw [nI_add i 1]
  refine r_sld hx hb hscr hbl hbA hS hL (j := i + 1) (by omega) dL_law_510 ?_
  refine lv_aload_n hx hb dL_law_511 rfl (lv_at hl 0 rfl) ?_
  refine lv_iload hx hb dL_law_512 (lv_at hl 4 rfl) ?_
  refine lv_iconst (v := nI 2) hx hb dL_law_514 (by decide) ?_
  refine lv_iadd hx hb dL_law_515 ?_
  rw [nI_add i 2]
  refine r_sld hx hb hscr hbl hbA hS hL (j := i + 2) (by omega) dL_law_516 ?_
  refine lv_aload_n hx hb dL_law_517 rfl (lv_at hl 3 rfl) ?_
  have hfX := A_free hDX hS hA
  refine va_calli (vx_runSW (As := [.ref (adC 0), .int (xs (i + 1)), .int (xs (i + 2)), .ref qo]) (rest := []) ⟨hx, hb, hml, hown, hts⟩ (c_L_tunneller l hst D cs adC J qo o H.size (xs (i + 1)) (xs (i + 2)) N hIV hR hR2) (vx_cwSW 4 hts gL_law_L_tunneller rfl rfl rfl (by decide +kernel) ⟨Nat.le_of_ble_eq_true rfl, Nat.le_of_ble_eq_true rfl⟩) (h_preS hPX hDX hK hN (hXW.at hS) hfX) rfl rfl hl.1 rfl (lv_room (Nat.le_of_ble_eq_true rfl)) dL_law_518 ⟨rc (by omega), rs (by omega)⟩) hS (fun q _ h => hfX q h) hfX (fun r u t9 H9 locs ht9 hvm9 hw9 hB9 hz9 hk9 hS => ?_)
  obtain ⟨rfl, hFX, hans⟩ := hw9
  rw [ht9] at hB9
  have hPM := M_keep hap hPM hk9
  have hapu := Ap_lX (J := u.1) (o' := u.2) hap
  have hDX := lX_D (J := u.1) (o' := u.2) hDX
  refine lv_istore (lv' := [(5, .int (nI (thZ_tun N (xs (i + 1)) (xs (i + 2))))), (0, .ref b), (1, .ref (adC 0)), (2, .ref (adM 0)), (3, .ref qo), (4, .int (nI i))]) hx hb dL_law_521 hl (by decide) rfl (fun ls hl => ?_)
  refine lv_aload_n hx hb dL_law_523 rfl (lv_at hl 3 rfl) ?_
  refine lv_aload_n hx hb dL_law_524 rfl (lv_at hl 1 rfl) ?_
  refine lv_iload hx hb dL_law_525 (lv_at hl 5 rfl) ?_
  refine lv_iconst (v := nI 1) hx hb dL_law_527 (by decide) ?_
  refine lv_iadd hx hb dL_law_528 ?_
  rw [nI_add i 1]
  refine r_sld hx hb hscr hbl hbA hS hL (j := i + 1) (by omega) dL_law_529 ?_
  refine lv_aload_n hx hb dL_law_530 rfl (lv_at hl 1 rfl) ?_
  refine lv_iload hx hb dL_law_531 (lv_at hl 5 rfl) ?_
  refine lv_iconst (v := nI 2) hx hb dL_law_533 (by decide) ?_
  refine lv_iadd hx hb dL_law_534 ?_
  rw [nI_add i 2]
  refine r_sld hx hb hscr hbl hbA hS hL (j := i + 2) (by omega) dL_law_535 ?_
  refine g_calliK hB9 hapu hDM hS hA (va_runV (As := [.int (xs (i + 1)), .int (xs (i + 2))]) (rest := []) ⟨hx, hb, hml, hown, hts⟩ (c_X6_tunneller l D cs adM V H9.size 0 rfl (xs (i + 1)) (xs (i + 2)) 1 J N hRl hIV) (cwV 2 hts gL_law_X6_tunneller rfl rfl rfl (by decide +kernel) ⟨Nat.le_of_ble_eq_true rfl, Nat.le_of_ble_eq_true rfl⟩) (g_preV hPM hDM hK hN (k := 0) rfl (by decide) rfl rfl rfl rfl) rfl rfl hl.1 rfl (lv_room (Nat.le_of_ble_eq_true rfl)) dL_law_536 ⟨rc (by omega), rs (by omega)⟩) (fun b2 V2 H locs hw9 hPX hPM hDM hS => ?_)
  obtain ⟨hRl2, hth2, hb2⟩ := hw9
  refine lv_istore (lv' := [(6, .int b2), (5, .int (nI (thZ_tun N (xs (i + 1)) (xs (i + 2))))), (0, .ref b), (1, .ref (adC 0)), (2, .ref (adM 0)), (3, .ref qo), (4, .int (nI i))]) hx hb dL_law_539 hl (by decide) rfl (fun ls hl => ?_)
  refine lv_aload_n hx hb dL_law_541 rfl (lv_at hl 4 rfl) ?_
  refine g_callFK (F := f_X6_thrown V2 0) hPX hapu hDM hS hA (va_runV (As := []) (rest := []) ⟨hx, hb, hml, hown, hts⟩ (c_X6_thrown l D cs adM V2 H.size 0 rfl) (cwV 0 hts gL_law_X6_thrown rfl rfl rfl (by decide +kernel) ⟨Nat.le_of_ble_eq_true rfl, Nat.le_of_ble_eq_true rfl⟩) (g_preV hPM hDM hK hN (k := 0) rfl (by decide) rfl rfl rfl rfl) rfl rfl hl.1 rfl (lv_room (Nat.le_of_ble_eq_true rfl)) dL_law_542 ⟨rc (by omega), rs (by omega)⟩) (fun H locs hPX hPM hDM hS => ?_)
  refine lv_iload hx hb dL_law_545 (lv_at hl 1 rfl) ?_
  refine lv_icmp_eq (tgt := 552) hx hb dL_law_547 (by decide) (fun _ => ?_) (fun y => absurd hth2 y)
  have hLI : LI u.1 V2 N := LI.of (J' := J) hFX hIV hRl2
  have hend : ∀ (H' : Heap) (locs' : List Loc) (ls' : Array Slot) (C' Z' : Nat), va_P D vwCl (lX cs adC u.1 qo u.2) H' → va_P D vwCl (gw kM cs adM V2) H' → va_S A s.heap H' locs' → lv_has ls' 9 [(0, .ref b), (1, .ref (adC 0)), (2, .ref (adM 0)), (3, .ref qo), (4, .int (nI i))] → C' ≤ C + 10 → Z' ≤ Z + 1100 → W pg l e room_1 s m #[Value.ref b] below meth c H' locs' C' Z' Q (F0 m 1195 ls' []) := fun H' locs' ls' C' Z' h1 h2 h3 h4 h5 h6 => kk adM u.1 V2 N u.2 H' locs' ls' C' Z' ⟨hLI, h1, hDX, h2, hDM, hapu, rfl⟩ h3 h4 h5 h6
  refine lv_iload hx hb dL_law_552 (lv_at hl 1 rfl) ?_
  by_cases hz : thZ_tun N (xs (i + 1)) (xs (i + 2)) = 0
  · refine lv_if_ne (tgt := 569) hx hb dL_law_554 (by decide) (fun y => absurd (show nI (thZ_tun N (xs (i + 1)) (xs (i + 2))) = 0 from by rw [hz]; rfl) y) (fun _ => ?_)
    obtain ⟨a9, ha9, ho9⟩ := hans hz
    have hb9 := hb2 hz
    have hab : a9 = b2 := (ha9.trans hb9.symm)
    refine lv_aload_n hx hb dL_law_557 rfl (lv_at hl 5 rfl) ?_
    refine lv_iconst (v := nI 0) hx hb dL_law_558 (by decide) ?_
    refine va_lald hx hb hK hPX (gw kC cs adC u.1).length 3 (app_rt (k := 0) rfl) rfl (vp_in_nI (by decide) (by decide)) dL_law_559 ?_
    rw [nI_clamp (by decide), ho9]
    refine lv_iload hx hb dL_law_560 (lv_at hl 0 rfl) ?_
    refine lv_i2l (v := b2.toInt64) hx hb dL_law_562 rfl ?_
    refine W.lcmp hx hb dL_law_563 ?_
    rw [hab, cmp_self]
    refine lv_if_eq (tgt := 569) hx hb dL_law_564 (by decide) (fun _ => ?_) (fun y => absurd rfl y)
    refine lv_goto (tgt := 1195) hx hb dL_law_569 (by decide) ?_
    exact hend _ _ _ _ _ hPX hPM hS (lv_sub hl [2, 3, 4, 5, 6] rfl) (by omega) (by omega)
  · refine lv_if_ne (tgt := 569) hx hb dL_law_554 (by decide) (fun _ => ?_) (fun y => absurd y (nz b_tun hz))
    refine lv_goto (tgt := 1195) hx hb dL_law_569 (by decide) ?_
    exact hend _ _ _ _ _ hPX hPM hS (lv_sub hl [2, 3, 4, 5, 6] rfl) (by omega) (by omega)
set_option maxHeartbeats 4000000 in
set_option maxRecDepth 100000 in
theorem law_pass {pg : Program} {l : Launch} {e : Env} {s : State} {m : MethodId} {below : List Frame} {meth : Method} {c : Code} {H : Heap} {locs : List Loc} {C Z : Nat} {Q : State → Prop} {ls : Array Slot} {D : va_G} {cs : Nat → ClassId} {adC adM : Nat → Nat} {qo mo b L i N : Nat} {xs : Nat → Int32} {A : Nat → Prop} {J V : Mm} {o : Nat → Int64}
    (X : LCx pg l s m c D cs A b L xs) (hi : i + 5 ≤ L) (hl : lv_has ls 9 [(0, .ref b), (1, .ref (adC 0)), (2, .ref mo), (3, .ref qo), (4, .int (nI i))]) (hLS : LSt D cs adC adM qo mo A J V N o H) (hS : va_S A s.heap H locs) (hC : C ≤ 90000) (hZ : Z ≤ 900000)
    (kk : ∀ (adM' : Nat → Nat) (J' V' : Mm) (N' : Nat) (o' : Nat → Int64) (H' : Heap) (locs' : List Loc) (ls' : Array Slot) (C' Z' : Nat), LSt D cs adC adM' qo mo A J' V' N' o' H' → va_S A s.heap H' locs' → lv_has ls' 9 [(0, .ref b), (1, .ref (adC 0)), (2, .ref mo), (3, .ref qo), (4, .int (nI i))] → C' ≤ C + 10 → Z' ≤ Z + 1100 → W pg l e room_1 s m #[Value.ref b] below meth c H' locs' C' Z' Q (F0 m 1195 ls' [])) : W pg l e room_1 s m #[Value.ref b] below meth c H locs C Z Q (F0 m 572 ls []) := by
  obtain ⟨hx, hb, hml, hown, hts, hscr, hbl, hbA, hK, hN, hXW, hAO, hA, hL, hst⟩ := X
  obtain ⟨⟨hIV, hR, hR2, hRl⟩, hPX, hDX, hPM, hDM, hap, rfl⟩ := hLS
  have hN8 := hIV.1.2.1
  refine lv_aload_n hx hb dL_law_572 rfl (lv_at hl 1 rfl) ?_
  refine lv_aload_n hx hb dL_law_573 rfl (lv_at hl 0 rfl) ?_
  refine lv_iload hx hb dL_law_574 (lv_at hl 4 rfl) ?_
  refine lv_iconst (v := nI 1) hx hb dL_law_576 (by decide) ?_
  refine lv_iadd hx hb dL_law_577 ?_
  rw [nI_add i 1]
  refine r_sld hx hb hscr hbl hbA hS hL (j := i + 1) (by omega) dL_law_578 ?_
  refine lv_aload_n hx hb dL_law_579 rfl (lv_at hl 3 rfl) ?_
  have hfX := A_free hDX hS hA
  refine va_calli (vx_runSW (As := [.ref (adC 0), .int (xs (i + 1)), .ref qo]) (rest := []) ⟨hx, hb, hml, hown, hts⟩ (c_L_pass l hst D cs adC J qo o H.size (xs (i + 1)) N hIV hR hR2) (vx_cwSW 3 hts gL_law_L_pass rfl rfl rfl (by decide +kernel) ⟨Nat.le_of_ble_eq_true rfl, Nat.le_of_ble_eq_true rfl⟩) (h_preS hPX hDX hK hN (hXW.at hS) hfX) rfl rfl hl.1 rfl (lv_room (Nat.le_of_ble_eq_true rfl)) dL_law_580 ⟨rc (by omega), rs (by omega)⟩) hS (fun q _ h => hfX q h) hfX (fun r u t9 H9 locs ht9 hvm9 hw9 hB9 hz9 hk9 hS => ?_)
  obtain ⟨rfl, hFX, hans⟩ := hw9
  rw [ht9] at hB9
  have hPM := M_keep hap hPM hk9
  have hapu := Ap_lX (J := u.1) (o' := u.2) hap
  have hDX := lX_D (J := u.1) (o' := u.2) hDX
  refine lv_istore (lv' := [(5, .int (nI (thZ_pass (xs (i + 1))))), (0, .ref b), (1, .ref (adC 0)), (2, .ref (adM 0)), (3, .ref qo), (4, .int (nI i))]) hx hb dL_law_583 hl (by decide) rfl (fun ls hl => ?_)
  refine lv_aload_n hx hb dL_law_585 rfl (lv_at hl 3 rfl) ?_
  refine lv_aload_n hx hb dL_law_586 rfl (lv_at hl 1 rfl) ?_
  refine lv_iload hx hb dL_law_587 (lv_at hl 5 rfl) ?_
  refine lv_iconst (v := nI 1) hx hb dL_law_589 (by decide) ?_
  refine lv_iadd hx hb dL_law_590 ?_
  rw [nI_add i 1]
  refine r_sld hx hb hscr hbl hbA hS hL (j := i + 1) (by omega) dL_law_591 ?_
  refine g_calliK hB9 hapu hDM hS hA (va_runV (As := [.int (xs (i + 1))]) (rest := []) ⟨hx, hb, hml, hown, hts⟩ (c_X6_pass l D cs adM V H9.size 0 rfl (xs (i + 1)) 1 J N hRl hIV) (cwV 1 hts gL_law_X6_pass rfl rfl rfl (by decide +kernel) ⟨Nat.le_of_ble_eq_true rfl, Nat.le_of_ble_eq_true rfl⟩) (g_preV hPM hDM hK hN (k := 0) rfl (by decide) rfl rfl rfl rfl) rfl rfl hl.1 rfl (lv_room (Nat.le_of_ble_eq_true rfl)) dL_law_592 ⟨rc (by omega), rs (by omega)⟩) (fun b2 V2 H locs hw9 hPX hPM hDM hS => ?_)
  obtain ⟨hRl2, hth2, hb2⟩ := hw9
  refine lv_istore (lv' := [(6, .int b2), (5, .int (nI (thZ_pass (xs (i + 1))))), (0, .ref b), (1, .ref (adC 0)), (2, .ref (adM 0)), (3, .ref qo), (4, .int (nI i))]) hx hb dL_law_595 hl (by decide) rfl (fun ls hl => ?_)
  refine lv_aload_n hx hb dL_law_597 rfl (lv_at hl 4 rfl) ?_
  refine g_callFK (F := f_X6_thrown V2 0) hPX hapu hDM hS hA (va_runV (As := []) (rest := []) ⟨hx, hb, hml, hown, hts⟩ (c_X6_thrown l D cs adM V2 H.size 0 rfl) (cwV 0 hts gL_law_X6_thrown rfl rfl rfl (by decide +kernel) ⟨Nat.le_of_ble_eq_true rfl, Nat.le_of_ble_eq_true rfl⟩) (g_preV hPM hDM hK hN (k := 0) rfl (by decide) rfl rfl rfl rfl) rfl rfl hl.1 rfl (lv_room (Nat.le_of_ble_eq_true rfl)) dL_law_598 ⟨rc (by omega), rs (by omega)⟩) (fun H locs hPX hPM hDM hS => ?_)
  refine lv_iload hx hb dL_law_601 (lv_at hl 1 rfl) ?_
  refine lv_icmp_eq (tgt := 608) hx hb dL_law_603 (by decide) (fun _ => ?_) (fun y => absurd hth2 y)
  have hLI : LI u.1 V2 N := LI.of (J' := mZ_pass J 1 N (xs (i + 1))) hFX (hIV.pass (xs (i + 1))) hRl2
  have hend : ∀ (H' : Heap) (locs' : List Loc) (ls' : Array Slot) (C' Z' : Nat), va_P D vwCl (lX cs adC u.1 qo u.2) H' → va_P D vwCl (gw kM cs adM V2) H' → va_S A s.heap H' locs' → lv_has ls' 9 [(0, .ref b), (1, .ref (adC 0)), (2, .ref (adM 0)), (3, .ref qo), (4, .int (nI i))] → C' ≤ C + 10 → Z' ≤ Z + 1100 → W pg l e room_1 s m #[Value.ref b] below meth c H' locs' C' Z' Q (F0 m 1195 ls' []) := fun H' locs' ls' C' Z' h1 h2 h3 h4 h5 h6 => kk adM u.1 V2 N u.2 H' locs' ls' C' Z' ⟨hLI, h1, hDX, h2, hDM, hapu, rfl⟩ h3 h4 h5 h6
  refine lv_iload hx hb dL_law_608 (lv_at hl 1 rfl) ?_
  by_cases hz : thZ_pass (xs (i + 1)) = 0
  · refine lv_if_ne (tgt := 625) hx hb dL_law_610 (by decide) (fun y => absurd (show nI (thZ_pass (xs (i + 1))) = 0 from by rw [hz]; rfl) y) (fun _ => ?_)
    obtain ⟨a9, ha9, ho9⟩ := hans hz
    have hb9 := hb2 hz
    have hab : a9 = b2 := (ha9.trans hb9.symm)
    refine lv_aload_n hx hb dL_law_613 rfl (lv_at hl 5 rfl) ?_
    refine lv_iconst (v := nI 0) hx hb dL_law_614 (by decide) ?_
    refine va_lald hx hb hK hPX (gw kC cs adC u.1).length 3 (app_rt (k := 0) rfl) rfl (vp_in_nI (by decide) (by decide)) dL_law_615 ?_
    rw [nI_clamp (by decide), ho9]
    refine lv_iload hx hb dL_law_616 (lv_at hl 0 rfl) ?_
    refine lv_i2l (v := b2.toInt64) hx hb dL_law_618 rfl ?_
    refine W.lcmp hx hb dL_law_619 ?_
    rw [hab, cmp_self]
    refine lv_if_eq (tgt := 625) hx hb dL_law_620 (by decide) (fun _ => ?_) (fun y => absurd rfl y)
    refine lv_goto (tgt := 1195) hx hb dL_law_625 (by decide) ?_
    exact hend _ _ _ _ _ hPX hPM hS (lv_sub hl [2, 3, 4, 5, 6] rfl) (by omega) (by omega)
  · refine lv_if_ne (tgt := 625) hx hb dL_law_610 (by decide) (fun _ => ?_) (fun y => absurd y (nz b_pass hz))
    refine lv_goto (tgt := 1195) hx hb dL_law_625 (by decide) ?_
    exact hend _ _ _ _ _ hPX hPM hS (lv_sub hl [2, 3, 4, 5, 6] rfl) (by omega) (by omega)
set_option maxHeartbeats 4000000 in
set_option maxRecDepth 100000 in
theorem law_count {pg : Program} {l : Launch} {e : Env} {s : State} {m : MethodId} {below : List Frame} {meth : Method} {c : Code} {H : Heap} {locs : List Loc} {C Z : Nat} {Q : State → Prop} {ls : Array Slot} {D : va_G} {cs : Nat → ClassId} {adC adM : Nat → Nat} {qo mo b L i N : Nat} {xs : Nat → Int32} {A : Nat → Prop} {J V : Mm} {o : Nat → Int64}
    (X : LCx pg l s m c D cs A b L xs) (hi : i + 5 ≤ L) (hl : lv_has ls 9 [(0, .ref b), (1, .ref (adC 0)), (2, .ref mo), (3, .ref qo), (4, .int (nI i))]) (hLS : LSt D cs adC adM qo mo A J V N o H) (hS : va_S A s.heap H locs) (hC : C ≤ 90000) (hZ : Z ≤ 900000)
    (kk : ∀ (adM' : Nat → Nat) (J' V' : Mm) (N' : Nat) (o' : Nat → Int64) (H' : Heap) (locs' : List Loc) (ls' : Array Slot) (C' Z' : Nat), LSt D cs adC adM' qo mo A J' V' N' o' H' → va_S A s.heap H' locs' → lv_has ls' 9 [(0, .ref b), (1, .ref (adC 0)), (2, .ref mo), (3, .ref qo), (4, .int (nI i))] → C' ≤ C + 10 → Z' ≤ Z + 1100 → W pg l e room_1 s m #[Value.ref b] below meth c H' locs' C' Z' Q (F0 m 1195 ls' [])) : W pg l e room_1 s m #[Value.ref b] below meth c H locs C Z Q (F0 m 628 ls []) := by
  obtain ⟨hx, hb, hml, hown, hts, hscr, hbl, hbA, hK, hN, hXW, hAO, hA, hL, hst⟩ := X
  obtain ⟨⟨hIV, hR, hR2, hRl⟩, hPX, hDX, hPM, hDM, hap, rfl⟩ := hLS
  have hN8 := hIV.1.2.1
  refine lv_aload_n hx hb dL_law_628 rfl (lv_at hl 1 rfl) ?_
  refine lv_aload_n hx hb dL_law_629 rfl (lv_at hl 0 rfl) ?_
  refine lv_iload hx hb dL_law_630 (lv_at hl 4 rfl) ?_
  refine lv_iconst (v := nI 1) hx hb dL_law_632 (by decide) ?_
  refine lv_iadd hx hb dL_law_633 ?_
  rw [nI_add i 1]
  refine r_sld hx hb hscr hbl hbA hS hL (j := i + 1) (by omega) dL_law_634 ?_
  refine lv_aload_n hx hb dL_law_635 rfl (lv_at hl 3 rfl) ?_
  have hfX := A_free hDX hS hA
  refine va_calli (vx_runSW (As := [.ref (adC 0), .int (xs (i + 1)), .ref qo]) (rest := []) ⟨hx, hb, hml, hown, hts⟩ (c_L_count l hst D cs adC J qo o H.size (xs (i + 1)) N hIV hR hR2) (vx_cwSW 3 hts gL_law_L_count rfl rfl rfl (by decide +kernel) ⟨Nat.le_of_ble_eq_true rfl, Nat.le_of_ble_eq_true rfl⟩) (h_preS hPX hDX hK hN (hXW.at hS) hfX) rfl rfl hl.1 rfl (lv_room (Nat.le_of_ble_eq_true rfl)) dL_law_636 ⟨rc (by omega), rs (by omega)⟩) hS (fun q _ h => hfX q h) hfX (fun r u t9 H9 locs ht9 hvm9 hw9 hB9 hz9 hk9 hS => ?_)
  obtain ⟨rfl, hFX, hans⟩ := hw9
  rw [ht9] at hB9
  have hPM := M_keep hap hPM hk9
  have hapu := Ap_lX (J := u.1) (o' := u.2) hap
  have hDX := lX_D (J := u.1) (o' := u.2) hDX
  refine lv_istore (lv' := [(5, .int (nI (thZ_in (xs (i + 1)) 8 1))), (0, .ref b), (1, .ref (adC 0)), (2, .ref (adM 0)), (3, .ref qo), (4, .int (nI i))]) hx hb dL_law_639 hl (by decide) rfl (fun ls hl => ?_)
  refine lv_aload_n hx hb dL_law_641 rfl (lv_at hl 3 rfl) ?_
  refine lv_aload_n hx hb dL_law_642 rfl (lv_at hl 1 rfl) ?_
  refine lv_iload hx hb dL_law_643 (lv_at hl 5 rfl) ?_
  refine lv_iconst (v := nI 1) hx hb dL_law_645 (by decide) ?_
  refine lv_iadd hx hb dL_law_646 ?_
  rw [nI_add i 1]
  refine r_sld hx hb hscr hbl hbA hS hL (j := i + 1) (by omega) dL_law_647 ?_
  refine g_calliK hB9 hapu hDM hS hA (va_runV (As := [.int (xs (i + 1))]) (rest := []) ⟨hx, hb, hml, hown, hts⟩ (c_X6_count l D cs adM V H9.size 0 rfl (xs (i + 1)) 1 J N hRl hIV) (cwV 1 hts gL_law_X6_count rfl rfl rfl (by decide +kernel) ⟨Nat.le_of_ble_eq_true rfl, Nat.le_of_ble_eq_true rfl⟩) (g_preV hPM hDM hK hN (k := 0) rfl (by decide) rfl rfl rfl rfl) rfl rfl hl.1 rfl (lv_room (Nat.le_of_ble_eq_true rfl)) dL_law_648 ⟨rc (by omega), rs (by omega)⟩) (fun b2 V2 H locs hw9 hPX hPM hDM hS => ?_)
  obtain ⟨hRl2, hth2, hb2⟩ := hw9
  refine lv_istore (lv' := [(6, .int b2), (5, .int (nI (thZ_in (xs (i + 1)) 8 1))), (0, .ref b), (1, .ref (adC 0)), (2, .ref (adM 0)), (3, .ref qo), (4, .int (nI i))]) hx hb dL_law_651 hl (by decide) rfl (fun ls hl => ?_)
  refine lv_aload_n hx hb dL_law_653 rfl (lv_at hl 4 rfl) ?_
  refine g_callFK (F := f_X6_thrown V2 0) hPX hapu hDM hS hA (va_runV (As := []) (rest := []) ⟨hx, hb, hml, hown, hts⟩ (c_X6_thrown l D cs adM V2 H.size 0 rfl) (cwV 0 hts gL_law_X6_thrown rfl rfl rfl (by decide +kernel) ⟨Nat.le_of_ble_eq_true rfl, Nat.le_of_ble_eq_true rfl⟩) (g_preV hPM hDM hK hN (k := 0) rfl (by decide) rfl rfl rfl rfl) rfl rfl hl.1 rfl (lv_room (Nat.le_of_ble_eq_true rfl)) dL_law_654 ⟨rc (by omega), rs (by omega)⟩) (fun H locs hPX hPM hDM hS => ?_)
  refine lv_iload hx hb dL_law_657 (lv_at hl 1 rfl) ?_
  refine lv_icmp_eq (tgt := 664) hx hb dL_law_659 (by decide) (fun _ => ?_) (fun y => absurd hth2 y)
  have hLI : LI u.1 V2 N := LI.of (J' := J) hFX hIV hRl2
  have hend : ∀ (H' : Heap) (locs' : List Loc) (ls' : Array Slot) (C' Z' : Nat), va_P D vwCl (lX cs adC u.1 qo u.2) H' → va_P D vwCl (gw kM cs adM V2) H' → va_S A s.heap H' locs' → lv_has ls' 9 [(0, .ref b), (1, .ref (adC 0)), (2, .ref (adM 0)), (3, .ref qo), (4, .int (nI i))] → C' ≤ C + 10 → Z' ≤ Z + 1100 → W pg l e room_1 s m #[Value.ref b] below meth c H' locs' C' Z' Q (F0 m 1195 ls' []) := fun H' locs' ls' C' Z' h1 h2 h3 h4 h5 h6 => kk adM u.1 V2 N u.2 H' locs' ls' C' Z' ⟨hLI, h1, hDX, h2, hDM, hapu, rfl⟩ h3 h4 h5 h6
  refine lv_iload hx hb dL_law_664 (lv_at hl 1 rfl) ?_
  by_cases hz : thZ_in (xs (i + 1)) 8 1 = 0
  · refine lv_if_ne (tgt := 681) hx hb dL_law_666 (by decide) (fun y => absurd (show nI (thZ_in (xs (i + 1)) 8 1) = 0 from by rw [hz]; rfl) y) (fun _ => ?_)
    obtain ⟨a9, ha9, ho9⟩ := hans hz
    have hb9 := hb2 hz
    have hab : a9 = b2 := (ha9.trans hb9.symm)
    refine lv_aload_n hx hb dL_law_669 rfl (lv_at hl 5 rfl) ?_
    refine lv_iconst (v := nI 0) hx hb dL_law_670 (by decide) ?_
    refine va_lald hx hb hK hPX (gw kC cs adC u.1).length 3 (app_rt (k := 0) rfl) rfl (vp_in_nI (by decide) (by decide)) dL_law_671 ?_
    rw [nI_clamp (by decide), ho9]
    refine lv_iload hx hb dL_law_672 (lv_at hl 0 rfl) ?_
    refine lv_i2l (v := b2.toInt64) hx hb dL_law_674 rfl ?_
    refine W.lcmp hx hb dL_law_675 ?_
    rw [hab, cmp_self]
    refine lv_if_eq (tgt := 681) hx hb dL_law_676 (by decide) (fun _ => ?_) (fun y => absurd rfl y)
    refine lv_goto (tgt := 1195) hx hb dL_law_681 (by decide) ?_
    exact hend _ _ _ _ _ hPX hPM hS (lv_sub hl [2, 3, 4, 5, 6] rfl) (by omega) (by omega)
  · refine lv_if_ne (tgt := 681) hx hb dL_law_666 (by decide) (fun _ => ?_) (fun y => absurd y (nz b_in hz))
    refine lv_goto (tgt := 1195) hx hb dL_law_681 (by decide) ?_
    exact hend _ _ _ _ _ hPX hPM hS (lv_sub hl [2, 3, 4, 5, 6] rfl) (by omega) (by omega)
set_option maxHeartbeats 4000000 in
set_option maxRecDepth 100000 in
theorem law_way {pg : Program} {l : Launch} {e : Env} {s : State} {m : MethodId} {below : List Frame} {meth : Method} {c : Code} {H : Heap} {locs : List Loc} {C Z : Nat} {Q : State → Prop} {ls : Array Slot} {D : va_G} {cs : Nat → ClassId} {adC adM : Nat → Nat} {qo mo b L i N : Nat} {xs : Nat → Int32} {A : Nat → Prop} {J V : Mm} {o : Nat → Int64}
    (X : LCx pg l s m c D cs A b L xs) (hi : i + 5 ≤ L) (hl : lv_has ls 9 [(0, .ref b), (1, .ref (adC 0)), (2, .ref mo), (3, .ref qo), (4, .int (nI i))]) (hLS : LSt D cs adC adM qo mo A J V N o H) (hS : va_S A s.heap H locs) (hC : C ≤ 90000) (hZ : Z ≤ 900000)
    (kk : ∀ (adM' : Nat → Nat) (J' V' : Mm) (N' : Nat) (o' : Nat → Int64) (H' : Heap) (locs' : List Loc) (ls' : Array Slot) (C' Z' : Nat), LSt D cs adC adM' qo mo A J' V' N' o' H' → va_S A s.heap H' locs' → lv_has ls' 9 [(0, .ref b), (1, .ref (adC 0)), (2, .ref mo), (3, .ref qo), (4, .int (nI i))] → C' ≤ C + 10 → Z' ≤ Z + 1100 → W pg l e room_1 s m #[Value.ref b] below meth c H' locs' C' Z' Q (F0 m 1195 ls' [])) : W pg l e room_1 s m #[Value.ref b] below meth c H locs C Z Q (F0 m 684 ls []) := by
  obtain ⟨hx, hb, hml, hown, hts, hscr, hbl, hbA, hK, hN, hXW, hAO, hA, hL, hst⟩ := X
  obtain ⟨⟨hIV, hR, hR2, hRl⟩, hPX, hDX, hPM, hDM, hap, rfl⟩ := hLS
  have hN8 := hIV.1.2.1
  refine lv_aload_n hx hb dL_law_684 rfl (lv_at hl 1 rfl) ?_
  refine lv_aload_n hx hb dL_law_685 rfl (lv_at hl 0 rfl) ?_
  refine lv_iload hx hb dL_law_686 (lv_at hl 4 rfl) ?_
  refine lv_iconst (v := nI 1) hx hb dL_law_688 (by decide) ?_
  refine lv_iadd hx hb dL_law_689 ?_
  rw [nI_add i 1]
  refine r_sld hx hb hscr hbl hbA hS hL (j := i + 1) (by omega) dL_law_690 ?_
  refine lv_aload_n hx hb dL_law_691 rfl (lv_at hl 0 rfl) ?_
  refine lv_iload hx hb dL_law_692 (lv_at hl 4 rfl) ?_
  refine lv_iconst (v := nI 2) hx hb dL_law_694 (by decide) ?_
  refine lv_iadd hx hb dL_law_695 ?_
  rw [nI_add i 2]
  refine r_sld hx hb hscr hbl hbA hS hL (j := i + 2) (by omega) dL_law_696 ?_
  refine lv_aload_n hx hb dL_law_697 rfl (lv_at hl 0 rfl) ?_
  refine lv_iload hx hb dL_law_698 (lv_at hl 4 rfl) ?_
  refine lv_iconst (v := nI 3) hx hb dL_law_700 (by decide) ?_
  refine lv_iadd hx hb dL_law_701 ?_
  rw [nI_add i 3]
  refine r_sld hx hb hscr hbl hbA hS hL (j := i + 3) (by omega) dL_law_702 ?_
  refine lv_aload_n hx hb dL_law_703 rfl (lv_at hl 0 rfl) ?_
  refine lv_iload hx hb dL_law_704 (lv_at hl 4 rfl) ?_
  refine lv_iconst (v := nI 4) hx hb dL_law_706 (by decide) ?_
  refine lv_iadd hx hb dL_law_707 ?_
  rw [nI_add i 4]
  refine r_sld hx hb hscr hbl hbA hS hL (j := i + 4) (by omega) dL_law_708 ?_
  refine lv_aload_n hx hb dL_law_709 rfl (lv_at hl 3 rfl) ?_
  have hfX := A_free hDX hS hA
  refine va_calli (vx_runSW (As := [.ref (adC 0), .int (xs (i + 1)), .int (xs (i + 2)), .int (xs (i + 3)), .int (xs (i + 4)), .ref qo]) (rest := []) ⟨hx, hb, hml, hown, hts⟩ (c_L_way l hst D cs adC J qo o H.size (xs (i + 1)) (xs (i + 2)) (xs (i + 3)) (xs (i + 4)) N hIV hR hR2) (vx_cwSW 6 hts gL_law_L_way rfl rfl rfl (by decide +kernel) ⟨Nat.le_of_ble_eq_true rfl, Nat.le_of_ble_eq_true rfl⟩) (h_preS hPX hDX hK hN (hXW.at hS) hfX) rfl rfl hl.1 rfl (lv_room (Nat.le_of_ble_eq_true rfl)) dL_law_710 ⟨rc (by omega), rs (by omega)⟩) hS (fun q _ h => hfX q h) hfX (fun r u t9 H9 locs ht9 hvm9 hw9 hB9 hz9 hk9 hS => ?_)
  obtain ⟨rfl, hFX, hans⟩ := hw9
  rw [ht9] at hB9
  have hPM := M_keep hap hPM hk9
  have hapu := Ap_lX (J := u.1) (o' := u.2) hap
  have hDX := lX_D (J := u.1) (o' := u.2) hDX
  refine lv_istore (lv' := [(5, .int (nI (thZ_two (xs (i + 1)) (xs (i + 2)) (xs (i + 3)) (xs (i + 4))))), (0, .ref b), (1, .ref (adC 0)), (2, .ref (adM 0)), (3, .ref qo), (4, .int (nI i))]) hx hb dL_law_713 hl (by decide) rfl (fun ls hl => ?_)
  refine lv_aload_n hx hb dL_law_715 rfl (lv_at hl 3 rfl) ?_
  refine lv_aload_n hx hb dL_law_716 rfl (lv_at hl 1 rfl) ?_
  refine lv_iload hx hb dL_law_717 (lv_at hl 5 rfl) ?_
  refine lv_iconst (v := nI 1) hx hb dL_law_719 (by decide) ?_
  refine lv_iadd hx hb dL_law_720 ?_
  rw [nI_add i 1]
  refine r_sld hx hb hscr hbl hbA hS hL (j := i + 1) (by omega) dL_law_721 ?_
  refine lv_aload_n hx hb dL_law_722 rfl (lv_at hl 1 rfl) ?_
  refine lv_iload hx hb dL_law_723 (lv_at hl 5 rfl) ?_
  refine lv_iconst (v := nI 2) hx hb dL_law_725 (by decide) ?_
  refine lv_iadd hx hb dL_law_726 ?_
  rw [nI_add i 2]
  refine r_sld hx hb hscr hbl hbA hS hL (j := i + 2) (by omega) dL_law_727 ?_
  refine lv_aload_n hx hb dL_law_728 rfl (lv_at hl 1 rfl) ?_
  refine lv_iload hx hb dL_law_729 (lv_at hl 5 rfl) ?_
  refine lv_iconst (v := nI 3) hx hb dL_law_731 (by decide) ?_
  refine lv_iadd hx hb dL_law_732 ?_
  rw [nI_add i 3]
  refine r_sld hx hb hscr hbl hbA hS hL (j := i + 3) (by omega) dL_law_733 ?_
  refine lv_aload_n hx hb dL_law_734 rfl (lv_at hl 1 rfl) ?_
  refine lv_iload hx hb dL_law_735 (lv_at hl 5 rfl) ?_
  refine lv_iconst (v := nI 4) hx hb dL_law_737 (by decide) ?_
  refine lv_iadd hx hb dL_law_738 ?_
  rw [nI_add i 4]
  refine r_sld hx hb hscr hbl hbA hS hL (j := i + 4) (by omega) dL_law_739 ?_
  refine g_calliK hB9 hapu hDM hS hA (va_runV (As := [.int (xs (i + 1)), .int (xs (i + 2)), .int (xs (i + 3)), .int (xs (i + 4))]) (rest := []) ⟨hx, hb, hml, hown, hts⟩ (c_X6_way l D cs adM V H9.size 0 rfl (xs (i + 1)) (xs (i + 2)) (xs (i + 3)) (xs (i + 4)) 1 J N hRl hIV) (cwV 4 hts gL_law_X6_way rfl rfl rfl (by decide +kernel) ⟨Nat.le_of_ble_eq_true rfl, Nat.le_of_ble_eq_true rfl⟩) (g_preV hPM hDM hK hN (k := 0) rfl (by decide) rfl rfl rfl rfl) rfl rfl hl.1 rfl (lv_room (Nat.le_of_ble_eq_true rfl)) dL_law_740 ⟨rc (by omega), rs (by omega)⟩) (fun b2 V2 H locs hw9 hPX hPM hDM hS => ?_)
  obtain ⟨hRl2, hth2, hb2⟩ := hw9
  refine lv_istore (lv' := [(6, .int b2), (5, .int (nI (thZ_two (xs (i + 1)) (xs (i + 2)) (xs (i + 3)) (xs (i + 4))))), (0, .ref b), (1, .ref (adC 0)), (2, .ref (adM 0)), (3, .ref qo), (4, .int (nI i))]) hx hb dL_law_743 hl (by decide) rfl (fun ls hl => ?_)
  refine lv_aload_n hx hb dL_law_745 rfl (lv_at hl 4 rfl) ?_
  refine g_callFK (F := f_X6_thrown V2 0) hPX hapu hDM hS hA (va_runV (As := []) (rest := []) ⟨hx, hb, hml, hown, hts⟩ (c_X6_thrown l D cs adM V2 H.size 0 rfl) (cwV 0 hts gL_law_X6_thrown rfl rfl rfl (by decide +kernel) ⟨Nat.le_of_ble_eq_true rfl, Nat.le_of_ble_eq_true rfl⟩) (g_preV hPM hDM hK hN (k := 0) rfl (by decide) rfl rfl rfl rfl) rfl rfl hl.1 rfl (lv_room (Nat.le_of_ble_eq_true rfl)) dL_law_746 ⟨rc (by omega), rs (by omega)⟩) (fun H locs hPX hPM hDM hS => ?_)
  refine lv_iload hx hb dL_law_749 (lv_at hl 1 rfl) ?_
  refine lv_icmp_eq (tgt := 756) hx hb dL_law_751 (by decide) (fun _ => ?_) (fun y => absurd hth2 y)
  have hLI : LI u.1 V2 N := LI.of (J' := J) hFX hIV hRl2
  have hend : ∀ (H' : Heap) (locs' : List Loc) (ls' : Array Slot) (C' Z' : Nat), va_P D vwCl (lX cs adC u.1 qo u.2) H' → va_P D vwCl (gw kM cs adM V2) H' → va_S A s.heap H' locs' → lv_has ls' 9 [(0, .ref b), (1, .ref (adC 0)), (2, .ref (adM 0)), (3, .ref qo), (4, .int (nI i))] → C' ≤ C + 10 → Z' ≤ Z + 1100 → W pg l e room_1 s m #[Value.ref b] below meth c H' locs' C' Z' Q (F0 m 1195 ls' []) := fun H' locs' ls' C' Z' h1 h2 h3 h4 h5 h6 => kk adM u.1 V2 N u.2 H' locs' ls' C' Z' ⟨hLI, h1, hDX, h2, hDM, hapu, rfl⟩ h3 h4 h5 h6
  refine lv_iload hx hb dL_law_756 (lv_at hl 1 rfl) ?_
  by_cases hz : thZ_two (xs (i + 1)) (xs (i + 2)) (xs (i + 3)) (xs (i + 4)) = 0
  · refine lv_if_ne (tgt := 773) hx hb dL_law_758 (by decide) (fun y => absurd (show nI (thZ_two (xs (i + 1)) (xs (i + 2)) (xs (i + 3)) (xs (i + 4))) = 0 from by rw [hz]; rfl) y) (fun _ => ?_)
    obtain ⟨a9, ha9, ho9⟩ := hans hz
    have hb9 := hb2 hz
    have hab : a9 = b2 := (way_one ha9 hb9)
    refine lv_aload_n hx hb dL_law_761 rfl (lv_at hl 5 rfl) ?_
    refine lv_iconst (v := nI 0) hx hb dL_law_762 (by decide) ?_
    refine va_lald hx hb hK hPX (gw kC cs adC u.1).length 3 (app_rt (k := 0) rfl) rfl (vp_in_nI (by decide) (by decide)) dL_law_763 ?_
    rw [nI_clamp (by decide), ho9]
    refine lv_iload hx hb dL_law_764 (lv_at hl 0 rfl) ?_
    refine lv_i2l (v := b2.toInt64) hx hb dL_law_766 rfl ?_
    refine W.lcmp hx hb dL_law_767 ?_
    rw [hab, cmp_self]
    refine lv_if_eq (tgt := 773) hx hb dL_law_768 (by decide) (fun _ => ?_) (fun y => absurd rfl y)
    refine lv_goto (tgt := 1195) hx hb dL_law_773 (by decide) ?_
    exact hend _ _ _ _ _ hPX hPM hS (lv_sub hl [2, 3, 4, 5, 6] rfl) (by omega) (by omega)
  · refine lv_if_ne (tgt := 773) hx hb dL_law_758 (by decide) (fun _ => ?_) (fun y => absurd y (nz b_two hz))
    refine lv_goto (tgt := 1195) hx hb dL_law_773 (by decide) ?_
    exact hend _ _ _ _ _ hPX hPM hS (lv_sub hl [2, 3, 4, 5, 6] rfl) (by omega) (by omega)
set_option maxHeartbeats 4000000 in
set_option maxRecDepth 100000 in
theorem law_dig {pg : Program} {l : Launch} {e : Env} {s : State} {m : MethodId} {below : List Frame} {meth : Method} {c : Code} {H : Heap} {locs : List Loc} {C Z : Nat} {Q : State → Prop} {ls : Array Slot} {D : va_G} {cs : Nat → ClassId} {adC adM : Nat → Nat} {qo mo b L i N : Nat} {xs : Nat → Int32} {A : Nat → Prop} {J V : Mm} {o : Nat → Int64}
    (X : LCx pg l s m c D cs A b L xs) (hi : i + 5 ≤ L) (hl : lv_has ls 9 [(0, .ref b), (1, .ref (adC 0)), (2, .ref mo), (3, .ref qo), (4, .int (nI i))]) (hLS : LSt D cs adC adM qo mo A J V N o H) (hS : va_S A s.heap H locs) (hC : C ≤ 90000) (hZ : Z ≤ 900000)
    (kk : ∀ (adM' : Nat → Nat) (J' V' : Mm) (N' : Nat) (o' : Nat → Int64) (H' : Heap) (locs' : List Loc) (ls' : Array Slot) (C' Z' : Nat), LSt D cs adC adM' qo mo A J' V' N' o' H' → va_S A s.heap H' locs' → lv_has ls' 9 [(0, .ref b), (1, .ref (adC 0)), (2, .ref mo), (3, .ref qo), (4, .int (nI i))] → C' ≤ C + 10 → Z' ≤ Z + 1100 → W pg l e room_1 s m #[Value.ref b] below meth c H' locs' C' Z' Q (F0 m 1195 ls' [])) : W pg l e room_1 s m #[Value.ref b] below meth c H locs C Z Q (F0 m 776 ls []) := by
  obtain ⟨hx, hb, hml, hown, hts, hscr, hbl, hbA, hK, hN, hXW, hAO, hA, hL, hst⟩ := X
  obtain ⟨⟨hIV, hR, hR2, hRl⟩, hPX, hDX, hPM, hDM, hap, rfl⟩ := hLS
  have hN8 := hIV.1.2.1
  obtain ⟨hd, hhd⟩ := hIV.hard
  refine lv_aload_n hx hb dL_law_776 rfl (lv_at hl 1 rfl) ?_
  refine lv_aload_n hx hb dL_law_777 rfl (lv_at hl 0 rfl) ?_
  refine lv_iload hx hb dL_law_778 (lv_at hl 4 rfl) ?_
  refine lv_iconst (v := nI 1) hx hb dL_law_780 (by decide) ?_
  refine lv_iadd hx hb dL_law_781 ?_
  rw [nI_add i 1]
  refine r_sld hx hb hscr hbl hbA hS hL (j := i + 1) (by omega) dL_law_782 ?_
  refine lv_aload_n hx hb dL_law_783 rfl (lv_at hl 0 rfl) ?_
  refine lv_iload hx hb dL_law_784 (lv_at hl 4 rfl) ?_
  refine lv_iconst (v := nI 2) hx hb dL_law_786 (by decide) ?_
  refine lv_iadd hx hb dL_law_787 ?_
  rw [nI_add i 2]
  refine r_sld hx hb hscr hbl hbA hS hL (j := i + 2) (by omega) dL_law_788 ?_
  refine lv_aload_n hx hb dL_law_789 rfl (lv_at hl 0 rfl) ?_
  refine lv_iload hx hb dL_law_790 (lv_at hl 4 rfl) ?_
  refine lv_iconst (v := nI 3) hx hb dL_law_792 (by decide) ?_
  refine lv_iadd hx hb dL_law_793 ?_
  rw [nI_add i 3]
  refine r_sld hx hb hscr hbl hbA hS hL (j := i + 3) (by omega) dL_law_794 ?_
  refine lv_aload_n hx hb dL_law_795 rfl (lv_at hl 0 rfl) ?_
  refine lv_iload hx hb dL_law_796 (lv_at hl 4 rfl) ?_
  refine lv_iconst (v := nI 4) hx hb dL_law_798 (by decide) ?_
  refine lv_iadd hx hb dL_law_799 ?_
  rw [nI_add i 4]
  refine r_sld hx hb hscr hbl hbA hS hL (j := i + 4) (by omega) dL_law_800 ?_
  refine lv_aload_n hx hb dL_law_801 rfl (lv_at hl 3 rfl) ?_
  have hfX := A_free hDX hS hA
  refine va_calli (vx_runSW (As := [.ref (adC 0), .int (xs (i + 1)), .int (xs (i + 2)), .int (xs (i + 3)), .int (xs (i + 4)), .ref qo]) (rest := []) ⟨hx, hb, hml, hown, hts⟩ (c_L_dig l hst D cs adC J qo o H.size (xs (i + 1)) (xs (i + 2)) (xs (i + 3)) (xs (i + 4)) N hIV hR hR2 hd hhd) (vx_cwSW 6 hts gL_law_L_dig rfl rfl rfl (by decide +kernel) ⟨Nat.le_of_ble_eq_true rfl, Nat.le_of_ble_eq_true rfl⟩) (h_preS hPX hDX hK hN (hXW.at hS) hfX) rfl rfl hl.1 rfl (lv_room (Nat.le_of_ble_eq_true rfl)) dL_law_802 ⟨rc (by omega), rs (by omega)⟩) hS (fun q _ h => hfX q h) hfX (fun r u t9 H9 locs ht9 hvm9 hw9 hB9 hz9 hk9 hS => ?_)
  obtain ⟨rfl, hFX, hans⟩ := hw9
  rw [ht9] at hB9
  have hPM := M_keep hap hPM hk9
  have hapu := Ap_lX (J := u.1) (o' := u.2) hap
  have hDX := lX_D (J := u.1) (o' := u.2) hDX
  refine lv_istore (lv' := [(5, .int (nI (thZ_two (xs (i + 1)) (xs (i + 2)) (xs (i + 3)) (xs (i + 4))))), (0, .ref b), (1, .ref (adC 0)), (2, .ref (adM 0)), (3, .ref qo), (4, .int (nI i))]) hx hb dL_law_805 hl (by decide) rfl (fun ls hl => ?_)
  refine lv_aload_n hx hb dL_law_807 rfl (lv_at hl 3 rfl) ?_
  refine lv_aload_n hx hb dL_law_808 rfl (lv_at hl 1 rfl) ?_
  refine lv_iload hx hb dL_law_809 (lv_at hl 5 rfl) ?_
  refine lv_iconst (v := nI 1) hx hb dL_law_811 (by decide) ?_
  refine lv_iadd hx hb dL_law_812 ?_
  rw [nI_add i 1]
  refine r_sld hx hb hscr hbl hbA hS hL (j := i + 1) (by omega) dL_law_813 ?_
  refine lv_aload_n hx hb dL_law_814 rfl (lv_at hl 1 rfl) ?_
  refine lv_iload hx hb dL_law_815 (lv_at hl 5 rfl) ?_
  refine lv_iconst (v := nI 2) hx hb dL_law_817 (by decide) ?_
  refine lv_iadd hx hb dL_law_818 ?_
  rw [nI_add i 2]
  refine r_sld hx hb hscr hbl hbA hS hL (j := i + 2) (by omega) dL_law_819 ?_
  refine lv_aload_n hx hb dL_law_820 rfl (lv_at hl 1 rfl) ?_
  refine lv_iload hx hb dL_law_821 (lv_at hl 5 rfl) ?_
  refine lv_iconst (v := nI 3) hx hb dL_law_823 (by decide) ?_
  refine lv_iadd hx hb dL_law_824 ?_
  rw [nI_add i 3]
  refine r_sld hx hb hscr hbl hbA hS hL (j := i + 3) (by omega) dL_law_825 ?_
  refine lv_aload_n hx hb dL_law_826 rfl (lv_at hl 1 rfl) ?_
  refine lv_iload hx hb dL_law_827 (lv_at hl 5 rfl) ?_
  refine lv_iconst (v := nI 4) hx hb dL_law_829 (by decide) ?_
  refine lv_iadd hx hb dL_law_830 ?_
  rw [nI_add i 4]
  refine r_sld hx hb hscr hbl hbA hS hL (j := i + 4) (by omega) dL_law_831 ?_
  refine g_calliK hB9 hapu hDM hS hA (va_runV (As := [.int (xs (i + 1)), .int (xs (i + 2)), .int (xs (i + 3)), .int (xs (i + 4))]) (rest := []) ⟨hx, hb, hml, hown, hts⟩ (c_X6_dig l D cs adM V H9.size 0 rfl (xs (i + 1)) (xs (i + 2)) (xs (i + 3)) (xs (i + 4)) 1 J N hRl hIV hd hhd) (cwV 4 hts gL_law_X6_dig rfl rfl rfl (by decide +kernel) ⟨Nat.le_of_ble_eq_true rfl, Nat.le_of_ble_eq_true rfl⟩) (g_preV hPM hDM hK hN (k := 0) rfl (by decide) rfl rfl rfl rfl) rfl rfl hl.1 rfl (lv_room (Nat.le_of_ble_eq_true rfl)) dL_law_832 ⟨rc (by omega), rs (by omega)⟩) (fun b2 V2 H locs hw9 hPX hPM hDM hS => ?_)
  obtain ⟨hRl2, hth2, hb2⟩ := hw9
  refine lv_istore (lv' := [(6, .int b2), (5, .int (nI (thZ_two (xs (i + 1)) (xs (i + 2)) (xs (i + 3)) (xs (i + 4))))), (0, .ref b), (1, .ref (adC 0)), (2, .ref (adM 0)), (3, .ref qo), (4, .int (nI i))]) hx hb dL_law_835 hl (by decide) rfl (fun ls hl => ?_)
  refine lv_aload_n hx hb dL_law_837 rfl (lv_at hl 4 rfl) ?_
  refine g_callFK (F := f_X6_thrown V2 0) hPX hapu hDM hS hA (va_runV (As := []) (rest := []) ⟨hx, hb, hml, hown, hts⟩ (c_X6_thrown l D cs adM V2 H.size 0 rfl) (cwV 0 hts gL_law_X6_thrown rfl rfl rfl (by decide +kernel) ⟨Nat.le_of_ble_eq_true rfl, Nat.le_of_ble_eq_true rfl⟩) (g_preV hPM hDM hK hN (k := 0) rfl (by decide) rfl rfl rfl rfl) rfl rfl hl.1 rfl (lv_room (Nat.le_of_ble_eq_true rfl)) dL_law_838 ⟨rc (by omega), rs (by omega)⟩) (fun H locs hPX hPM hDM hS => ?_)
  refine lv_iload hx hb dL_law_841 (lv_at hl 1 rfl) ?_
  refine lv_icmp_eq (tgt := 848) hx hb dL_law_843 (by decide) (fun _ => ?_) (fun y => absurd hth2 y)
  have hLI : LI u.1 V2 N := LI.of (J' := J) hFX hIV hRl2
  have hend : ∀ (H' : Heap) (locs' : List Loc) (ls' : Array Slot) (C' Z' : Nat), va_P D vwCl (lX cs adC u.1 qo u.2) H' → va_P D vwCl (gw kM cs adM V2) H' → va_S A s.heap H' locs' → lv_has ls' 9 [(0, .ref b), (1, .ref (adC 0)), (2, .ref (adM 0)), (3, .ref qo), (4, .int (nI i))] → C' ≤ C + 10 → Z' ≤ Z + 1100 → W pg l e room_1 s m #[Value.ref b] below meth c H' locs' C' Z' Q (F0 m 1195 ls' []) := fun H' locs' ls' C' Z' h1 h2 h3 h4 h5 h6 => kk adM u.1 V2 N u.2 H' locs' ls' C' Z' ⟨hLI, h1, hDX, h2, hDM, hapu, rfl⟩ h3 h4 h5 h6
  refine lv_iload hx hb dL_law_848 (lv_at hl 1 rfl) ?_
  by_cases hz : thZ_two (xs (i + 1)) (xs (i + 2)) (xs (i + 3)) (xs (i + 4)) = 0
  · refine lv_if_ne (tgt := 865) hx hb dL_law_850 (by decide) (fun y => absurd (show nI (thZ_two (xs (i + 1)) (xs (i + 2)) (xs (i + 3)) (xs (i + 4))) = 0 from by rw [hz]; rfl) y) (fun _ => ?_)
    obtain ⟨a9, ha9, ho9⟩ := hans hz
    have hb9 := hb2 hz
    have hab : a9 = b2 := (dig_one ha9 hb9)
    refine lv_aload_n hx hb dL_law_853 rfl (lv_at hl 5 rfl) ?_
    refine lv_iconst (v := nI 0) hx hb dL_law_854 (by decide) ?_
    refine va_lald hx hb hK hPX (gw kC cs adC u.1).length 3 (app_rt (k := 0) rfl) rfl (vp_in_nI (by decide) (by decide)) dL_law_855 ?_
    rw [nI_clamp (by decide), ho9]
    refine lv_iload hx hb dL_law_856 (lv_at hl 0 rfl) ?_
    refine lv_i2l (v := b2.toInt64) hx hb dL_law_858 rfl ?_
    refine W.lcmp hx hb dL_law_859 ?_
    rw [hab, cmp_self]
    refine lv_if_eq (tgt := 865) hx hb dL_law_860 (by decide) (fun _ => ?_) (fun y => absurd rfl y)
    refine lv_goto (tgt := 1195) hx hb dL_law_865 (by decide) ?_
    exact hend _ _ _ _ _ hPX hPM hS (lv_sub hl [2, 3, 4, 5, 6] rfl) (by omega) (by omega)
  · refine lv_if_ne (tgt := 865) hx hb dL_law_850 (by decide) (fun _ => ?_) (fun y => absurd y (nz b_two hz))
    refine lv_goto (tgt := 1195) hx hb dL_law_865 (by decide) ?_
    exact hend _ _ _ _ _ hPX hPM hS (lv_sub hl [2, 3, 4, 5, 6] rfl) (by omega) (by omega)
set_option maxHeartbeats 4000000 in
set_option maxRecDepth 100000 in
theorem law_caves {pg : Program} {l : Launch} {e : Env} {s : State} {m : MethodId} {below : List Frame} {meth : Method} {c : Code} {H : Heap} {locs : List Loc} {C Z : Nat} {Q : State → Prop} {ls : Array Slot} {D : va_G} {cs : Nat → ClassId} {adC adM : Nat → Nat} {qo mo b L i N : Nat} {xs : Nat → Int32} {A : Nat → Prop} {J V : Mm} {o : Nat → Int64}
    (X : LCx pg l s m c D cs A b L xs) (hi : i + 5 ≤ L) (hl : lv_has ls 9 [(0, .ref b), (1, .ref (adC 0)), (2, .ref mo), (3, .ref qo), (4, .int (nI i))]) (hLS : LSt D cs adC adM qo mo A J V N o H) (hS : va_S A s.heap H locs) (hC : C ≤ 90000) (hZ : Z ≤ 900000)
    (kk : ∀ (adM' : Nat → Nat) (J' V' : Mm) (N' : Nat) (o' : Nat → Int64) (H' : Heap) (locs' : List Loc) (ls' : Array Slot) (C' Z' : Nat), LSt D cs adC adM' qo mo A J' V' N' o' H' → va_S A s.heap H' locs' → lv_has ls' 9 [(0, .ref b), (1, .ref (adC 0)), (2, .ref mo), (3, .ref qo), (4, .int (nI i))] → C' ≤ C + 10 → Z' ≤ Z + 1100 → W pg l e room_1 s m #[Value.ref b] below meth c H' locs' C' Z' Q (F0 m 1195 ls' [])) : W pg l e room_1 s m #[Value.ref b] below meth c H locs C Z Q (F0 m 868 ls []) := by
  obtain ⟨hx, hb, hml, hown, hts, hscr, hbl, hbA, hK, hN, hXW, hAO, hA, hL, hst⟩ := X
  obtain ⟨⟨hIV, hR, hR2, hRl⟩, hPX, hDX, hPM, hDM, hap, rfl⟩ := hLS
  have hN8 := hIV.1.2.1
  refine lv_aload_n hx hb dL_law_868 rfl (lv_at hl 1 rfl) ?_
  refine lv_aload_n hx hb dL_law_869 rfl (lv_at hl 0 rfl) ?_
  refine lv_iload hx hb dL_law_870 (lv_at hl 4 rfl) ?_
  refine lv_iconst (v := nI 1) hx hb dL_law_872 (by decide) ?_
  refine lv_iadd hx hb dL_law_873 ?_
  rw [nI_add i 1]
  refine r_sld hx hb hscr hbl hbA hS hL (j := i + 1) (by omega) dL_law_874 ?_
  refine lv_aload_n hx hb dL_law_875 rfl (lv_at hl 3 rfl) ?_
  have hfX := A_free hDX hS hA
  refine va_calli (vx_runSW (As := [.ref (adC 0), .int (xs (i + 1)), .ref qo]) (rest := []) ⟨hx, hb, hml, hown, hts⟩ (c_L_caves l hst D cs adC J qo o H.size (xs (i + 1)) N hIV hR hR2) (vx_cwSW 3 hts gL_law_L_caves rfl rfl rfl (by decide +kernel) ⟨Nat.le_of_ble_eq_true rfl, Nat.le_of_ble_eq_true rfl⟩) (h_preS hPX hDX hK hN (hXW.at hS) hfX) rfl rfl hl.1 rfl (lv_room (Nat.le_of_ble_eq_true rfl)) dL_law_876 ⟨rc (by omega), rs (by omega)⟩) hS (fun q _ h => hfX q h) hfX (fun r u t9 H9 locs ht9 hvm9 hw9 hB9 hz9 hk9 hS => ?_)
  obtain ⟨rfl, hFX, hans⟩ := hw9
  rw [ht9] at hB9
  have hPM := M_keep hap hPM hk9
  have hapu := Ap_lX (J := u.1) (o' := u.2) hap
  have hDX := lX_D (J := u.1) (o' := u.2) hDX
  refine lv_istore (lv' := [(5, .int (nI (thZ_in (xs (i + 1)) 2 1))), (0, .ref b), (1, .ref (adC 0)), (2, .ref (adM 0)), (3, .ref qo), (4, .int (nI i))]) hx hb dL_law_879 hl (by decide) rfl (fun ls hl => ?_)
  refine lv_aload_n hx hb dL_law_881 rfl (lv_at hl 3 rfl) ?_
  refine lv_aload_n hx hb dL_law_882 rfl (lv_at hl 1 rfl) ?_
  refine lv_iload hx hb dL_law_883 (lv_at hl 5 rfl) ?_
  refine lv_iconst (v := nI 1) hx hb dL_law_885 (by decide) ?_
  refine lv_iadd hx hb dL_law_886 ?_
  rw [nI_add i 1]
  refine r_sld hx hb hscr hbl hbA hS hL (j := i + 1) (by omega) dL_law_887 ?_
  refine g_calliK hB9 hapu hDM hS hA (va_runV (As := [.int (xs (i + 1))]) (rest := []) ⟨hx, hb, hml, hown, hts⟩ (c_X6_caves l D cs adM V H9.size 0 rfl (xs (i + 1)) 1 J N hRl hIV) (cwV 1 hts gL_law_X6_caves rfl rfl rfl (by decide +kernel) ⟨Nat.le_of_ble_eq_true rfl, Nat.le_of_ble_eq_true rfl⟩) (g_preV hPM hDM hK hN (k := 0) rfl (by decide) rfl rfl rfl rfl) rfl rfl hl.1 rfl (lv_room (Nat.le_of_ble_eq_true rfl)) dL_law_888 ⟨rc (by omega), rs (by omega)⟩) (fun b2 V2 H locs hw9 hPX hPM hDM hS => ?_)
  obtain ⟨hRl2, hth2, hb2⟩ := hw9
  refine lv_istore (lv' := [(6, .int b2), (5, .int (nI (thZ_in (xs (i + 1)) 2 1))), (0, .ref b), (1, .ref (adC 0)), (2, .ref (adM 0)), (3, .ref qo), (4, .int (nI i))]) hx hb dL_law_891 hl (by decide) rfl (fun ls hl => ?_)
  refine lv_aload_n hx hb dL_law_893 rfl (lv_at hl 4 rfl) ?_
  refine g_callFK (F := f_X6_thrown V2 0) hPX hapu hDM hS hA (va_runV (As := []) (rest := []) ⟨hx, hb, hml, hown, hts⟩ (c_X6_thrown l D cs adM V2 H.size 0 rfl) (cwV 0 hts gL_law_X6_thrown rfl rfl rfl (by decide +kernel) ⟨Nat.le_of_ble_eq_true rfl, Nat.le_of_ble_eq_true rfl⟩) (g_preV hPM hDM hK hN (k := 0) rfl (by decide) rfl rfl rfl rfl) rfl rfl hl.1 rfl (lv_room (Nat.le_of_ble_eq_true rfl)) dL_law_894 ⟨rc (by omega), rs (by omega)⟩) (fun H locs hPX hPM hDM hS => ?_)
  refine lv_iload hx hb dL_law_897 (lv_at hl 1 rfl) ?_
  refine lv_icmp_eq (tgt := 904) hx hb dL_law_899 (by decide) (fun _ => ?_) (fun y => absurd hth2 y)
  have hLI : LI u.1 V2 N := LI.of (J' := J) hFX hIV hRl2
  have hend : ∀ (H' : Heap) (locs' : List Loc) (ls' : Array Slot) (C' Z' : Nat), va_P D vwCl (lX cs adC u.1 qo u.2) H' → va_P D vwCl (gw kM cs adM V2) H' → va_S A s.heap H' locs' → lv_has ls' 9 [(0, .ref b), (1, .ref (adC 0)), (2, .ref (adM 0)), (3, .ref qo), (4, .int (nI i))] → C' ≤ C + 10 → Z' ≤ Z + 1100 → W pg l e room_1 s m #[Value.ref b] below meth c H' locs' C' Z' Q (F0 m 1195 ls' []) := fun H' locs' ls' C' Z' h1 h2 h3 h4 h5 h6 => kk adM u.1 V2 N u.2 H' locs' ls' C' Z' ⟨hLI, h1, hDX, h2, hDM, hapu, rfl⟩ h3 h4 h5 h6
  refine lv_iload hx hb dL_law_904 (lv_at hl 1 rfl) ?_
  by_cases hz : thZ_in (xs (i + 1)) 2 1 = 0
  · refine lv_if_ne (tgt := 921) hx hb dL_law_906 (by decide) (fun y => absurd (show nI (thZ_in (xs (i + 1)) 2 1) = 0 from by rw [hz]; rfl) y) (fun _ => ?_)
    obtain ⟨a9, ha9, ho9⟩ := hans hz
    have hb9 := hb2 hz
    have hab : a9 = b2 := (ha9.trans hb9.symm)
    refine lv_aload_n hx hb dL_law_909 rfl (lv_at hl 5 rfl) ?_
    refine lv_iconst (v := nI 0) hx hb dL_law_910 (by decide) ?_
    refine va_lald hx hb hK hPX (gw kC cs adC u.1).length 3 (app_rt (k := 0) rfl) rfl (vp_in_nI (by decide) (by decide)) dL_law_911 ?_
    rw [nI_clamp (by decide), ho9]
    refine lv_iload hx hb dL_law_912 (lv_at hl 0 rfl) ?_
    refine lv_i2l (v := b2.toInt64) hx hb dL_law_914 rfl ?_
    refine W.lcmp hx hb dL_law_915 ?_
    rw [hab, cmp_self]
    refine lv_if_eq (tgt := 921) hx hb dL_law_916 (by decide) (fun _ => ?_) (fun y => absurd rfl y)
    refine lv_goto (tgt := 1195) hx hb dL_law_921 (by decide) ?_
    exact hend _ _ _ _ _ hPX hPM hS (lv_sub hl [2, 3, 4, 5, 6] rfl) (by omega) (by omega)
  · refine lv_if_ne (tgt := 921) hx hb dL_law_906 (by decide) (fun _ => ?_) (fun y => absurd y (nz b_in hz))
    refine lv_goto (tgt := 1195) hx hb dL_law_921 (by decide) ?_
    exact hend _ _ _ _ _ hPX hPM hS (lv_sub hl [2, 3, 4, 5, 6] rfl) (by omega) (by omega)
set_option maxHeartbeats 4000000 in
set_option maxRecDepth 100000 in
theorem law_meet {pg : Program} {l : Launch} {e : Env} {s : State} {m : MethodId} {below : List Frame} {meth : Method} {c : Code} {H : Heap} {locs : List Loc} {C Z : Nat} {Q : State → Prop} {ls : Array Slot} {D : va_G} {cs : Nat → ClassId} {adC adM : Nat → Nat} {qo mo b L i N : Nat} {xs : Nat → Int32} {A : Nat → Prop} {J V : Mm} {o : Nat → Int64}
    (X : LCx pg l s m c D cs A b L xs) (hi : i + 5 ≤ L) (hl : lv_has ls 9 [(0, .ref b), (1, .ref (adC 0)), (2, .ref mo), (3, .ref qo), (4, .int (nI i))]) (hLS : LSt D cs adC adM qo mo A J V N o H) (hS : va_S A s.heap H locs) (hC : C ≤ 90000) (hZ : Z ≤ 900000)
    (kk : ∀ (adM' : Nat → Nat) (J' V' : Mm) (N' : Nat) (o' : Nat → Int64) (H' : Heap) (locs' : List Loc) (ls' : Array Slot) (C' Z' : Nat), LSt D cs adC adM' qo mo A J' V' N' o' H' → va_S A s.heap H' locs' → lv_has ls' 9 [(0, .ref b), (1, .ref (adC 0)), (2, .ref mo), (3, .ref qo), (4, .int (nI i))] → C' ≤ C + 10 → Z' ≤ Z + 1100 → W pg l e room_1 s m #[Value.ref b] below meth c H' locs' C' Z' Q (F0 m 1195 ls' [])) : W pg l e room_1 s m #[Value.ref b] below meth c H locs C Z Q (F0 m 924 ls []) := by
  obtain ⟨hx, hb, hml, hown, hts, hscr, hbl, hbA, hK, hN, hXW, hAO, hA, hL, hst⟩ := X
  obtain ⟨⟨hIV, hR, hR2, hRl⟩, hPX, hDX, hPM, hDM, hap, rfl⟩ := hLS
  have hN8 := hIV.1.2.1
  refine lv_aload_n hx hb dL_law_924 rfl (lv_at hl 1 rfl) ?_
  refine lv_aload_n hx hb dL_law_925 rfl (lv_at hl 0 rfl) ?_
  refine lv_iload hx hb dL_law_926 (lv_at hl 4 rfl) ?_
  refine lv_iconst (v := nI 1) hx hb dL_law_928 (by decide) ?_
  refine lv_iadd hx hb dL_law_929 ?_
  rw [nI_add i 1]
  refine r_sld hx hb hscr hbl hbA hS hL (j := i + 1) (by omega) dL_law_930 ?_
  refine lv_aload_n hx hb dL_law_931 rfl (lv_at hl 0 rfl) ?_
  refine lv_iload hx hb dL_law_932 (lv_at hl 4 rfl) ?_
  refine lv_iconst (v := nI 2) hx hb dL_law_934 (by decide) ?_
  refine lv_iadd hx hb dL_law_935 ?_
  rw [nI_add i 2]
  refine r_sld hx hb hscr hbl hbA hS hL (j := i + 2) (by omega) dL_law_936 ?_
  refine lv_aload_n hx hb dL_law_937 rfl (lv_at hl 0 rfl) ?_
  refine lv_iload hx hb dL_law_938 (lv_at hl 4 rfl) ?_
  refine lv_iconst (v := nI 3) hx hb dL_law_940 (by decide) ?_
  refine lv_iadd hx hb dL_law_941 ?_
  rw [nI_add i 3]
  refine r_sld hx hb hscr hbl hbA hS hL (j := i + 3) (by omega) dL_law_942 ?_
  refine lv_aload_n hx hb dL_law_943 rfl (lv_at hl 3 rfl) ?_
  have hfX := A_free hDX hS hA
  refine va_calli (vx_runSW (As := [.ref (adC 0), .int (xs (i + 1)), .int (xs (i + 2)), .int (xs (i + 3)), .ref qo]) (rest := []) ⟨hx, hb, hml, hown, hts⟩ (c_L_meet l hst D cs adC J qo o H.size (xs (i + 1)) (xs (i + 2)) (xs (i + 3)) N hIV hR hR2) (vx_cwSW 5 hts gL_law_L_meet rfl rfl rfl (by decide +kernel) ⟨Nat.le_of_ble_eq_true rfl, Nat.le_of_ble_eq_true rfl⟩) (h_preS hPX hDX hK hN (hXW.at hS) hfX) rfl rfl hl.1 rfl (lv_room (Nat.le_of_ble_eq_true rfl)) dL_law_944 ⟨rc (by omega), rs (by omega)⟩) hS (fun q _ h => hfX q h) hfX (fun r u t9 H9 locs ht9 hvm9 hw9 hB9 hz9 hk9 hS => ?_)
  obtain ⟨rfl, hFX, hans⟩ := hw9
  rw [ht9] at hB9
  have hPM := M_keep hap hPM hk9
  have hapu := Ap_lX (J := u.1) (o' := u.2) hap
  have hDX := lX_D (J := u.1) (o' := u.2) hDX
  refine lv_istore (lv' := [(5, .int (nI (thZ_meet N (xs (i + 1)) (xs (i + 2)) (xs (i + 3))))), (0, .ref b), (1, .ref (adC 0)), (2, .ref (adM 0)), (3, .ref qo), (4, .int (nI i))]) hx hb dL_law_947 hl (by decide) rfl (fun ls hl => ?_)
  refine lv_aload_n hx hb dL_law_949 rfl (lv_at hl 3 rfl) ?_
  refine lv_aload_n hx hb dL_law_950 rfl (lv_at hl 1 rfl) ?_
  refine lv_iload hx hb dL_law_951 (lv_at hl 5 rfl) ?_
  refine lv_iconst (v := nI 1) hx hb dL_law_953 (by decide) ?_
  refine lv_iadd hx hb dL_law_954 ?_
  rw [nI_add i 1]
  refine r_sld hx hb hscr hbl hbA hS hL (j := i + 1) (by omega) dL_law_955 ?_
  refine lv_aload_n hx hb dL_law_956 rfl (lv_at hl 1 rfl) ?_
  refine lv_iload hx hb dL_law_957 (lv_at hl 5 rfl) ?_
  refine lv_iconst (v := nI 2) hx hb dL_law_959 (by decide) ?_
  refine lv_iadd hx hb dL_law_960 ?_
  rw [nI_add i 2]
  refine r_sld hx hb hscr hbl hbA hS hL (j := i + 2) (by omega) dL_law_961 ?_
  refine lv_aload_n hx hb dL_law_962 rfl (lv_at hl 1 rfl) ?_
  refine lv_iload hx hb dL_law_963 (lv_at hl 5 rfl) ?_
  refine lv_iconst (v := nI 3) hx hb dL_law_965 (by decide) ?_
  refine lv_iadd hx hb dL_law_966 ?_
  rw [nI_add i 3]
  refine r_sld hx hb hscr hbl hbA hS hL (j := i + 3) (by omega) dL_law_967 ?_
  refine g_calliE hB9 hapu hDM hS hA (va_runV (As := [.int (xs (i + 1)), .int (xs (i + 2)), .int (xs (i + 3))]) (rest := []) ⟨hx, hb, hml, hown, hts⟩ (c_X6_meet l D cs adM V H9.size 0 rfl (xs (i + 1)) (xs (i + 2)) (xs (i + 3)) 26 (ahd J 0) N (hRl.sm (ahd_sm J 0) hN8) (hIV.sm (ahd_sm J 0))) (cwV 3 hts gL_law_X6_meet rfl rfl rfl (by decide +kernel) ⟨Nat.le_of_ble_eq_true rfl, Nat.le_of_ble_eq_true rfl⟩) (g_preVE hPM hDM hK hN hAO (k := 0) rfl (by decide) rfl rfl rfl rfl) rfl rfl hl.1 rfl (lv_room (Nat.le_of_ble_eq_true rfl)) dL_law_968 ⟨rc (by omega), rs (by omega)⟩) (fun b2 v2 H locs hw9 hPX hPM hDM hapu hS => ?_)
  obtain ⟨hm2, hRl2, hth2, hb2⟩ := hw9
  rw [← hm2] at hl
  refine lv_istore (lv' := [(6, .int b2), (5, .int (nI (thZ_meet N (xs (i + 1)) (xs (i + 2)) (xs (i + 3))))), (0, .ref b), (1, .ref (adC 0)), (2, .ref (v2.1 0)), (3, .ref qo), (4, .int (nI i))]) hx hb dL_law_971 hl (by decide) rfl (fun ls hl => ?_)
  refine lv_aload_n hx hb dL_law_973 rfl (lv_at hl 4 rfl) ?_
  refine g_callFK (F := f_X6_thrown v2.2 0) hPX hapu hDM hS hA (va_runV (As := []) (rest := []) ⟨hx, hb, hml, hown, hts⟩ (c_X6_thrown l D cs v2.1 v2.2 H.size 0 rfl) (cwV 0 hts gL_law_X6_thrown rfl rfl rfl (by decide +kernel) ⟨Nat.le_of_ble_eq_true rfl, Nat.le_of_ble_eq_true rfl⟩) (g_preV hPM hDM hK hN (k := 0) rfl (by decide) rfl rfl rfl rfl) rfl rfl hl.1 rfl (lv_room (Nat.le_of_ble_eq_true rfl)) dL_law_974 ⟨rc (by omega), rs (by omega)⟩) (fun H locs hPX hPM hDM hS => ?_)
  refine lv_iload hx hb dL_law_977 (lv_at hl 1 rfl) ?_
  refine lv_icmp_eq (tgt := 984) hx hb dL_law_979 (by decide) (fun _ => ?_) (fun y => absurd hth2 y)
  have hLI : LI u.1 v2.2 N := LI.of (J' := J) hFX hIV (hRl2.sm (ahd_sm J 0).symm hN8)
  have hend : ∀ (H' : Heap) (locs' : List Loc) (ls' : Array Slot) (C' Z' : Nat), va_P D vwCl (lX cs adC u.1 qo u.2) H' → va_P D vwCl (gw kM cs v2.1 v2.2) H' → va_S A s.heap H' locs' → lv_has ls' 9 [(0, .ref b), (1, .ref (adC 0)), (2, .ref (v2.1 0)), (3, .ref qo), (4, .int (nI i))] → C' ≤ C + 10 → Z' ≤ Z + 1100 → W pg l e room_1 s m #[Value.ref b] below meth c H' locs' C' Z' Q (F0 m 1195 ls' []) := fun H' locs' ls' C' Z' h1 h2 h3 h4 h5 h6 => kk v2.1 u.1 v2.2 N u.2 H' locs' ls' C' Z' ⟨hLI, h1, hDX, h2, hDM, hapu, hm2⟩ h3 (by rw [hm2] at h4; exact h4) h5 h6
  refine lv_iload hx hb dL_law_984 (lv_at hl 1 rfl) ?_
  by_cases hz : thZ_meet N (xs (i + 1)) (xs (i + 2)) (xs (i + 3)) = 0
  · refine lv_if_ne (tgt := 1001) hx hb dL_law_986 (by decide) (fun y => absurd (show nI (thZ_meet N (xs (i + 1)) (xs (i + 2)) (xs (i + 3))) = 0 from by rw [hz]; rfl) y) (fun _ => ?_)
    obtain ⟨a9, ha9, ho9⟩ := hans hz
    have hb9 := hb2 hz
    have hab : a9 = b2 := (meet_one ha9 hb9)
    refine lv_aload_n hx hb dL_law_989 rfl (lv_at hl 5 rfl) ?_
    refine lv_iconst (v := nI 0) hx hb dL_law_990 (by decide) ?_
    refine va_lald hx hb hK hPX (gw kC cs adC u.1).length 3 (app_rt (k := 0) rfl) rfl (vp_in_nI (by decide) (by decide)) dL_law_991 ?_
    rw [nI_clamp (by decide), ho9]
    refine lv_iload hx hb dL_law_992 (lv_at hl 0 rfl) ?_
    refine lv_i2l (v := b2.toInt64) hx hb dL_law_994 rfl ?_
    refine W.lcmp hx hb dL_law_995 ?_
    rw [hab, cmp_self]
    refine lv_if_eq (tgt := 1001) hx hb dL_law_996 (by decide) (fun _ => ?_) (fun y => absurd rfl y)
    refine lv_goto (tgt := 1195) hx hb dL_law_1001 (by decide) ?_
    exact hend _ _ _ _ _ hPX hPM hS (lv_sub hl [2, 3, 4, 5, 6] rfl) (by omega) (by omega)
  · refine lv_if_ne (tgt := 1001) hx hb dL_law_986 (by decide) (fun _ => ?_) (fun y => absurd y (nz b_meet hz))
    refine lv_goto (tgt := 1195) hx hb dL_law_1001 (by decide) ?_
    exact hend _ _ _ _ _ hPX hPM hS (lv_sub hl [2, 3, 4, 5, 6] rfl) (by omega) (by omega)
set_option maxHeartbeats 4000000 in
set_option maxRecDepth 100000 in
theorem law_foresee {pg : Program} {l : Launch} {e : Env} {s : State} {m : MethodId} {below : List Frame} {meth : Method} {c : Code} {H : Heap} {locs : List Loc} {C Z : Nat} {Q : State → Prop} {ls : Array Slot} {D : va_G} {cs : Nat → ClassId} {adC adM : Nat → Nat} {qo mo b L i N : Nat} {xs : Nat → Int32} {A : Nat → Prop} {J V : Mm} {o : Nat → Int64}
    (X : LCx pg l s m c D cs A b L xs) (hi : i + 5 ≤ L) (hl : lv_has ls 9 [(0, .ref b), (1, .ref (adC 0)), (2, .ref mo), (3, .ref qo), (4, .int (nI i))]) (hLS : LSt D cs adC adM qo mo A J V N o H) (hS : va_S A s.heap H locs) (hC : C ≤ 90000) (hZ : Z ≤ 900000)
    (kk : ∀ (adM' : Nat → Nat) (J' V' : Mm) (N' : Nat) (o' : Nat → Int64) (H' : Heap) (locs' : List Loc) (ls' : Array Slot) (C' Z' : Nat), LSt D cs adC adM' qo mo A J' V' N' o' H' → va_S A s.heap H' locs' → lv_has ls' 9 [(0, .ref b), (1, .ref (adC 0)), (2, .ref mo), (3, .ref qo), (4, .int (nI i))] → C' ≤ C + 10 → Z' ≤ Z + 1100 → W pg l e room_1 s m #[Value.ref b] below meth c H' locs' C' Z' Q (F0 m 1195 ls' [])) : W pg l e room_1 s m #[Value.ref b] below meth c H locs C Z Q (F0 m 1004 ls []) := by
  obtain ⟨hx, hb, hml, hown, hts, hscr, hbl, hbA, hK, hN, hXW, hAO, hA, hL, hst⟩ := X
  obtain ⟨⟨hIV, hR, hR2, hRl⟩, hPX, hDX, hPM, hDM, hap, rfl⟩ := hLS
  have hN8 := hIV.1.2.1
  refine lv_aload_n hx hb dL_law_1004 rfl (lv_at hl 1 rfl) ?_
  refine lv_aload_n hx hb dL_law_1005 rfl (lv_at hl 0 rfl) ?_
  refine lv_iload hx hb dL_law_1006 (lv_at hl 4 rfl) ?_
  refine lv_iconst (v := nI 1) hx hb dL_law_1008 (by decide) ?_
  refine lv_iadd hx hb dL_law_1009 ?_
  rw [nI_add i 1]
  refine r_sld hx hb hscr hbl hbA hS hL (j := i + 1) (by omega) dL_law_1010 ?_
  refine lv_aload_n hx hb dL_law_1011 rfl (lv_at hl 0 rfl) ?_
  refine lv_iload hx hb dL_law_1012 (lv_at hl 4 rfl) ?_
  refine lv_iconst (v := nI 2) hx hb dL_law_1014 (by decide) ?_
  refine lv_iadd hx hb dL_law_1015 ?_
  rw [nI_add i 2]
  refine r_sld hx hb hscr hbl hbA hS hL (j := i + 2) (by omega) dL_law_1016 ?_
  refine lv_aload_n hx hb dL_law_1017 rfl (lv_at hl 3 rfl) ?_
  have hfX := A_free hDX hS hA
  refine va_calli (vx_runSW (As := [.ref (adC 0), .int (xs (i + 1)), .int (xs (i + 2)), .ref qo]) (rest := []) ⟨hx, hb, hml, hown, hts⟩ (c_L_foresee l hst D cs adC J qo o H.size (xs (i + 1)) (xs (i + 2)) N hIV hR hR2) (vx_cwSW 4 hts gL_law_L_foresee rfl rfl rfl (by decide +kernel) ⟨Nat.le_of_ble_eq_true rfl, Nat.le_of_ble_eq_true rfl⟩) (h_preS hPX hDX hK hN (hXW.at hS) hfX) rfl rfl hl.1 rfl (lv_room (Nat.le_of_ble_eq_true rfl)) dL_law_1018 ⟨rc (by omega), rs (by omega)⟩) hS (fun q _ h => hfX q h) hfX (fun r u t9 H9 locs ht9 hvm9 hw9 hB9 hz9 hk9 hS => ?_)
  obtain ⟨rfl, hFX, hans⟩ := hw9
  rw [ht9] at hB9
  have hPM := M_keep hap hPM hk9
  have hapu := Ap_lX (J := u.1) (o' := u.2) hap
  have hDX := lX_D (J := u.1) (o' := u.2) hDX
  refine lv_istore (lv' := [(5, .int (nI (thZ_fs (xs (i + 1)) (xs (i + 2))))), (0, .ref b), (1, .ref (adC 0)), (2, .ref (adM 0)), (3, .ref qo), (4, .int (nI i))]) hx hb dL_law_1021 hl (by decide) rfl (fun ls hl => ?_)
  refine lv_aload_n hx hb dL_law_1023 rfl (lv_at hl 3 rfl) ?_
  refine lv_aload_n hx hb dL_law_1024 rfl (lv_at hl 1 rfl) ?_
  refine lv_iload hx hb dL_law_1025 (lv_at hl 5 rfl) ?_
  refine lv_iconst (v := nI 1) hx hb dL_law_1027 (by decide) ?_
  refine lv_iadd hx hb dL_law_1028 ?_
  rw [nI_add i 1]
  refine r_sld hx hb hscr hbl hbA hS hL (j := i + 1) (by omega) dL_law_1029 ?_
  refine lv_aload_n hx hb dL_law_1030 rfl (lv_at hl 1 rfl) ?_
  refine lv_iload hx hb dL_law_1031 (lv_at hl 5 rfl) ?_
  refine lv_iconst (v := nI 2) hx hb dL_law_1033 (by decide) ?_
  refine lv_iadd hx hb dL_law_1034 ?_
  rw [nI_add i 2]
  refine r_sld hx hb hscr hbl hbA hS hL (j := i + 2) (by omega) dL_law_1035 ?_
  refine g_calliE hB9 hapu hDM hS hA (va_runV (As := [.int (xs (i + 1)), .int (xs (i + 2))]) (rest := []) ⟨hx, hb, hml, hown, hts⟩ (c_X6_foresee l D cs adM V H9.size 0 rfl (xs (i + 1)) (xs (i + 2)) 26 (ahd J 0) N (hRl.sm (ahd_sm J 0) hN8) (hIV.sm (ahd_sm J 0))) (cwV 2 hts gL_law_X6_foresee rfl rfl rfl (by decide +kernel) ⟨Nat.le_of_ble_eq_true rfl, Nat.le_of_ble_eq_true rfl⟩) (g_preVE hPM hDM hK hN hAO (k := 0) rfl (by decide) rfl rfl rfl rfl) rfl rfl hl.1 rfl (lv_room (Nat.le_of_ble_eq_true rfl)) dL_law_1036 ⟨rc (by omega), rs (by omega)⟩) (fun b2 v2 H locs hw9 hPX hPM hDM hapu hS => ?_)
  obtain ⟨hm2, hRl2, hth2, hb2⟩ := hw9
  rw [← hm2] at hl
  refine lv_istore (lv' := [(6, .int b2), (5, .int (nI (thZ_fs (xs (i + 1)) (xs (i + 2))))), (0, .ref b), (1, .ref (adC 0)), (2, .ref (v2.1 0)), (3, .ref qo), (4, .int (nI i))]) hx hb dL_law_1039 hl (by decide) rfl (fun ls hl => ?_)
  refine lv_aload_n hx hb dL_law_1041 rfl (lv_at hl 4 rfl) ?_
  refine g_callFK (F := f_X6_thrown v2.2 0) hPX hapu hDM hS hA (va_runV (As := []) (rest := []) ⟨hx, hb, hml, hown, hts⟩ (c_X6_thrown l D cs v2.1 v2.2 H.size 0 rfl) (cwV 0 hts gL_law_X6_thrown rfl rfl rfl (by decide +kernel) ⟨Nat.le_of_ble_eq_true rfl, Nat.le_of_ble_eq_true rfl⟩) (g_preV hPM hDM hK hN (k := 0) rfl (by decide) rfl rfl rfl rfl) rfl rfl hl.1 rfl (lv_room (Nat.le_of_ble_eq_true rfl)) dL_law_1042 ⟨rc (by omega), rs (by omega)⟩) (fun H locs hPX hPM hDM hS => ?_)
  refine lv_iload hx hb dL_law_1045 (lv_at hl 1 rfl) ?_
  refine lv_icmp_eq (tgt := 1052) hx hb dL_law_1047 (by decide) (fun _ => ?_) (fun y => absurd hth2 y)
  have hLI : LI u.1 v2.2 N := LI.of (J' := J) hFX hIV (hRl2.sm (ahd_sm J 0).symm hN8)
  have hend : ∀ (H' : Heap) (locs' : List Loc) (ls' : Array Slot) (C' Z' : Nat), va_P D vwCl (lX cs adC u.1 qo u.2) H' → va_P D vwCl (gw kM cs v2.1 v2.2) H' → va_S A s.heap H' locs' → lv_has ls' 9 [(0, .ref b), (1, .ref (adC 0)), (2, .ref (v2.1 0)), (3, .ref qo), (4, .int (nI i))] → C' ≤ C + 10 → Z' ≤ Z + 1100 → W pg l e room_1 s m #[Value.ref b] below meth c H' locs' C' Z' Q (F0 m 1195 ls' []) := fun H' locs' ls' C' Z' h1 h2 h3 h4 h5 h6 => kk v2.1 u.1 v2.2 N u.2 H' locs' ls' C' Z' ⟨hLI, h1, hDX, h2, hDM, hapu, hm2⟩ h3 (by rw [hm2] at h4; exact h4) h5 h6
  refine lv_iload hx hb dL_law_1052 (lv_at hl 1 rfl) ?_
  by_cases hz : thZ_fs (xs (i + 1)) (xs (i + 2)) = 0
  · refine lv_if_ne (tgt := 1069) hx hb dL_law_1054 (by decide) (fun y => absurd (show nI (thZ_fs (xs (i + 1)) (xs (i + 2))) = 0 from by rw [hz]; rfl) y) (fun _ => ?_)
    obtain ⟨a9, ha9, ho9⟩ := hans hz
    have hb9 := hb2 hz
    have hab : a9 = b2 := (ha9.trans hb9.symm)
    refine lv_aload_n hx hb dL_law_1057 rfl (lv_at hl 5 rfl) ?_
    refine lv_iconst (v := nI 0) hx hb dL_law_1058 (by decide) ?_
    refine va_lald hx hb hK hPX (gw kC cs adC u.1).length 3 (app_rt (k := 0) rfl) rfl (vp_in_nI (by decide) (by decide)) dL_law_1059 ?_
    rw [nI_clamp (by decide), ho9]
    refine lv_iload hx hb dL_law_1060 (lv_at hl 0 rfl) ?_
    refine lv_i2l (v := b2.toInt64) hx hb dL_law_1062 rfl ?_
    refine W.lcmp hx hb dL_law_1063 ?_
    rw [hab, cmp_self]
    refine lv_if_eq (tgt := 1069) hx hb dL_law_1064 (by decide) (fun _ => ?_) (fun y => absurd rfl y)
    refine lv_goto (tgt := 1195) hx hb dL_law_1069 (by decide) ?_
    exact hend _ _ _ _ _ hPX hPM hS (lv_sub hl [2, 3, 4, 5, 6] rfl) (by omega) (by omega)
  · refine lv_if_ne (tgt := 1069) hx hb dL_law_1054 (by decide) (fun _ => ?_) (fun y => absurd y (nz b_fs hz))
    refine lv_goto (tgt := 1195) hx hb dL_law_1069 (by decide) ?_
    exact hend _ _ _ _ _ hPX hPM hS (lv_sub hl [2, 3, 4, 5, 6] rfl) (by omega) (by omega)
set_option maxHeartbeats 4000000 in
set_option maxRecDepth 100000 in
theorem law_without {pg : Program} {l : Launch} {e : Env} {s : State} {m : MethodId} {below : List Frame} {meth : Method} {c : Code} {H : Heap} {locs : List Loc} {C Z : Nat} {Q : State → Prop} {ls : Array Slot} {D : va_G} {cs : Nat → ClassId} {adC adM : Nat → Nat} {qo mo b L i N : Nat} {xs : Nat → Int32} {A : Nat → Prop} {J V : Mm} {o : Nat → Int64}
    (X : LCx pg l s m c D cs A b L xs) (hi : i + 5 ≤ L) (hl : lv_has ls 9 [(0, .ref b), (1, .ref (adC 0)), (2, .ref mo), (3, .ref qo), (4, .int (nI i))]) (hLS : LSt D cs adC adM qo mo A J V N o H) (hS : va_S A s.heap H locs) (hC : C ≤ 90000) (hZ : Z ≤ 900000)
    (kk : ∀ (adM' : Nat → Nat) (J' V' : Mm) (N' : Nat) (o' : Nat → Int64) (H' : Heap) (locs' : List Loc) (ls' : Array Slot) (C' Z' : Nat), LSt D cs adC adM' qo mo A J' V' N' o' H' → va_S A s.heap H' locs' → lv_has ls' 9 [(0, .ref b), (1, .ref (adC 0)), (2, .ref mo), (3, .ref qo), (4, .int (nI i))] → C' ≤ C + 10 → Z' ≤ Z + 1100 → W pg l e room_1 s m #[Value.ref b] below meth c H' locs' C' Z' Q (F0 m 1195 ls' [])) : W pg l e room_1 s m #[Value.ref b] below meth c H locs C Z Q (F0 m 1072 ls []) := by
  obtain ⟨hx, hb, hml, hown, hts, hscr, hbl, hbA, hK, hN, hXW, hAO, hA, hL, hst⟩ := X
  obtain ⟨⟨hIV, hR, hR2, hRl⟩, hPX, hDX, hPM, hDM, hap, rfl⟩ := hLS
  have hN8 := hIV.1.2.1
  refine lv_aload_n hx hb dL_law_1072 rfl (lv_at hl 1 rfl) ?_
  refine lv_aload_n hx hb dL_law_1073 rfl (lv_at hl 0 rfl) ?_
  refine lv_iload hx hb dL_law_1074 (lv_at hl 4 rfl) ?_
  refine lv_iconst (v := nI 1) hx hb dL_law_1076 (by decide) ?_
  refine lv_iadd hx hb dL_law_1077 ?_
  rw [nI_add i 1]
  refine r_sld hx hb hscr hbl hbA hS hL (j := i + 1) (by omega) dL_law_1078 ?_
  refine lv_aload_n hx hb dL_law_1079 rfl (lv_at hl 0 rfl) ?_
  refine lv_iload hx hb dL_law_1080 (lv_at hl 4 rfl) ?_
  refine lv_iconst (v := nI 2) hx hb dL_law_1082 (by decide) ?_
  refine lv_iadd hx hb dL_law_1083 ?_
  rw [nI_add i 2]
  refine r_sld hx hb hscr hbl hbA hS hL (j := i + 2) (by omega) dL_law_1084 ?_
  refine lv_aload_n hx hb dL_law_1085 rfl (lv_at hl 3 rfl) ?_
  have hfX := A_free hDX hS hA
  refine va_calli (vx_runSW (As := [.ref (adC 0), .int (xs (i + 1)), .int (xs (i + 2)), .ref qo]) (rest := []) ⟨hx, hb, hml, hown, hts⟩ (c_L_without l hst D cs adC J qo o H.size (xs (i + 1)) (xs (i + 2)) N hIV hR hR2) (vx_cwSW 4 hts gL_law_L_without rfl rfl rfl (by decide +kernel) ⟨Nat.le_of_ble_eq_true rfl, Nat.le_of_ble_eq_true rfl⟩) (h_preS hPX hDX hK hN (hXW.at hS) hfX) rfl rfl hl.1 rfl (lv_room (Nat.le_of_ble_eq_true rfl)) dL_law_1086 ⟨rc (by omega), rs (by omega)⟩) hS (fun q _ h => hfX q h) hfX (fun r u t9 H9 locs ht9 hvm9 hw9 hB9 hz9 hk9 hS => ?_)
  obtain ⟨rfl, hFX, hans⟩ := hw9
  rw [ht9] at hB9
  have hPM := M_keep hap hPM hk9
  have hapu := Ap_lX (J := u.1) (o' := u.2) hap
  have hDX := lX_D (J := u.1) (o' := u.2) hDX
  refine lv_istore (lv' := [(5, .int (nI (th_X5_placeOf (xs (i + 1)) (xs (i + 2))))), (0, .ref b), (1, .ref (adC 0)), (2, .ref (adM 0)), (3, .ref qo), (4, .int (nI i))]) hx hb dL_law_1089 hl (by decide) rfl (fun ls hl => ?_)
  refine lv_aload_n hx hb dL_law_1091 rfl (lv_at hl 3 rfl) ?_
  refine lv_aload_n hx hb dL_law_1092 rfl (lv_at hl 1 rfl) ?_
  refine lv_iload hx hb dL_law_1093 (lv_at hl 5 rfl) ?_
  refine lv_iconst (v := nI 1) hx hb dL_law_1095 (by decide) ?_
  refine lv_iadd hx hb dL_law_1096 ?_
  rw [nI_add i 1]
  refine r_sld hx hb hscr hbl hbA hS hL (j := i + 1) (by omega) dL_law_1097 ?_
  refine lv_aload_n hx hb dL_law_1098 rfl (lv_at hl 1 rfl) ?_
  refine lv_iload hx hb dL_law_1099 (lv_at hl 5 rfl) ?_
  refine lv_iconst (v := nI 2) hx hb dL_law_1101 (by decide) ?_
  refine lv_iadd hx hb dL_law_1102 ?_
  rw [nI_add i 2]
  refine r_sld hx hb hscr hbl hbA hS hL (j := i + 2) (by omega) dL_law_1103 ?_
  refine g_calliK hB9 hapu hDM hS hA (va_runV (As := [.int (xs (i + 1)), .int (xs (i + 2))]) (rest := []) ⟨hx, hb, hml, hown, hts⟩ (c_X6_without l D cs adM V H9.size 0 rfl (xs (i + 1)) (xs (i + 2)) 1 J N hRl hIV) (cwV 2 hts gL_law_X6_without rfl rfl rfl (by decide +kernel) ⟨Nat.le_of_ble_eq_true rfl, Nat.le_of_ble_eq_true rfl⟩) (g_preV hPM hDM hK hN (k := 0) rfl (by decide) rfl rfl rfl rfl) rfl rfl hl.1 rfl (lv_room (Nat.le_of_ble_eq_true rfl)) dL_law_1104 ⟨rc (by omega), rs (by omega)⟩) (fun b2 V2 H locs hw9 hPX hPM hDM hS => ?_)
  obtain ⟨hRl2, hth2, hb2⟩ := hw9
  refine lv_istore (lv' := [(6, .int b2), (5, .int (nI (th_X5_placeOf (xs (i + 1)) (xs (i + 2))))), (0, .ref b), (1, .ref (adC 0)), (2, .ref (adM 0)), (3, .ref qo), (4, .int (nI i))]) hx hb dL_law_1107 hl (by decide) rfl (fun ls hl => ?_)
  refine lv_aload_n hx hb dL_law_1109 rfl (lv_at hl 4 rfl) ?_
  refine g_callFK (F := f_X6_thrown V2 0) hPX hapu hDM hS hA (va_runV (As := []) (rest := []) ⟨hx, hb, hml, hown, hts⟩ (c_X6_thrown l D cs adM V2 H.size 0 rfl) (cwV 0 hts gL_law_X6_thrown rfl rfl rfl (by decide +kernel) ⟨Nat.le_of_ble_eq_true rfl, Nat.le_of_ble_eq_true rfl⟩) (g_preV hPM hDM hK hN (k := 0) rfl (by decide) rfl rfl rfl rfl) rfl rfl hl.1 rfl (lv_room (Nat.le_of_ble_eq_true rfl)) dL_law_1110 ⟨rc (by omega), rs (by omega)⟩) (fun H locs hPX hPM hDM hS => ?_)
  refine lv_iload hx hb dL_law_1113 (lv_at hl 1 rfl) ?_
  refine lv_icmp_eq (tgt := 1120) hx hb dL_law_1115 (by decide) (fun _ => ?_) (fun y => absurd hth2 y)
  have hLI : LI u.1 V2 N := LI.of (J' := J) hFX hIV hRl2
  have hend : ∀ (H' : Heap) (locs' : List Loc) (ls' : Array Slot) (C' Z' : Nat), va_P D vwCl (lX cs adC u.1 qo u.2) H' → va_P D vwCl (gw kM cs adM V2) H' → va_S A s.heap H' locs' → lv_has ls' 9 [(0, .ref b), (1, .ref (adC 0)), (2, .ref (adM 0)), (3, .ref qo), (4, .int (nI i))] → C' ≤ C + 10 → Z' ≤ Z + 1100 → W pg l e room_1 s m #[Value.ref b] below meth c H' locs' C' Z' Q (F0 m 1195 ls' []) := fun H' locs' ls' C' Z' h1 h2 h3 h4 h5 h6 => kk adM u.1 V2 N u.2 H' locs' ls' C' Z' ⟨hLI, h1, hDX, h2, hDM, hapu, rfl⟩ h3 h4 h5 h6
  refine lv_iload hx hb dL_law_1120 (lv_at hl 1 rfl) ?_
  by_cases hz : th_X5_placeOf (xs (i + 1)) (xs (i + 2)) = 0
  · refine lv_if_ne (tgt := 1137) hx hb dL_law_1122 (by decide) (fun y => absurd (show nI (th_X5_placeOf (xs (i + 1)) (xs (i + 2))) = 0 from by rw [hz]; rfl) y) (fun _ => ?_)
    obtain ⟨a9, ha9, ho9⟩ := hans hz
    have hb9 := hb2 hz
    have hab : a9 = b2 := (ha9.trans hb9.symm)
    refine lv_aload_n hx hb dL_law_1125 rfl (lv_at hl 5 rfl) ?_
    refine lv_iconst (v := nI 0) hx hb dL_law_1126 (by decide) ?_
    refine va_lald hx hb hK hPX (gw kC cs adC u.1).length 3 (app_rt (k := 0) rfl) rfl (vp_in_nI (by decide) (by decide)) dL_law_1127 ?_
    rw [nI_clamp (by decide), ho9]
    refine lv_iload hx hb dL_law_1128 (lv_at hl 0 rfl) ?_
    refine lv_i2l (v := b2.toInt64) hx hb dL_law_1130 rfl ?_
    refine W.lcmp hx hb dL_law_1131 ?_
    rw [hab, cmp_self]
    refine lv_if_eq (tgt := 1137) hx hb dL_law_1132 (by decide) (fun _ => ?_) (fun y => absurd rfl y)
    refine lv_goto (tgt := 1195) hx hb dL_law_1137 (by decide) ?_
    exact hend _ _ _ _ _ hPX hPM hS (lv_sub hl [2, 3, 4, 5, 6] rfl) (by omega) (by omega)
  · refine lv_if_ne (tgt := 1137) hx hb dL_law_1122 (by decide) (fun _ => ?_) (fun y => absurd y (nz b_place hz))
    refine lv_goto (tgt := 1195) hx hb dL_law_1137 (by decide) ?_
    exact hend _ _ _ _ _ hPX hPM hS (lv_sub hl [2, 3, 4, 5, 6] rfl) (by omega) (by omega)
