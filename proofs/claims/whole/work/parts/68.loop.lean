theorem Ap_side {cs : Nat → ClassId} {adC adM : Nat → Nat} {J V : Mm} {qo : Nat} {o : Nat → Int64} {A : Nat → Prop} (hD : va_D A (lX cs adC J qo o)) (hap : Ap kM adM (lX cs adC J qo o)) : Ap kC adC ([(qo, lgE cs o)] ++ gw kM cs adM V) := fun j q hj i hi => by
  by_cases h : j < 1
  · rw [List.getElem?_append_left (by simpa using h)] at hj
    exact Ap.of hD j q hj i hi
  · rw [List.getElem?_append_right (by simpa using Nat.le_of_not_lt h)] at hj
    intro e
    obtain ⟨h1, h2⟩ := gw_inv hj
    have h3 : (lX cs adC J qo o)[i]? = some (adC i, cw cs (kC.getD i 0) (fun d => adC (i + d)) (J i)) := app_lt (gw_get hi)
    exact hap i _ h3 _ h1 (e.symm.trans h2)
set_option maxHeartbeats 4000000 in
set_option maxRecDepth 100000 in
theorem law_light {pg : Program} {l : Launch} {e : Env} {s : State} {m : MethodId} {below : List Frame} {meth : Method} {c : Code} {H : Heap} {locs : List Loc} {C Z : Nat} {Q : State → Prop} {ls : Array Slot} {D : va_G} {cs : Nat → ClassId} {adC adM : Nat → Nat} {qo mo b L i N : Nat} {xs : Nat → Int32} {A : Nat → Prop} {J V : Mm} {o : Nat → Int64}
    (X : LCx pg l s m c D cs A b L xs) (hi : i + 5 ≤ L) (hl : lv_has ls 9 [(0, .ref b), (1, .ref (adC 0)), (2, .ref mo), (3, .ref qo), (4, .int (nI i))]) (hLS : LSt D cs adC adM qo mo A J V N o H) (hS : va_S A s.heap H locs) (hC : C ≤ 90000) (hZ : Z ≤ 900000)
    (kk : ∀ (adM' : Nat → Nat) (J' V' : Mm) (N' : Nat) (o' : Nat → Int64) (H' : Heap) (locs' : List Loc) (ls' : Array Slot) (C' Z' : Nat), LSt D cs adC adM' qo mo A J' V' N' o' H' → va_S A s.heap H' locs' → lv_has ls' 9 [(0, .ref b), (1, .ref (adC 0)), (2, .ref mo), (3, .ref qo), (4, .int (nI i))] → C' ≤ C + 10 → Z' ≤ Z + 1100 → W pg l e room_1 s m #[Value.ref b] below meth c H' locs' C' Z' Q (F0 m 1195 ls' [])) : W pg l e room_1 s m #[Value.ref b] below meth c H locs C Z Q (F0 m 1140 ls []) := by
  obtain ⟨hx, hb, hml, hown, hts, hscr, hbl, hbA, hK, hN, hXW, hAO, hA, hL, hst⟩ := X
  obtain ⟨⟨hIV, hR, hR2, hRl⟩, hPX, hDX, hPM, hDM, hap, rfl⟩ := hLS
  have hN8 := hIV.1.2.1
  have hsd := Ap_side (V := V) hDX hap
  refine lv_aload_n hx hb dL_law_1140 rfl (lv_at hl 1 rfl) ?_
  refine g_calldK ((P_right hPX).app hPM) hsd (D_left hDX) hS hA (va_runV (As := []) (rest := []) ⟨hx, hb, hml, hown, hts⟩ (c_X5_light l D cs adC J H.size 0 rfl N hIV.1 hR) (cwV 0 hts gL_law_X5_light rfl rfl rfl (by decide +kernel) ⟨Nat.le_of_ble_eq_true rfl, Nat.le_of_ble_eq_true rfl⟩) (g_preV (P_left hPX) (D_left hDX) hK hN (k := 0) rfl (by decide) rfl rfl rfl rfl) rfl rfl hl.1 rfl (lv_room (Nat.le_of_ble_eq_true rfl)) dL_law_1141 ⟨rc (by omega), rs (by omega)⟩) (fun r u H locs hw9 hPs hPC hDC hS => ?_)
  obtain ⟨hE, rfl⟩ := hw9
  have hFX : FX 0 u J := FX.of hE hR2
  have hPX := hPC.app (P_left hPs)
  have hPM := P_right hPs
  have hap2 := Ap_lX (J := u) (o' := o) hap
  refine lv_dstore (lv' := [(5, .double (lightF J (0 + 1) N)), (0, .ref b), (1, .ref (adC 0)), (2, .ref (adM 0)), (3, .ref qo), (4, .int (nI i))]) hx hb dL_law_1144 hl (by decide) rfl (fun ls hl => ?_)
  refine lv_aload_n hx hb dL_law_1146 rfl (lv_at hl 3 rfl) ?_
  refine g_calldK hPX hap2 hDM hS hA (va_runV (As := []) (rest := []) ⟨hx, hb, hml, hown, hts⟩ (c_X6_light l D cs adM V H.size 0 rfl 1 J N hRl hIV) (cwV 0 hts gL_law_X6_light rfl rfl rfl (by decide +kernel) ⟨Nat.le_of_ble_eq_true rfl, Nat.le_of_ble_eq_true rfl⟩) (g_preV hPM hDM hK hN (k := 0) rfl (by decide) rfl rfl rfl rfl) rfl rfl hl.1 rfl (lv_room (Nat.le_of_ble_eq_true rfl)) dL_law_1147 ⟨rc (by omega), rs (by omega)⟩) (fun r2 V2 H locs hw9 hPX hPM hDM hS => ?_)
  obtain ⟨hRl2, _, rfl⟩ := hw9
  have hLI : LI u V2 N := LI.of (J' := J) hFX hIV hRl2
  have hend : ∀ (ls' : Array Slot) (C' Z' : Nat), lv_has ls' 9 [(0, .ref b), (1, .ref (adC 0)), (2, .ref (adM 0)), (3, .ref qo), (4, .int (nI i))] → C' ≤ C + 10 → Z' ≤ Z + 1100 → W pg l e room_1 s m #[Value.ref b] below meth c H locs C' Z' Q (F0 m 1195 ls' []) := fun ls' C' Z' h4 h5 h6 => kk adM u V2 N o H locs ls' C' Z' ⟨hLI, hPX, lX_D (J := u) (o' := o) hDX, hPM, hDM, hap2, rfl⟩ hS h4 h5 h6
  refine lv_dstore (lv' := [(7, .double (lightF J 1 N)), (5, .double (lightF J (0 + 1) N)), (0, .ref b), (1, .ref (adC 0)), (2, .ref (adM 0)), (3, .ref qo), (4, .int (nI i))]) hx hb dL_law_1150 hl (by decide) rfl (fun ls hl => ?_)
  refine lv_dload hx hb dL_law_1152 (lv_at hl 1 rfl) ?_
  refine lv_dload hx hb dL_law_1154 (lv_at hl 0 rfl) ?_
  refine lv_dcmp hx hb dL_law_1156 ?_
  obtain ⟨v, hv0⟩ : ∃ v, v = Op.cmpValue (FP.dcmp (lightF J 1 N) (lightF J 1 N)) CmpOp.l := ⟨_, rfl⟩
  rw [show Op.cmpValue (FP.dcmp (lightF J (0 + 1) N) (lightF J 1 N)) CmpOp.l = v from hv0.symm]
  refine lv_if_eq (tgt := 1178) hx hb dL_law_1157 (by decide) (fun hv => ?_) (fun hv => ?_)
  · refine lv_goto (tgt := 1195) hx hb dL_law_1178 (by decide) ?_
    exact hend _ _ _ (lv_sub hl [2, 3, 4, 5, 6] rfl) (by omega) (by omega)
  · refine lv_dload hx hb dL_law_1160 (lv_at hl 1 rfl) ?_
    refine lv_dload hx hb dL_law_1162 (lv_at hl 1 rfl) ?_
    refine lv_dcmp hx hb dL_law_1164 ?_
    rw [show Op.cmpValue (FP.dcmp (lightF J (0 + 1) N) (lightF J (0 + 1) N)) CmpOp.l = v from hv0.symm]
    refine lv_if_eq (tgt := 1176) hx hb dL_law_1165 (by decide) (fun h0 => absurd h0 hv) (fun _ => ?_)
    refine lv_dload hx hb dL_law_1168 (lv_at hl 0 rfl) ?_
    refine lv_dload hx hb dL_law_1170 (lv_at hl 0 rfl) ?_
    refine lv_dcmp hx hb dL_law_1172 ?_
    rw [← hv0]
    refine lv_if_ne (tgt := 1178) hx hb dL_law_1173 (by decide) (fun _ => ?_) (fun y => absurd y hv)
    refine lv_goto (tgt := 1195) hx hb dL_law_1178 (by decide) ?_
    exact hend _ _ _ (lv_sub hl [2, 3, 4, 5, 6] rfl) (by omega) (by omega)
set_option maxHeartbeats 4000000 in
set_option maxRecDepth 100000 in
theorem law_digest {pg : Program} {l : Launch} {e : Env} {s : State} {m : MethodId} {below : List Frame} {meth : Method} {c : Code} {H : Heap} {locs : List Loc} {C Z : Nat} {Q : State → Prop} {ls : Array Slot} {D : va_G} {cs : Nat → ClassId} {adC adM : Nat → Nat} {qo mo b L i N : Nat} {xs : Nat → Int32} {A : Nat → Prop} {J V : Mm} {o : Nat → Int64}
    (X : LCx pg l s m c D cs A b L xs) (hi : i + 5 ≤ L) (hl : lv_has ls 9 [(0, .ref b), (1, .ref (adC 0)), (2, .ref mo), (3, .ref qo), (4, .int (nI i))]) (hLS : LSt D cs adC adM qo mo A J V N o H) (hS : va_S A s.heap H locs) (hC : C ≤ 90000) (hZ : Z ≤ 900000)
    (kk : ∀ (adM' : Nat → Nat) (J' V' : Mm) (N' : Nat) (o' : Nat → Int64) (H' : Heap) (locs' : List Loc) (ls' : Array Slot) (C' Z' : Nat), LSt D cs adC adM' qo mo A J' V' N' o' H' → va_S A s.heap H' locs' → lv_has ls' 9 [(0, .ref b), (1, .ref (adC 0)), (2, .ref mo), (3, .ref qo), (4, .int (nI i))] → C' ≤ C + 10 → Z' ≤ Z + 1100 → W pg l e room_1 s m #[Value.ref b] below meth c H' locs' C' Z' Q (F0 m 1195 ls' [])) : W pg l e room_1 s m #[Value.ref b] below meth c H locs C Z Q (F0 m 1181 ls []) := by
  obtain ⟨hx, hb, hml, hown, hts, hscr, hbl, hbA, hK, hN, hXW, hAO, hA, hL, hst⟩ := X
  obtain ⟨⟨hIV, hR, hR2, hRl⟩, hPX, hDX, hPM, hDM, hap, rfl⟩ := hLS
  have hN8 := hIV.1.2.1
  have hsd := Ap_side (V := V) hDX hap
  refine lv_aload_n hx hb dL_law_1181 rfl (lv_at hl 1 rfl) ?_
  refine g_calllK ((P_right hPX).app hPM) hsd (D_left hDX) hS hA (va_runV (As := []) (rest := []) ⟨hx, hb, hml, hown, hts⟩ (c_X5_digest l D cs adC J H.size 0 rfl N hIV.1 hR) (cwV 0 hts gL_law_X5_digest rfl rfl rfl (by decide +kernel) ⟨Nat.le_of_ble_eq_true rfl, Nat.le_of_ble_eq_true rfl⟩) (g_preV (P_left hPX) (D_left hDX) hK hN (k := 0) rfl (by decide) rfl rfl rfl rfl) rfl rfl hl.1 rfl (lv_room (Nat.le_of_ble_eq_true rfl)) dL_law_1182 ⟨rc (by omega), rs (by omega)⟩) (fun r u H locs hw9 hPs hPC hDC hS => ?_)
  obtain ⟨hE, rfl⟩ := hw9
  have hFX : FX 0 u J := FX.of hE hR2
  have hPX := hPC.app (P_left hPs)
  have hPM := P_right hPs
  have hap2 := Ap_lX (J := u) (o' := o) hap
  refine lv_aload_n hx hb dL_law_1185 rfl (lv_at hl 2 rfl) ?_
  refine g_calllK hPX hap2 hDM hS hA (va_runV (As := []) (rest := [.long (digF J (0 + 1) N)]) ⟨hx, hb, hml, hown, hts⟩ (c_X6_digest l D cs adM V H.size 0 rfl 1 J N hRl hIV) (cwV 0 hts gL_law_X6_digest rfl rfl rfl (by decide +kernel) ⟨Nat.le_of_ble_eq_true rfl, Nat.le_of_ble_eq_true rfl⟩) (g_preV hPM hDM hK hN (k := 0) rfl (by decide) rfl rfl rfl rfl) rfl rfl hl.1 rfl (lv_room (Nat.le_of_ble_eq_true rfl)) dL_law_1186 ⟨rc (by omega), rs (by omega)⟩) (fun r2 V2 H locs hw9 hPX hPM hDM hS => ?_)
  obtain ⟨hRl2, _, rfl⟩ := hw9
  have hLI : LI u V2 N := LI.of (J' := J) hFX hIV hRl2
  refine W.lcmp hx hb dL_law_1189 ?_
  rw [show lg_cmp (digF J (0 + 1) N) (digF J 1 N) = 0 from cmp_self _]
  refine lv_if_eq (tgt := 1195) hx hb dL_law_1190 (by decide) (fun _ => ?_) (fun y => absurd rfl y)
  exact kk adM u V2 N o H locs ls _ _ ⟨hLI, hPX, lX_D (J := u) (o' := o) hDX, hPM, hDM, hap2, rfl⟩ hS hl (by omega) (by omega)
theorem lt5 {L i : Nat} (hL : L ≤ 2560) (hi : i ≤ L) (h : L < i + 5) : nI L - nI 5 < nI i := by
  by_cases g : 5 ≤ L
  · rw [pk_sub g]
    exact (nI_ltI (by omega) (by omega)).mpr (by omega)
  · have key : ∀ L, L < 5 → ∀ i, i < 5 → i ≤ L → nI L - nI 5 < nI i := by decide
    exact key L (by omega) i (by omega) hi
theorem and15 (x : Int32) : ∃ j, j < 16 ∧ x &&& nI 15 = nI j := by
  refine ⟨x.toBitVec.toNat &&& 15, Nat.lt_succ_of_le Nat.and_le_right, ?_⟩
  apply Int32.toBitVec_inj.mp
  rw [Int32.toBitVec_and]
  show x.toBitVec &&& BitVec.ofNat 32 15 = BitVec.ofNat 32 (x.toBitVec.toNat &&& 15)
  apply BitVec.eq_of_toNat_eq
  rw [BitVec.toNat_and, BitVec.toNat_ofNat, BitVec.toNat_ofNat]
  have h1 : x.toBitVec.toNat &&& 15 ≤ 15 := Nat.and_le_right
  rw [Nat.mod_eq_of_lt (show 15 < 2 ^ 32 by decide), Nat.mod_eq_of_lt (by omega)]
set_option maxHeartbeats 4000000 in
set_option maxRecDepth 100000 in
theorem law_loop {pg : Program} {l : Launch} {e : Env} {s : State} {m : MethodId} {below : List Frame} {meth : Method} {c : Code} {Q : State → Prop} {D : va_G} {cs : Nat → ClassId} {adC : Nat → Nat} {qo mo b L : Nat} {xs : Nat → Int32} {A : Nat → Prop}
    (X : LCx pg l s m c D cs A b L xs) (hAq : ∀ q, A q → s.heap.size ≤ q) (hret : ∀ (H : Heap) (ls : Array Slot), W pg l e room_1 s m #[Value.ref b] below meth c H [] room_1.cells room_1.slots Q (F0 m 1202 ls [.int 1])) :
    ∀ (n i : Nat) (adM : Nat → Nat) (J V : Mm) (N : Nat) (o : Nat → Int64) (H : Heap) (locs : List Loc) (ls : Array Slot) (C Z : Nat), L + 1 ≤ i + n → i ≤ L → lv_has ls 9 [(0, .ref b), (1, .ref (adC 0)), (2, .ref mo), (3, .ref qo), (4, .int (nI i))] → LSt D cs adC adM qo mo A J V N o H → va_S A s.heap H locs → C ≤ 200 + 2 * i → Z ≤ 8000 + 220 * i → W pg l e room_1 s m #[Value.ref b] below meth c H locs C Z Q (F0 m 23 ls []) := by
  obtain ⟨hx, hb, hml, hown, hts, hscr, hbl, hbA, hK, hN, hXW, hAO, hA, hL, hst⟩ := id X
  intro n
  induction n with
  | zero => intro i _ _ _ _ _ _ _ _ _ _ h1 h2; exact absurd h1 (by omega)
  | succ n ih =>
    intro i adM J V N o H locs ls C Z hn hi hl hLS hS hC hZ
    refine lv_iload hx hb dL_law_23 (lv_at hl 4 rfl) ?_
    refine lv_aload_n hx hb dL_law_25 rfl (lv_at hl 0 rfl) ?_
    refine va_slen hx hb hscr hbl hbA hS dL_law_26 ?_
    refine lv_iconst (v := nI 5) hx hb dL_law_27 (by decide) ?_
    refine lv_isub hx hb dL_law_28 ?_
    refine lv_icmp_gt (tgt := 1201) hx hb dL_law_29 (by decide) (fun c_1 => ?_) (fun c_1 => ?_)
    · refine lv_iconst (v := 1) hx hb dL_law_1201 (by decide) ?_
      refine va_forget (fun q hq => hAq _ (hS.2.2 q hq)) ?_
      refine W.widen (k := room_1.cells) (n := room_1.slots) (Nat.le_trans (m := 90000) (by omega) (Nat.le_of_ble_eq_true rfl)) (Nat.le_trans (m := 900000) (by omega) (Nat.le_of_ble_eq_true rfl)) ?_
      exact hret _ _
    · have hi5 : i + 5 ≤ L := Nat.le_of_not_lt (fun y => c_1 (lt5 hL hi y))
      have kk : ∀ (adM' : Nat → Nat) (J' V' : Mm) (N' : Nat) (o' : Nat → Int64) (H' : Heap) (locs' : List Loc) (ls' : Array Slot) (C' Z' : Nat), LSt D cs adC adM' qo mo A J' V' N' o' H' → va_S A s.heap H' locs' → lv_has ls' 9 [(0, .ref b), (1, .ref (adC 0)), (2, .ref mo), (3, .ref qo), (4, .int (nI i))] → C' ≤ C + 10 → Z' ≤ Z + 1100 → W pg l e room_1 s m #[Value.ref b] below meth c H' locs' C' Z' Q (F0 m 1195 ls' []) := fun adM' J' V' N' o' H' locs' ls' C' Z' h1 h2 h3 h4 h5 => by
        refine lv_iinc (v := nI (i + 5)) (lv' := [(4, .int (nI (i + 5))), (0, .ref b), (1, .ref (adC 0)), (2, .ref mo), (3, .ref qo)]) hx hb dL_law_1195 h3 (k := 4) rfl (nI_add i 5) (by decide) rfl (fun ls hl => ?_)
        refine lv_goto (tgt := 23) hx hb dL_law_1198 (by decide) ?_
        exact ih (i + 5) adM' J' V' N' o' H' locs' ls C' Z' (by omega) (by omega) (lv_sub hl [1, 2, 3, 4, 0] rfl) h1 h2 (by omega) (by omega)
      refine lv_aload_n hx hb dL_law_32 rfl (lv_at hl 0 rfl) ?_
      refine lv_iload hx hb dL_law_33 (lv_at hl 4 rfl) ?_
      refine r_sld hx hb hscr hbl hbA hS hL (j := i) (by omega) dL_law_35 ?_
      refine lv_bipush (v := nI 15) hx hb dL_law_36 (by decide) ?_
      refine lv_iand hx hb dL_law_38 ?_
      obtain ⟨j, hj, ej⟩ := and15 (xs i)
      rw [ej]
      rcases (show j = 0 ∨ j = 1 ∨ j = 2 ∨ j = 3 ∨ j = 4 ∨ j = 5 ∨ j = 6 ∨ j = 7 ∨ j = 8 ∨ j = 9 ∨ j = 10 ∨ j = 11 ∨ j = 12 ∨ j = 13 ∨ j = 14 ∨ j = 15 from by omega) with rfl | rfl | rfl | rfl | rfl | rfl | rfl | rfl | rfl | rfl | rfl | rfl | rfl | rfl | rfl | rfl
      · refine lv_tableIn (tgt := 116) (off := 77) hx hb dL_law_39 (by decide) (by decide) (by decide) (by decide) ?_
        exact law_lay X hi5 hl hLS hS (by omega) (by omega) kk
      · refine lv_tableIn (tgt := 196) (off := 157) hx hb dL_law_39 (by decide) (by decide) (by decide) (by decide) ?_
        exact law_cell X hi5 hl hLS hS (by omega) (by omega) kk
      · refine lv_tableIn (tgt := 276) (off := 237) hx hb dL_law_39 (by decide) (by decide) (by decide) (by decide) ?_
        exact law_come X hi5 hl hLS hS (by omega) (by omega) kk
      · refine lv_tableIn (tgt := 368) (off := 329) hx hb dL_law_39 (by decide) (by decide) (by decide) (by decide) ?_
        exact law_order X hi5 hl hLS hS (by omega) (by omega) kk
      · refine lv_tableIn (tgt := 448) (off := 409) hx hb dL_law_39 (by decide) (by decide) (by decide) (by decide) ?_
        exact law_call X hi5 hl hLS hS (by omega) (by omega) kk
      · refine lv_tableIn (tgt := 504) (off := 465) hx hb dL_law_39 (by decide) (by decide) (by decide) (by decide) ?_
        exact law_tunneller X hi5 hl hLS hS (by omega) (by omega) kk
      · refine lv_tableIn (tgt := 572) (off := 533) hx hb dL_law_39 (by decide) (by decide) (by decide) (by decide) ?_
        exact law_pass X hi5 hl hLS hS (by omega) (by omega) kk
      · refine lv_tableIn (tgt := 628) (off := 589) hx hb dL_law_39 (by decide) (by decide) (by decide) (by decide) ?_
        exact law_count X hi5 hl hLS hS (by omega) (by omega) kk
      · refine lv_tableIn (tgt := 684) (off := 645) hx hb dL_law_39 (by decide) (by decide) (by decide) (by decide) ?_
        exact law_way X hi5 hl hLS hS (by omega) (by omega) kk
      · refine lv_tableIn (tgt := 776) (off := 737) hx hb dL_law_39 (by decide) (by decide) (by decide) (by decide) ?_
        exact law_dig X hi5 hl hLS hS (by omega) (by omega) kk
      · refine lv_tableIn (tgt := 868) (off := 829) hx hb dL_law_39 (by decide) (by decide) (by decide) (by decide) ?_
        exact law_caves X hi5 hl hLS hS (by omega) (by omega) kk
      · refine lv_tableIn (tgt := 924) (off := 885) hx hb dL_law_39 (by decide) (by decide) (by decide) (by decide) ?_
        exact law_meet X hi5 hl hLS hS (by omega) (by omega) kk
      · refine lv_tableIn (tgt := 1004) (off := 965) hx hb dL_law_39 (by decide) (by decide) (by decide) (by decide) ?_
        exact law_foresee X hi5 hl hLS hS (by omega) (by omega) kk
      · refine lv_tableIn (tgt := 1072) (off := 1033) hx hb dL_law_39 (by decide) (by decide) (by decide) (by decide) ?_
        exact law_without X hi5 hl hLS hS (by omega) (by omega) kk
      · refine lv_tableIn (tgt := 1140) (off := 1101) hx hb dL_law_39 (by decide) (by decide) (by decide) (by decide) ?_
        exact law_light X hi5 hl hLS hS (by omega) (by omega) kk
      · refine lv_tableIn (tgt := 1181) (off := 1142) hx hb dL_law_39 (by decide) (by decide) (by decide) (by decide) ?_
        exact law_digest X hi5 hl hLS hS (by omega) (by omega) kk
