abbrev MetF (l : Launch) (y : MethodName) (ws : List Cond) (rm : Room) (K : List Nat) (cs : Nat → ClassId) (D : va_G) (ad : Nat → Nat) (I : Mm) (sz : Nat) (av : List Value) (post : UInt64 → Mm → Prop) (mc ms : Nat) : Prop := Met l y ws rm (va_Pc av (wpre K cs D ad I sz)) (va_Qd post (wat K cs D ad (gA K ad sz)) (gA K ad sz)) mc ms (gA K ad sz)
section DROW
variable {p : Program} {l : Launch} {e : Env} {R : Room} {s : State} {m : MethodId} {args : Array Value} {below : List Frame} {meth : Method} {c : Code} {H : Heap} {locs : List Loc} {cells slots : Nat} {Q : State → Prop}
variable {cc : ByteArray} {pc : Nat} {ls : Array Slot} {rest st0 : List Value} {D : va_G} {K : List Nat} {cs : Nat → ClassId} {ad : Nat → Nat} {I : Mm} {A : Nat → Prop} {H0 : Heap} {a : Array Value} {mc ms : Nat} {sz : Nat}
theorem g_dret {post : UInt64 → Mm → Prop} {v : UInt64} (hx : p.tables.exec = Jvm.exec) (hb : c.code = cc) (hr : meth.sig.returnType = some .double) (hlocks : meth.locks = false) (hP : va_P D vwCl (gw K cs ad I) H) (hD : va_D (gA K ad sz) (gw K cs ad I)) (hS : va_S (gA K ad sz) s.heap H locs) (hpost : post v I) (hdg : decode cc pc = .ok (.dreturn, 1)) :
    W p l e R s m args below meth c H locs cells slots (MQ below (va_Qd post (wat K cs D ad (gA K ad sz)) (gA K ad sz)) args s cells slots (gA K ad sz)) (F0 m pc ls [.double v]) :=
  W.dret hx hb hr (fun t ht hW => ⟨⟨v, I, rfl, hpost, by rw [ht]; exact hP, hD⟩, hS.F ht⟩) hS.2.2 hdg hlocks
theorem g_calld {post : UInt64 → Mm → Prop} (hD : va_D A (gw K cs ad I)) (hS : va_S A H0 H locs) (hA : ∀ q, H0.size ≤ q → A q) (hr : va_Run p l e R s m args below meth c H locs cells slots mc ms (F0 m pc ls st0) rest (va_Qd post (wat K cs D ad (gA K ad H.size)) (gA K ad H.size) a) (gA K ad H.size))
    (kk : ∀ (r : UInt64) (u : Mm) (H1 : Heap) (locs1 : List Loc), post r u → va_P D vwCl (gw K cs ad u) H1 → va_D A (gw K cs ad u) → va_S A H0 H1 locs1 → W p l e R s m args below meth c H1 locs1 (cells + mc) (slots + ms) Q (F0 m (pc + 3) ls (.double r :: rest))) : W p l e R s m args below meth c H locs cells slots Q (F0 m pc ls st0) :=
  va_calld hr hS (fun q _ h => gA_free hD hS hA q h) (gA_free hD hS hA) (fun r u t H1 locs1 ht hvm hw hB hz1 hk1 hS1 => kk r u H1 locs1 hw (by rw [← ht]; exact hB.1) (hB.2.weaken (fun _ _ _ h => gA_free hD hS hA _ h)) hS1)
end DROW
def opN (I : Mm) (z : Nat) : Nat := cn (fun c => decide (I (z + 1 + 1) c = 0)) 256
noncomputable def liN (I : Mm) (z N : Nat) : Nat := cn (fun c => cd (litR I z N c)) 256
noncomputable def lightF (I : Mm) (z N : Nat) : UInt64 := if opN I z = 0 then FP.dconst0 else dvd (liN I z N) (opN I z)
theorem opN_le (I : Mm) (z : Nat) : opN I z ≤ 256 := cn_le _ _
theorem liN_le (I : Mm) (z N : Nat) : liN I z N ≤ 256 := cn_le _ _

set_option maxHeartbeats 4000000 in
set_option maxRecDepth 100000 in
theorem c_X5_light (l : Launch) (D : va_G) (cs : Nat → ClassId) (ad : Nat → Nat) (I : Mm) (sz : Nat) (k : Nat) (hk : kC.getD k 0 = 1) (N : Nat) (hw : WT I (k + 1) N) (hR : RX (k + 1) I) : MetF l yX5_light wsX5_light ({ frames := 4, cells := 0, slots := 0, locals := 90 }) kC cs D ad I sz [.ref (ad k)] (fun r u => EX (k + 1) u I ∧ r = lightF I (k + 1) N) 0 0 := by
  refine g_met (cc := cX5_light) (maxL := 2) (ret := (some .double)) (by decide) rfl (Nat.le_of_ble_eq_true rfl) ?_
  intro pg e s m args below meth c ls hx hb hr hml hts hown hlocks hsz hP hD hK hN hS hA hl
  have hown : s.vm.findClass RX5 = some m.cls := hown
  have hl : lv_has ls 2 [(0, .ref (ad k))] := hl
  have hN3 := hw.1
  have hN8 := hw.2.1
  refine lv_aload_n hx hb dX5_light_0 rfl (lv_at hl 0 rfl) ?_
  refine g_get (κ := 1) (ci := 5) (v := .ref (ad (k + 1))) (C := RX5) (T := TX5) (N := 3) hx hb hts hown hK hP (k := k) hk (by decide) rfl (fun _ h => List.mem_cons_of_mem _ (List.mem_append_left _ (List.mem_append_left _ (List.mem_append_left _ (List.mem_append_left _ (List.mem_append_right _ h)))))) rfl 0 (by decide) (hts _ (List.mem_of_getElem? (i := 1) rfl)) (fun _ h9 => h9) rfl dX5_light_1 ?_
  refine g_getN (κ := 2) (ci := 0) (v := .ref (ad (k + 1 + 1))) (C := RX0) (T := TX0) (N := 7) hx hb hts hown hK hP (k := (k + 1)) (kd_1_0 hk) (by decide) rfl (fun _ h => List.mem_cons_of_mem _ (List.mem_append_left _ (List.mem_append_left _ (List.mem_append_left _ (List.mem_append_right _ h))))) rfl 0 (by decide) (nwu16 hN) (fun _ h9 => h9) rfl dX5_light_4 ?_
  refine g_callF (F := f_X3_openCells I (k + 1 + 1)) hD hS hA (va_runV (As := []) (rest := []) ⟨hx, hb, hml, hown, hts⟩ (c_X3_openCells l D cs ad I s.heap.size (k + 1 + 1) (kd_2_0 (kd_1_0 hk))) (cwV 0 hts gX5_light_X3_openCells rfl rfl rfl (by decide +kernel) ⟨Nat.le_of_ble_eq_true rfl, Nat.le_of_ble_eq_true rfl⟩) (g_preV hP hD hK hN (k := (k + 1 + 1)) (kd_2_0 (kd_1_0 hk)) (by decide) rfl rfl rfl rfl) rfl rfl hl.1 rfl (lv_room (Nat.le_of_ble_eq_true rfl)) dX5_light_7 ⟨Nat.le_of_ble_eq_true rfl, Nat.le_of_ble_eq_true rfl⟩) (fun H locs hP hD hS => ?_)
  rw [show f_X3_openCells I (k + 1 + 1) = nI (opN I (k + 1)) from rfl]
  refine lv_istore_n (lv' := [(1, .int (nI (opN I (k + 1)))), (0, .ref (ad k))]) hx hb dX5_light_10 rfl hl (by decide) rfl (fun ls hl => ?_)
  have hop := opN_le I (k + 1)
  refine lv_iload_n hx hb dX5_light_11 rfl (lv_at hl 0 rfl) ?_
  refine lv_if_ne (tgt := 17) hx hb dX5_light_12 (by decide) (fun c_1 => ?_) (fun c_1 => ?_)
  · skip
    have nc_1 : ¬ (opN I (k + 1)) = 0 := fun z9_ => c_1 ((nI_eq (a := (opN I (k + 1))) (b := 0) (by omega) (by omega)).mpr z9_)
    refine lv_aload_n hx hb dX5_light_17 rfl (lv_at hl 1 rfl) ?_
    refine g_get (κ := 1) (ci := 5) (v := .ref (ad (k + 1))) (C := RX5) (T := TX5) (N := 3) hx hb hts hown hK hP (k := k) hk (by decide) rfl (fun _ h => List.mem_cons_of_mem _ (List.mem_append_left _ (List.mem_append_left _ (List.mem_append_left _ (List.mem_append_left _ (List.mem_append_right _ h)))))) rfl 0 (by decide) (hts _ (List.mem_of_getElem? (i := 1) rfl)) (fun _ h9 => h9) rfl dX5_light_18 ?_
    refine g_calli hD hS hA (va_runV (As := []) (rest := []) ⟨hx, hb, hml, hown, hts⟩ (c_X0_litOpenCells l D cs ad I H.size (k + 1) (kd_1_0 hk) N (hw.wz hR)) (cwV 0 hts gX5_light_X0_litOpenCells rfl rfl rfl (by decide +kernel) ⟨Nat.le_of_ble_eq_true rfl, Nat.le_of_ble_eq_true rfl⟩) (g_preV hP hD hK hN (k := (k + 1)) (kd_1_0 hk) (by decide) rfl rfl rfl rfl) rfl rfl hl.1 rfl (lv_room (Nat.le_of_ble_eq_true rfl)) dX5_light_21 ⟨Nat.le_of_ble_eq_true rfl, Nat.le_of_ble_eq_true rfl⟩) (fun ru2 u2 H locs hu2 hP hD hS => ?_)
    obtain ⟨hu2, hru2⟩ := hu2
    rw [hru2, show u2 (k + 1 + 5) 2 = nI (liN I (k + 1) N) from rq_cn (I := I) hu2.2.1 hu2.2.2]
    refine lv_i2d hx hb dX5_light_24 ?_
    refine lv_iload_n hx hb dX5_light_25 rfl (lv_at hl 0 rfl) ?_
    refine lv_i2d hx hb dX5_light_26 ?_
    refine lv_ddiv hx hb dX5_light_27 (dvd_ok (liN_le _ _ _) (opN_le _ _) nc_1) ?_
    exact g_dret (v := FP.ddiv (FP.i2d (nI (liN I (k + 1) N))) (FP.i2d (nI (opN I (k + 1))))) hx hb hr hlocks hP hD hS ⟨⟨hu2.1, hu2.2.1⟩, by simp only [lightF]; rw [if_neg nc_1]; rfl⟩ dX5_light_28
  · skip
    have nc_1 : (opN I (k + 1)) = 0 := (nI_eq (a := (opN I (k + 1))) (b := 0) (by omega) (by omega)).mp c_1
    refine lv_dconst0 hx hb dX5_light_15 ?_
    exact g_dret (v := FP.dconst0) hx hb hr hlocks hP hD hS ⟨⟨EqX.rf _ _, hR⟩, by simp only [lightF]; rw [if_pos nc_1]⟩ dX5_light_16

set_option maxHeartbeats 4000000 in
set_option maxRecDepth 100000 in
theorem c0_X5_count (l : Launch) (D : va_G) (cs : Nat → ClassId) (ad : Nat → Nat) (I : Mm) (sz : Nat) (k : Nat) (hk : kC.getD k 0 = 1) (w : Nat) (hw : w < 9) (N : Nat) (hw : WT I (k + 1) N) (hR : RX (k + 1) I) : MetI l yX5_count wsX5_count ({ frames := 4, cells := 0, slots := 0, locals := 92 }) kC cs D ad I sz [.ref (ad k), .int (nI w)] (fun r u => EX (k + 1) u I ∧ r = countF I (k + 1) N (nI w)) 0 0 := by
  refine g_met (cc := cX5_count) (maxL := 2) (ret := (some .int)) (by decide) rfl (Nat.le_of_ble_eq_true rfl) ?_
  intro pg e s m args below meth c ls hx hb hr hml hts hown hlocks hsz hP hD hK hN hS hA hl
  have hown : s.vm.findClass RX5 = some m.cls := hown
  have hl : lv_has ls 2 [(0, .ref (ad k)), (1, .int (nI w))] := hl
  have hN3 := hw.1
  have hN8 := hw.2.1
  obtain ⟨n0, q0, hq0⟩ := id hR
  refine lv_iload_n hx hb dX5_count_0 rfl (lv_at hl 1 rfl) ?_
  by_cases c_1 : (nI w) = nI 0
  · skip
    refine lv_tableIn (tgt := 52) (off := 51) hx hb dX5_count_1 (by rw [c_1]; decide) (by rw [c_1]; decide) (by rw [c_1]; decide) (by decide) ?_
    refine lv_aload_n hx hb dX5_count_52 rfl (lv_at hl 0 rfl) ?_
    refine g_get (κ := 1) (ci := 5) (v := .ref (ad (k + 1))) (C := RX5) (T := TX5) (N := 3) hx hb hts hown hK hP (k := k) hk (by decide) rfl (fun _ h => List.mem_cons_of_mem _ (List.mem_append_left _ (List.mem_append_left _ (List.mem_append_left _ (List.mem_append_left _ (List.mem_append_left _ (List.mem_append_right _ h))))))) rfl 0 (by decide) (hts _ (List.mem_of_getElem? (i := 3) rfl)) (fun _ h9 => h9) rfl dX5_count_53 ?_
    refine g_getN (κ := 2) (ci := 0) (v := .int (I (k + 1) 4)) (C := RX0) (T := TX0) (N := 7) hx hb hts hown hK hP (k := (k + 1)) (kd_1_0 hk) (by decide) rfl (fun _ h => List.mem_cons_of_mem _ (List.mem_append_left _ (List.mem_append_left _ (List.mem_append_left _ (List.mem_append_left _ (List.mem_append_right _ h)))))) rfl 4 (by decide) (nwu18 hN) (fun _ h9 => h9) rfl dX5_count_56 ?_
    exact g_iret (v := I (k + 1) 4) hx hb hr hlocks rfl hP hD hS ⟨⟨EqX.rf _ _, hR⟩, by simp only [countF]; rw [if_pos c_1]⟩ dX5_count_59
  · skip
    by_cases c_2 : (nI w) = nI 1
    · skip
      refine lv_tableIn (tgt := 60) (off := 59) hx hb dX5_count_1 (by rw [c_2]; decide) (by rw [c_2]; decide) (by rw [c_2]; decide) (by decide) ?_
      refine lv_aload_n hx hb dX5_count_60 rfl (lv_at hl 0 rfl) ?_
      refine g_get (κ := 1) (ci := 5) (v := .ref (ad (k + 1))) (C := RX5) (T := TX5) (N := 3) hx hb hts hown hK hP (k := k) hk (by decide) rfl (fun _ h => List.mem_cons_of_mem _ (List.mem_append_left _ (List.mem_append_left _ (List.mem_append_left _ (List.mem_append_left _ (List.mem_append_left _ (List.mem_append_right _ h))))))) rfl 0 (by decide) (hts _ (List.mem_of_getElem? (i := 3) rfl)) (fun _ h9 => h9) rfl dX5_count_61 ?_
      refine g_getN (κ := 2) (ci := 0) (v := .int (I (k + 1) 3)) (C := RX0) (T := TX0) (N := 7) hx hb hts hown hK hP (k := (k + 1)) (kd_1_0 hk) (by decide) rfl (fun _ h => List.mem_cons_of_mem _ (List.mem_append_left _ (List.mem_append_left _ (List.mem_append_left _ (List.mem_append_left _ (List.mem_append_right _ h)))))) rfl 3 (by decide) (nwu17 hN) (fun _ h9 => h9) rfl dX5_count_64 ?_
      exact g_iret (v := I (k + 1) 3) hx hb hr hlocks rfl hP hD hS ⟨⟨EqX.rf _ _, hR⟩, by simp only [countF]; rw [if_neg c_1, if_pos c_2]⟩ dX5_count_67
    · skip
      by_cases c_3 : (nI w) = nI 2
      · skip
        refine lv_tableIn (tgt := 68) (off := 67) hx hb dX5_count_1 (by rw [c_3]; decide) (by rw [c_3]; decide) (by rw [c_3]; decide) (by decide) ?_
        refine lv_aload_n hx hb dX5_count_68 rfl (lv_at hl 0 rfl) ?_
        refine g_get (κ := 1) (ci := 5) (v := .ref (ad (k + 1))) (C := RX5) (T := TX5) (N := 3) hx hb hts hown hK hP (k := k) hk (by decide) rfl (fun _ h => List.mem_cons_of_mem _ (List.mem_append_left _ (List.mem_append_left _ (List.mem_append_left _ (List.mem_append_left _ (List.mem_append_left _ (List.mem_append_right _ h))))))) rfl 0 (by decide) (hts _ (List.mem_of_getElem? (i := 3) rfl)) (fun _ h9 => h9) rfl dX5_count_69 ?_
        refine g_callF (F := f_X0_buriedCrew I (k + 1) N) hD hS hA (va_runV (As := []) (rest := []) ⟨hx, hb, hml, hown, hts⟩ (c_X0_buriedCrew l D cs ad I s.heap.size (k + 1) (kd_1_0 hk) N hN3 hN8) (cwV 0 hts gX5_count_X0_buriedCrew rfl rfl rfl (by decide +kernel) ⟨Nat.le_of_ble_eq_true rfl, Nat.le_of_ble_eq_true rfl⟩) (g_preV hP hD hK hN (k := (k + 1)) (kd_1_0 hk) (by decide) rfl rfl rfl rfl) rfl rfl hl.1 rfl (lv_room (Nat.le_of_ble_eq_true rfl)) dX5_count_72 ⟨Nat.le_of_ble_eq_true rfl, Nat.le_of_ble_eq_true rfl⟩) (fun H locs hP hD hS => ?_)
        exact g_iret (v := f_X0_buriedCrew I (k + 1) N) hx hb hr hlocks rfl hP hD hS ⟨⟨EqX.rf _ _, hR⟩, by simp only [countF]; rw [if_neg c_1, if_neg c_2, if_pos c_3]⟩ dX5_count_75
      · skip
        by_cases c_4 : (nI w) = nI 3
        · skip
          refine lv_tableIn (tgt := 76) (off := 75) hx hb dX5_count_1 (by rw [c_4]; decide) (by rw [c_4]; decide) (by rw [c_4]; decide) (by decide) ?_
          refine lv_aload_n hx hb dX5_count_76 rfl (lv_at hl 0 rfl) ?_
          refine g_get (κ := 1) (ci := 5) (v := .ref (ad (k + 1))) (C := RX5) (T := TX5) (N := 3) hx hb hts hown hK hP (k := k) hk (by decide) rfl (fun _ h => List.mem_cons_of_mem _ (List.mem_append_left _ (List.mem_append_left _ (List.mem_append_left _ (List.mem_append_left _ (List.mem_append_left _ (List.mem_append_right _ h))))))) rfl 0 (by decide) (hts _ (List.mem_of_getElem? (i := 3) rfl)) (fun _ h9 => h9) rfl dX5_count_77 ?_
          refine g_getN (κ := 2) (ci := 0) (v := .ref (ad (k + 1 + 1))) (C := RX0) (T := TX0) (N := 7) hx hb hts hown hK hP (k := (k + 1)) (kd_1_0 hk) (by decide) rfl (fun _ h => List.mem_cons_of_mem _ (List.mem_append_left _ (List.mem_append_left _ (List.mem_append_left _ (List.mem_append_left _ (List.mem_append_right _ h)))))) rfl 0 (by decide) (nwu16 hN) (fun _ h9 => h9) rfl dX5_count_80 ?_
          refine g_callF (F := f_X3_openCells I (k + 1 + 1)) hD hS hA (va_runV (As := []) (rest := []) ⟨hx, hb, hml, hown, hts⟩ (c_X3_openCells l D cs ad I s.heap.size (k + 1 + 1) (kd_2_0 (kd_1_0 hk))) (cwV 0 hts gX5_count_X3_openCells rfl rfl rfl (by decide +kernel) ⟨Nat.le_of_ble_eq_true rfl, Nat.le_of_ble_eq_true rfl⟩) (g_preV hP hD hK hN (k := (k + 1 + 1)) (kd_2_0 (kd_1_0 hk)) (by decide) rfl rfl rfl rfl) rfl rfl hl.1 rfl (lv_room (Nat.le_of_ble_eq_true rfl)) dX5_count_83 ⟨Nat.le_of_ble_eq_true rfl, Nat.le_of_ble_eq_true rfl⟩) (fun H locs hP hD hS => ?_)
          exact g_iret (v := f_X3_openCells I (k + 1 + 1)) hx hb hr hlocks rfl hP hD hS ⟨⟨EqX.rf _ _, hR⟩, by simp only [countF]; rw [if_neg c_1, if_neg c_2, if_neg c_3, if_pos c_4]⟩ dX5_count_86
        · skip
          by_cases c_5 : (nI w) = nI 4
          · skip
            refine lv_tableIn (tgt := 87) (off := 86) hx hb dX5_count_1 (by rw [c_5]; decide) (by rw [c_5]; decide) (by rw [c_5]; decide) (by decide) ?_
            refine lv_aload_n hx hb dX5_count_87 rfl (lv_at hl 0 rfl) ?_
            refine g_get (κ := 1) (ci := 5) (v := .ref (ad (k + 1))) (C := RX5) (T := TX5) (N := 3) hx hb hts hown hK hP (k := k) hk (by decide) rfl (fun _ h => List.mem_cons_of_mem _ (List.mem_append_left _ (List.mem_append_left _ (List.mem_append_left _ (List.mem_append_left _ (List.mem_append_left _ (List.mem_append_right _ h))))))) rfl 0 (by decide) (hts _ (List.mem_of_getElem? (i := 3) rfl)) (fun _ h9 => h9) rfl dX5_count_88 ?_
            refine g_getN (κ := 2) (ci := 0) (v := .ref (ad (k + 1 + 1))) (C := RX0) (T := TX0) (N := 7) hx hb hts hown hK hP (k := (k + 1)) (kd_1_0 hk) (by decide) rfl (fun _ h => List.mem_cons_of_mem _ (List.mem_append_left _ (List.mem_append_left _ (List.mem_append_left _ (List.mem_append_left _ (List.mem_append_right _ h)))))) rfl 0 (by decide) (nwu16 hN) (fun _ h9 => h9) rfl dX5_count_91 ?_
            refine g_callF (F := f_X3_postsSet I (k + 1 + 1)) hD hS hA (va_runV (As := []) (rest := []) ⟨hx, hb, hml, hown, hts⟩ (c_X3_postsSet l D cs ad I s.heap.size (k + 1 + 1) (kd_2_0 (kd_1_0 hk))) (cwV 0 hts gX5_count_X3_postsSet rfl rfl rfl (by decide +kernel) ⟨Nat.le_of_ble_eq_true rfl, Nat.le_of_ble_eq_true rfl⟩) (g_preV hP hD hK hN (k := (k + 1 + 1)) (kd_2_0 (kd_1_0 hk)) (by decide) rfl rfl rfl rfl) rfl rfl hl.1 rfl (lv_room (Nat.le_of_ble_eq_true rfl)) dX5_count_94 ⟨Nat.le_of_ble_eq_true rfl, Nat.le_of_ble_eq_true rfl⟩) (fun H locs hP hD hS => ?_)
            exact g_iret (v := f_X3_postsSet I (k + 1 + 1)) hx hb hr hlocks rfl hP hD hS ⟨⟨EqX.rf _ _, hR⟩, by simp only [countF]; rw [if_neg c_1, if_neg c_2, if_neg c_3, if_neg c_4, if_pos c_5]⟩ dX5_count_97
          · skip
            by_cases c_6 : (nI w) = nI 5
            · skip
              refine lv_tableIn (tgt := 98) (off := 97) hx hb dX5_count_1 (by rw [c_6]; decide) (by rw [c_6]; decide) (by rw [c_6]; decide) (by decide) ?_
              refine lv_aload_n hx hb dX5_count_98 rfl (lv_at hl 0 rfl) ?_
              refine g_get (κ := 1) (ci := 5) (v := .ref (ad (k + 1))) (C := RX5) (T := TX5) (N := 3) hx hb hts hown hK hP (k := k) hk (by decide) rfl (fun _ h => List.mem_cons_of_mem _ (List.mem_append_left _ (List.mem_append_left _ (List.mem_append_left _ (List.mem_append_left _ (List.mem_append_left _ (List.mem_append_right _ h))))))) rfl 0 (by decide) (hts _ (List.mem_of_getElem? (i := 3) rfl)) (fun _ h9 => h9) rfl dX5_count_99 ?_
              refine g_getN (κ := 2) (ci := 0) (v := .int (I (k + 1) 5)) (C := RX0) (T := TX0) (N := 7) hx hb hts hown hK hP (k := (k + 1)) (kd_1_0 hk) (by decide) rfl (fun _ h => List.mem_cons_of_mem _ (List.mem_append_left _ (List.mem_append_left _ (List.mem_append_left _ (List.mem_append_left _ (List.mem_append_right _ h)))))) rfl 5 (by decide) (nwu19 hN) (fun _ h9 => h9) rfl dX5_count_102 ?_
              exact g_iret (v := I (k + 1) 5) hx hb hr hlocks rfl hP hD hS ⟨⟨EqX.rf _ _, hR⟩, by simp only [countF]; rw [if_neg c_1, if_neg c_2, if_neg c_3, if_neg c_4, if_neg c_5, if_pos c_6]⟩ dX5_count_105
            · skip
              by_cases c_7 : (nI w) = nI 6
              · skip
                refine lv_tableIn (tgt := 106) (off := 105) hx hb dX5_count_1 (by rw [c_7]; decide) (by rw [c_7]; decide) (by rw [c_7]; decide) (by decide) ?_
                refine lv_aload_n hx hb dX5_count_106 rfl (lv_at hl 0 rfl) ?_
                refine g_get (κ := 1) (ci := 5) (v := .ref (ad (k + 1))) (C := RX5) (T := TX5) (N := 3) hx hb hts hown hK hP (k := k) hk (by decide) rfl (fun _ h => List.mem_cons_of_mem _ (List.mem_append_left _ (List.mem_append_left _ (List.mem_append_left _ (List.mem_append_left _ (List.mem_append_left _ (List.mem_append_right _ h))))))) rfl 0 (by decide) (hts _ (List.mem_of_getElem? (i := 3) rfl)) (fun _ h9 => h9) rfl dX5_count_107 ?_
                refine g_calli hD hS hA (va_runV (As := []) (rest := []) ⟨hx, hb, hml, hown, hts⟩ (c_X0_litCells l D cs ad I s.heap.size (k + 1) (kd_1_0 hk) N (hw.wz hR)) (cwV 0 hts gX5_count_X0_litCells rfl rfl rfl (by decide +kernel) ⟨Nat.le_of_ble_eq_true rfl, Nat.le_of_ble_eq_true rfl⟩) (g_preV hP hD hK hN (k := (k + 1)) (kd_1_0 hk) (by decide) rfl rfl rfl rfl) rfl rfl hl.1 rfl (lv_room (Nat.le_of_ble_eq_true rfl)) dX5_count_110 ⟨Nat.le_of_ble_eq_true rfl, Nat.le_of_ble_eq_true rfl⟩) (fun ru8 u8 H locs hu8 hP hD hS => ?_)
                obtain ⟨hu8, hru8⟩ := hu8
                rw [hru8]
                exact g_iret (v := nI (cn (fun c => decide (¬ f_X0_shinesOn u8 (k + 1) (nI c) = 0)) 256)) hx hb hr hlocks rfl hP hD hS ⟨⟨hu8.1, hu8.2.1⟩, by simp only [countF]; rw [if_neg c_1, if_neg c_2, if_neg c_3, if_neg c_4, if_neg c_5, if_neg c_6, if_pos c_7]; exact litn_ans hu8⟩ dX5_count_113
              · skip
                by_cases c_9 : (nI w) = nI 7
                · skip
                  refine lv_tableIn (tgt := 114) (off := 113) hx hb dX5_count_1 (by rw [c_9]; decide) (by rw [c_9]; decide) (by rw [c_9]; decide) (by decide) ?_
                  refine lv_aload_n hx hb dX5_count_114 rfl (lv_at hl 0 rfl) ?_
                  refine g_get (κ := 1) (ci := 5) (v := .ref (ad (k + 1))) (C := RX5) (T := TX5) (N := 3) hx hb hts hown hK hP (k := k) hk (by decide) rfl (fun _ h => List.mem_cons_of_mem _ (List.mem_append_left _ (List.mem_append_left _ (List.mem_append_left _ (List.mem_append_left _ (List.mem_append_left _ (List.mem_append_right _ h))))))) rfl 0 (by decide) (hts _ (List.mem_of_getElem? (i := 3) rfl)) (fun _ h9 => h9) rfl dX5_count_115 ?_
                  refine g_calli hD hS hA (va_runV (As := []) (rest := []) ⟨hx, hb, hml, hown, hts⟩ (c_X0_looseCells l D cs ad I s.heap.size (k + 1) (kd_1_0 hk) n0 q0 hq0) (cwV 0 hts gX5_count_X0_looseCells rfl rfl rfl (by decide +kernel) ⟨Nat.le_of_ble_eq_true rfl, Nat.le_of_ble_eq_true rfl⟩) (g_preV hP hD hK hN (k := (k + 1)) (kd_1_0 hk) (by decide) rfl rfl rfl rfl) rfl rfl hl.1 rfl (lv_room (Nat.le_of_ble_eq_true rfl)) dX5_count_118 ⟨Nat.le_of_ble_eq_true rfl, Nat.le_of_ble_eq_true rfl⟩) (fun ru10 u10 H locs hu10 hP hD hS => ?_)
                  obtain ⟨hu10, hru10⟩ := hu10
                  rw [hru10]
                  exact g_iret (v := f_X3_openCells u10 (k + 1 + 1) - u10 (k + 1 + 5) 2) hx hb hr hlocks rfl hP hD hS ⟨⟨hu10.1, hu10.2.1⟩, by simp only [countF]; rw [if_neg c_1, if_neg c_2, if_neg c_3, if_neg c_4, if_neg c_5, if_neg c_6, if_neg c_7, if_pos c_9]; exact loose_ans hu10⟩ dX5_count_121
                · skip
                  by_cases c_11 : (nI w) = nI 8
                  · skip
                    refine lv_tableIn (tgt := 122) (off := 121) hx hb dX5_count_1 (by rw [c_11]; decide) (by rw [c_11]; decide) (by rw [c_11]; decide) (by decide) ?_
                    refine lv_aload_n hx hb dX5_count_122 rfl (lv_at hl 0 rfl) ?_
                    refine g_get (κ := 1) (ci := 5) (v := .ref (ad (k + 1))) (C := RX5) (T := TX5) (N := 3) hx hb hts hown hK hP (k := k) hk (by decide) rfl (fun _ h => List.mem_cons_of_mem _ (List.mem_append_left _ (List.mem_append_left _ (List.mem_append_left _ (List.mem_append_left _ (List.mem_append_left _ (List.mem_append_right _ h))))))) rfl 0 (by decide) (hts _ (List.mem_of_getElem? (i := 3) rfl)) (fun _ h9 => h9) rfl dX5_count_123 ?_
                    refine g_getN (κ := 2) (ci := 0) (v := .int (I (k + 1) 6)) (C := RX0) (T := TX0) (N := 7) hx hb hts hown hK hP (k := (k + 1)) (kd_1_0 hk) (by decide) rfl (fun _ h => List.mem_cons_of_mem _ (List.mem_append_left _ (List.mem_append_left _ (List.mem_append_left _ (List.mem_append_left _ (List.mem_append_right _ h)))))) rfl 6 (by decide) (nwu20 hN) (fun _ h9 => h9) rfl dX5_count_126 ?_
                    exact g_iret (v := I (k + 1) 6) hx hb hr hlocks rfl hP hD hS ⟨⟨EqX.rf _ _, hR⟩, by simp only [countF]; rw [if_neg c_1, if_neg c_2, if_neg c_3, if_neg c_4, if_neg c_5, if_neg c_6, if_neg c_7, if_neg c_9]⟩ dX5_count_129
                  · skip
                    rcases (show w = 0 ∨ w = 1 ∨ w = 2 ∨ w = 3 ∨ w = 4 ∨ w = 5 ∨ w = 6 ∨ w = 7 ∨ w = 8 from by omega) with rfl | rfl | rfl | rfl | rfl | rfl | rfl | rfl | rfl <;> first | exact absurd rfl c_1 | exact absurd rfl c_2 | exact absurd rfl c_3 | exact absurd rfl c_4 | exact absurd rfl c_5 | exact absurd rfl c_6 | exact absurd rfl c_7 | exact absurd rfl c_9 | exact absurd rfl c_11

set_option maxHeartbeats 4000000 in
set_option maxRecDepth 100000 in
theorem c0_X5_member (l : Launch) (D : va_G) (cs : Nat → ClassId) (ad : Nat → Nat) (I : Mm) (sz : Nat) (k : Nat) (hk : kC.getD k 0 = 1) (j : Nat) (N : Nat) (hw : WT I (k + 1) N) (hj : j < N) : MetQ l yX5_member wsX5_member ({ frames := 1, cells := 0, slots := 0, locals := 21 }) kC cs D ad I sz [.ref (ad k), .int (nI j)] (fun r u => u = I ∧ r = some (ad (k + 1 + 8 + (1 + j)))) 0 0 := by
  refine g_met (cc := cX5_member) (maxL := 3) (ret := (some (.object "SnowMaze$Tunneller"))) (by decide) rfl (Nat.le_of_ble_eq_true rfl) ?_
  intro pg e s m args below meth c ls hx hb hr hml hts hown hlocks hsz hP hD hK hN hS hA hl
  have hown : s.vm.findClass RX5 = some m.cls := hown
  have hl : lv_has ls 3 [(0, .ref (ad k)), (1, .int (nI j))] := hl
  have hN3 := hw.1
  have hN8 := hw.2.1
  refine lv_aload_n hx hb dX5_member_0 rfl (lv_at hl 0 rfl) ?_
  refine g_get (κ := 1) (ci := 5) (v := .ref (ad (k + 1))) (C := RX5) (T := TX5) (N := 3) hx hb hts hown hK hP (k := k) hk (by decide) rfl (fun _ h => List.mem_cons_of_mem _ (List.mem_append_left _ (List.mem_append_left _ (List.mem_append_right _ h)))) rfl 0 (by decide) (hts _ (List.mem_of_getElem? (i := 3) rfl)) (fun _ h9 => h9) rfl dX5_member_1 ?_
  refine lv_iload_n hx hb dX5_member_4 rfl (lv_at hl 1 rfl) ?_
  refine g_callq hD hS hA (va_runV (As := [.int (nI j)]) (rest := []) ⟨hx, hb, hml, hown, hts⟩ (c_X0_member l D cs ad I s.heap.size (k + 1) (kd_1_0 hk) (nI j) N hN3 hN8) (cwV 1 hts gX5_member_X0_member rfl rfl rfl (by decide +kernel) ⟨Nat.le_of_ble_eq_true rfl, Nat.le_of_ble_eq_true rfl⟩) (g_preV hP hD hK hN (k := (k + 1)) (kd_1_0 hk) (by decide) rfl rfl rfl rfl) rfl rfl hl.1 rfl (lv_room (Nat.le_of_ble_eq_true rfl)) dX5_member_5 ⟨Nat.le_of_ble_eq_true rfl, Nat.le_of_ble_eq_true rfl⟩) (fun rq1 u1 H locs hq1 hP hD hS => ?_)
  obtain ⟨hv1, hr1⟩ := hq1
  rw [hv1] at hP hD
  rw [hr1]
  rw [mbr_i (show j < N from by omega) hN8]
  refine lv_astore_n (lv' := [(2, .ref (ad (k + 1 + 8 + (1 + j)))), (0, .ref (ad k)), (1, .int (nI j))]) hx hb dX5_member_8 rfl hl (by decide) rfl (fun ls hl => ?_)
  refine lv_aload_n hx hb dX5_member_9 rfl (lv_at hl 0 rfl) ?_
  refine lv_ifnonnull (tgt := 23) hx hb dX5_member_10 (by decide) ?_
  refine lv_aload_n hx hb dX5_member_23 rfl (lv_at hl 0 rfl) ?_
  exact g_qret (r := (some (ad (k + 1 + 8 + (1 + j))))) hx hb hr hlocks hP hD hS ⟨rfl, rfl⟩ dX5_member_24

set_option maxHeartbeats 4000000 in
set_option maxRecDepth 100000 in
theorem c0_X5_tunneller (l : Launch) (D : va_G) (cs : Nat → ClassId) (ad : Nat → Nat) (I : Mm) (sz : Nat) (k : Nat) (hk : kC.getD k 0 = 1) (j : Nat) (w : Nat) (hw : w < 9) (N : Nat) (hw : WT I (k + 1) N) (hj : j < N) : MetI l yX5_tunneller wsX5_tunneller ({ frames := 2, cells := 0, slots := 0, locals := 43 }) kC cs D ad I sz [.ref (ad k), .int (nI j), .int (nI w)] (fun r u => r = tunF I (k + 1 + 8 + (1 + j)) (nI w) ∧ u = I) 0 0 := by
  refine g_met (cc := cX5_tunneller) (maxL := 4) (ret := (some .int)) (by decide) rfl (Nat.le_of_ble_eq_true rfl) ?_
  intro pg e s m args below meth c ls hx hb hr hml hts hown hlocks hsz hP hD hK hN hS hA hl
  have hown : s.vm.findClass RX5 = some m.cls := hown
  have hl : lv_has ls 4 [(0, .ref (ad k)), (1, .int (nI j)), (2, .int (nI w))] := hl
  have hN3 := hw.1
  have hN8 := hw.2.1
  refine lv_aload_n hx hb dX5_tunneller_0 rfl (lv_at hl 0 rfl) ?_
  refine lv_iload_n hx hb dX5_tunneller_1 rfl (lv_at hl 1 rfl) ?_
  refine g_callq hD hS hA (va_runV (As := [.int (nI j)]) (rest := []) ⟨hx, hb, hml, hown, hts⟩ (c0_X5_member l D cs ad I s.heap.size k hk j N hw hj) (cwV 1 hts gX5_tunneller_X5_member rfl rfl rfl (by decide +kernel) ⟨Nat.le_of_ble_eq_true rfl, Nat.le_of_ble_eq_true rfl⟩) (g_preV hP hD hK hN (k := k) hk (by decide) rfl rfl rfl rfl) rfl rfl hl.1 rfl (lv_room (Nat.le_of_ble_eq_true rfl)) dX5_tunneller_2 ⟨Nat.le_of_ble_eq_true rfl, Nat.le_of_ble_eq_true rfl⟩) (fun rq1 u1 H locs hq1 hP hD hS => ?_)
  obtain ⟨hv1, hr1⟩ := hq1
  rw [hv1] at hP hD
  rw [hr1]
  refine lv_astore_n (lv' := [(3, .ref (ad (k + 1 + 8 + (1 + j)))), (0, .ref (ad k)), (1, .int (nI j)), (2, .int (nI w))]) hx hb dX5_tunneller_5 rfl hl (by decide) rfl (fun ls hl => ?_)
  refine lv_iload_n hx hb dX5_tunneller_6 rfl (lv_at hl 3 rfl) ?_
  by_cases c_2 : (nI w) = nI 0
  · skip
    refine lv_tableIn (tgt := 56) (off := 49) hx hb dX5_tunneller_7 (by rw [c_2]; decide) (by rw [c_2]; decide) (by rw [c_2]; decide) (by decide) ?_
    refine lv_aload_n hx hb dX5_tunneller_56 rfl (lv_at hl 0 rfl) ?_
    refine g_getN (κ := 6) (ci := 4) (v := .int (I (k + 1 + 8 + (1 + j)) 0)) (C := RX4) (T := TX4) (N := 8) hx hb hts hown hK hP (k := (k + 1 + 8 + (1 + j))) (kd_crew (kd_2_2 (kd_1_0 hk)) (show j < 8 from by omega)) (by decide) rfl (fun _ h => List.mem_cons_of_mem _ (List.mem_append_left _ (List.mem_append_left _ (List.mem_append_left _ (List.mem_append_right _ h))))) rfl 0 (by decide) (nwu3 hN) (fun _ h9 => h9) rfl dX5_tunneller_57 ?_
    refine lv_bipush (v := nI 16) hx hb dX5_tunneller_60 (by decide) ?_
    refine lv_irem hx hb dX5_tunneller_62 (by decide) ?_
    exact g_iret (v := (I (k + 1 + 8 + (1 + j)) 0) - (I (k + 1 + 8 + (1 + j)) 0) / (nI 16) * (nI 16)) hx hb hr hlocks rfl hP hD hS ⟨by simp only [tunF]; rw [if_pos c_2], rfl⟩ dX5_tunneller_63
  · skip
    by_cases c_3 : (nI w) = nI 1
    · skip
      refine lv_tableIn (tgt := 64) (off := 57) hx hb dX5_tunneller_7 (by rw [c_3]; decide) (by rw [c_3]; decide) (by rw [c_3]; decide) (by decide) ?_
      refine lv_aload_n hx hb dX5_tunneller_64 rfl (lv_at hl 0 rfl) ?_
      refine g_getN (κ := 6) (ci := 4) (v := .int (I (k + 1 + 8 + (1 + j)) 0)) (C := RX4) (T := TX4) (N := 8) hx hb hts hown hK hP (k := (k + 1 + 8 + (1 + j))) (kd_crew (kd_2_2 (kd_1_0 hk)) (show j < 8 from by omega)) (by decide) rfl (fun _ h => List.mem_cons_of_mem _ (List.mem_append_left _ (List.mem_append_left _ (List.mem_append_left _ (List.mem_append_right _ h))))) rfl 0 (by decide) (nwu3 hN) (fun _ h9 => h9) rfl dX5_tunneller_65 ?_
      refine lv_bipush (v := nI 16) hx hb dX5_tunneller_68 (by decide) ?_
      refine lv_idiv hx hb dX5_tunneller_70 (by decide) ?_
      exact g_iret (v := (I (k + 1 + 8 + (1 + j)) 0) / (nI 16)) hx hb hr hlocks rfl hP hD hS ⟨by simp only [tunF]; rw [if_neg c_2, if_pos c_3], rfl⟩ dX5_tunneller_71
    · skip
      by_cases c_4 : (nI w) = nI 2
      · skip
        refine lv_tableIn (tgt := 72) (off := 65) hx hb dX5_tunneller_7 (by rw [c_4]; decide) (by rw [c_4]; decide) (by rw [c_4]; decide) (by decide) ?_
        refine lv_aload_n hx hb dX5_tunneller_72 rfl (lv_at hl 0 rfl) ?_
        refine g_getN (κ := 6) (ci := 4) (v := .int (I (k + 1 + 8 + (1 + j)) 1)) (C := RX4) (T := TX4) (N := 8) hx hb hts hown hK hP (k := (k + 1 + 8 + (1 + j))) (kd_crew (kd_2_2 (kd_1_0 hk)) (show j < 8 from by omega)) (by decide) rfl (fun _ h => List.mem_cons_of_mem _ (List.mem_append_left _ (List.mem_append_left _ (List.mem_append_left _ (List.mem_append_right _ h))))) rfl 1 (by decide) (nwu5 hN) (fun _ h9 => h9) rfl dX5_tunneller_73 ?_
        exact g_iret (v := I (k + 1 + 8 + (1 + j)) 1) hx hb hr hlocks rfl hP hD hS ⟨by simp only [tunF]; rw [if_neg c_2, if_neg c_3, if_pos c_4], rfl⟩ dX5_tunneller_76
      · skip
        by_cases c_5 : (nI w) = nI 3
        · skip
          refine lv_tableIn (tgt := 77) (off := 70) hx hb dX5_tunneller_7 (by rw [c_5]; decide) (by rw [c_5]; decide) (by rw [c_5]; decide) (by decide) ?_
          refine lv_aload_n hx hb dX5_tunneller_77 rfl (lv_at hl 0 rfl) ?_
          refine g_getN (κ := 6) (ci := 4) (v := .int (I (k + 1 + 8 + (1 + j)) 2)) (C := RX4) (T := TX4) (N := 8) hx hb hts hown hK hP (k := (k + 1 + 8 + (1 + j))) (kd_crew (kd_2_2 (kd_1_0 hk)) (show j < 8 from by omega)) (by decide) rfl (fun _ h => List.mem_cons_of_mem _ (List.mem_append_left _ (List.mem_append_left _ (List.mem_append_left _ (List.mem_append_right _ h))))) rfl 2 (by decide) (nwu7 hN) (fun _ h9 => h9) rfl dX5_tunneller_78 ?_
          exact g_iret (v := I (k + 1 + 8 + (1 + j)) 2) hx hb hr hlocks rfl hP hD hS ⟨by simp only [tunF]; rw [if_neg c_2, if_neg c_3, if_neg c_4, if_pos c_5], rfl⟩ dX5_tunneller_81
        · skip
          by_cases c_6 : (nI w) = nI 4
          · skip
            refine lv_tableIn (tgt := 82) (off := 75) hx hb dX5_tunneller_7 (by rw [c_6]; decide) (by rw [c_6]; decide) (by rw [c_6]; decide) (by decide) ?_
            refine lv_aload_n hx hb dX5_tunneller_82 rfl (lv_at hl 0 rfl) ?_
            refine g_getN (κ := 6) (ci := 4) (v := .int (I (k + 1 + 8 + (1 + j)) 3)) (C := RX4) (T := TX4) (N := 8) hx hb hts hown hK hP (k := (k + 1 + 8 + (1 + j))) (kd_crew (kd_2_2 (kd_1_0 hk)) (show j < 8 from by omega)) (by decide) rfl (fun _ h => List.mem_cons_of_mem _ (List.mem_append_left _ (List.mem_append_left _ (List.mem_append_left _ (List.mem_append_right _ h))))) rfl 3 (by decide) (nwu8 hN) (fun _ h9 => h9) rfl dX5_tunneller_83 ?_
            exact g_iret (v := I (k + 1 + 8 + (1 + j)) 3) hx hb hr hlocks rfl hP hD hS ⟨by simp only [tunF]; rw [if_neg c_2, if_neg c_3, if_neg c_4, if_neg c_5, if_pos c_6], rfl⟩ dX5_tunneller_86
          · skip
            by_cases c_7 : (nI w) = nI 5
            · skip
              refine lv_tableIn (tgt := 87) (off := 80) hx hb dX5_tunneller_7 (by rw [c_7]; decide) (by rw [c_7]; decide) (by rw [c_7]; decide) (by decide) ?_
              refine lv_aload_n hx hb dX5_tunneller_87 rfl (lv_at hl 0 rfl) ?_
              refine g_getN (κ := 6) (ci := 4) (v := .int (I (k + 1 + 8 + (1 + j)) 7)) (C := RX4) (T := TX4) (N := 8) hx hb hts hown hK hP (k := (k + 1 + 8 + (1 + j))) (kd_crew (kd_2_2 (kd_1_0 hk)) (show j < 8 from by omega)) (by decide) rfl (fun _ h => List.mem_cons_of_mem _ (List.mem_append_left _ (List.mem_append_left _ (List.mem_append_left _ (List.mem_append_right _ h))))) rfl 7 (by decide) (nwu14 hN) (fun _ h9 => h9) rfl dX5_tunneller_88 ?_
              exact g_iret (v := I (k + 1 + 8 + (1 + j)) 7) hx hb hr hlocks rfl hP hD hS ⟨by simp only [tunF]; rw [if_neg c_2, if_neg c_3, if_neg c_4, if_neg c_5, if_neg c_6, if_pos c_7], rfl⟩ dX5_tunneller_91
            · skip
              by_cases c_8 : (nI w) = nI 6
              · skip
                refine lv_tableIn (tgt := 92) (off := 85) hx hb dX5_tunneller_7 (by rw [c_8]; decide) (by rw [c_8]; decide) (by rw [c_8]; decide) (by decide) ?_
                refine lv_aload_n hx hb dX5_tunneller_92 rfl (lv_at hl 0 rfl) ?_
                refine g_callF (F := f_X4_firstOrder I (k + 1 + 8 + (1 + j))) hD hS hA (va_runV (As := []) (rest := []) ⟨hx, hb, hml, hown, hts⟩ (c_X4_firstOrder l D cs ad I H.size (k + 1 + 8 + (1 + j)) (kd_crew (kd_2_2 (kd_1_0 hk)) (show j < 8 from by omega))) (cwV 0 hts gX5_tunneller_X4_firstOrder rfl rfl rfl (by decide +kernel) ⟨Nat.le_of_ble_eq_true rfl, Nat.le_of_ble_eq_true rfl⟩) (g_preV hP hD hK hN (k := (k + 1 + 8 + (1 + j))) (kd_crew (kd_2_2 (kd_1_0 hk)) (show j < 8 from by omega)) (by decide) rfl rfl rfl rfl) rfl rfl hl.1 rfl (lv_room (Nat.le_of_ble_eq_true rfl)) dX5_tunneller_93 ⟨Nat.le_of_ble_eq_true rfl, Nat.le_of_ble_eq_true rfl⟩) (fun H locs hP hD hS => ?_)
                exact g_iret (v := f_X4_firstOrder I (k + 1 + 8 + (1 + j))) hx hb hr hlocks rfl hP hD hS ⟨by simp only [tunF]; rw [if_neg c_2, if_neg c_3, if_neg c_4, if_neg c_5, if_neg c_6, if_neg c_7, if_pos c_8], rfl⟩ dX5_tunneller_96
              · skip
                by_cases c_9 : (nI w) = nI 7
                · skip
                  refine lv_tableIn (tgt := 97) (off := 90) hx hb dX5_tunneller_7 (by rw [c_9]; decide) (by rw [c_9]; decide) (by rw [c_9]; decide) (by decide) ?_
                  refine lv_aload_n hx hb dX5_tunneller_97 rfl (lv_at hl 0 rfl) ?_
                  refine g_getN (κ := 6) (ci := 4) (v := .int (I (k + 1 + 8 + (1 + j)) 4)) (C := RX4) (T := TX4) (N := 8) hx hb hts hown hK hP (k := (k + 1 + 8 + (1 + j))) (kd_crew (kd_2_2 (kd_1_0 hk)) (show j < 8 from by omega)) (by decide) rfl (fun _ h => List.mem_cons_of_mem _ (List.mem_append_left _ (List.mem_append_left _ (List.mem_append_left _ (List.mem_append_right _ h))))) rfl 4 (by decide) (nwu11 hN) (fun _ h9 => h9) rfl dX5_tunneller_98 ?_
                  skip
                  refine g_callF (F := f_X5_oneIf (I (k + 1 + 8 + (1 + j)) 4)) hD hS hA (va_runS (As := [.int (I (k + 1 + 8 + (1 + j)) 4)]) (rest := []) ⟨hx, hb, hml, hown, hts⟩ (c_X5_oneIf l D cs ad I H.size (I (k + 1 + 8 + (1 + j)) 4) (hw.2.2.2.1 _ (by omega))) (va_cwS 1 hts gX5_tunneller_X5_oneIf rfl rfl rfl (by decide +kernel) ⟨Nat.le_of_ble_eq_true rfl, Nat.le_of_ble_eq_true rfl⟩) (g_preS hP hD hK hN) rfl rfl hl.1 rfl (lv_room (Nat.le_of_ble_eq_true rfl)) dX5_tunneller_101 ⟨Nat.le_of_ble_eq_true rfl, Nat.le_of_ble_eq_true rfl⟩) (fun H locs hP hD hS => ?_)
                  exact g_iret (v := f_X5_oneIf (I (k + 1 + 8 + (1 + j)) 4)) hx hb hr hlocks rfl hP hD hS ⟨by simp only [tunF]; rw [if_neg c_2, if_neg c_3, if_neg c_4, if_neg c_5, if_neg c_6, if_neg c_7, if_neg c_8, if_pos c_9], rfl⟩ dX5_tunneller_104
                · skip
                  by_cases c_10 : (nI w) = nI 8
                  · skip
                    refine lv_tableIn (tgt := 105) (off := 98) hx hb dX5_tunneller_7 (by rw [c_10]; decide) (by rw [c_10]; decide) (by rw [c_10]; decide) (by decide) ?_
                    refine lv_aload_n hx hb dX5_tunneller_105 rfl (lv_at hl 0 rfl) ?_
                    refine g_getN (κ := 6) (ci := 4) (v := .int (I (k + 1 + 8 + (1 + j)) 5)) (C := RX4) (T := TX4) (N := 8) hx hb hts hown hK hP (k := (k + 1 + 8 + (1 + j))) (kd_crew (kd_2_2 (kd_1_0 hk)) (show j < 8 from by omega)) (by decide) rfl (fun _ h => List.mem_cons_of_mem _ (List.mem_append_left _ (List.mem_append_left _ (List.mem_append_left _ (List.mem_append_right _ h))))) rfl 5 (by decide) (nwu13 hN) (fun _ h9 => h9) rfl dX5_tunneller_106 ?_
                    exact g_iret (v := I (k + 1 + 8 + (1 + j)) 5) hx hb hr hlocks rfl hP hD hS ⟨by simp only [tunF]; rw [if_neg c_2, if_neg c_3, if_neg c_4, if_neg c_5, if_neg c_6, if_neg c_7, if_neg c_8, if_neg c_9], rfl⟩ dX5_tunneller_109
                  · skip
                    rcases (show w = 0 ∨ w = 1 ∨ w = 2 ∨ w = 3 ∨ w = 4 ∨ w = 5 ∨ w = 6 ∨ w = 7 ∨ w = 8 from by omega) with rfl | rfl | rfl | rfl | rfl | rfl | rfl | rfl | rfl <;> first | exact absurd rfl c_2 | exact absurd rfl c_3 | exact absurd rfl c_4 | exact absurd rfl c_5 | exact absurd rfl c_6 | exact absurd rfl c_7 | exact absurd rfl c_8 | exact absurd rfl c_9 | exact absurd rfl c_10

def digC (f : Nat → Int32) (d : Int64) : Nat → Int64
  | 0 => d
  | n + 1 => digC f d n * 31 + (f n).toInt64
def digS (I : Mm) (z : Nat) (d : Int64) : Nat → Int64
  | 0 => d
  | n + 1 => ((digS I z d n * 31 + (I (z + 1 + 1) n).toInt64) * 31 + (I (z + 1 + 2) n).toInt64) * 31 + (I (z + 1 + 3) n).toInt64
def digT (I : Mm) (z : Nat) (d : Int64) : Nat → Int64
  | 0 => d
  | n + 1 => digC (fun w => tunF I (z + 8 + (1 + n)) (nI w)) (digT I z d n) 9
noncomputable def digF (I : Mm) (z N : Nat) : Int64 := digT I z (digS I z (digC (fun w => countF I z N (nI w)) 509 9) 256) N
theorem countF_eq {z N : Nat} {u v : Mm} (h : EqX z u v) (w : Int32) : countF u z N w = countF v z N w := by
  have e1 : litC u z N = litC v z N := by
    funext c
    simp only [litC, litR, opn_eq h, srL_eq h, h.s 1 (by decide)]
  have e2 : heldP u z = heldP v z := by simp only [heldP, opn_eq h, srH_eq h]
  have e3 : f_X3_postsSet u (z + 1) = f_X3_postsSet v (z + 1) := by simp only [f_X3_postsSet, h.s 3 (by decide)]
  simp only [countF, h.z, bur_eq h, openCells_eq h, e1, e2, e3]
theorem T8_eq {z i : Nat} {u v : Mm} (h : EqX z u v) : u (z + 8 + (1 + i) + 8) = v (z + 8 + (1 + i) + 8) := h _ (by omega) (by omega) (by omega)
theorem tunF_eq {z i : Nat} {u v : Mm} (h : EqX z u v) (w : Int32) : tunF u (z + 8 + (1 + i)) w = tunF v (z + 8 + (1 + i)) w := by
  simp only [tunF, f_X4_firstOrder, vT h, T8_eq h]

set_option maxHeartbeats 4000000 in
set_option maxRecDepth 100000 in
theorem c_X5_digest (l : Launch) (D : va_G) (cs : Nat → ClassId) (ad : Nat → Nat) (I : Mm) (sz : Nat) (k : Nat) (hk : kC.getD k 0 = 1) (N : Nat) (hw : WT I (k + 1) N) (hR : RX (k + 1) I) : MetL l yX5_digest wsX5_digest ({ frames := 5, cells := 0, slots := 0, locals := 113 }) kC cs D ad I sz [.ref (ad k)] (fun r u => EX (k + 1) u I ∧ r = digF I (k + 1) N) 0 0 := by
  refine g_met (cc := cX5_digest) (maxL := 5) (ret := (some .long)) (by decide) rfl (Nat.le_of_ble_eq_true rfl) ?_
  intro pg e s m args below meth c ls hx hb hr hml hts hown hlocks hsz hP hD hK hN hS hA hl
  have hown : s.vm.findClass RX5 = some m.cls := hown
  have hl : lv_has ls 5 [(0, .ref (ad k))] := hl
  have hN3 := hw.1
  have hN8 := hw.2.1
  refine lv_ldc2 (v := 509) hx hb hown (hts _ (List.mem_of_getElem? (i := 1) rfl)) dX5_digest_0 ?_
  refine lv_lstore_n (lv' := [(1, .long 509), (0, .ref (ad k))]) hx hb dX5_digest_3 rfl hl (by decide) rfl (fun ls hl => ?_)
  refine lv_iconst (v := nI 0) hx hb dX5_digest_4 (by decide) ?_
  refine lv_istore_n (lv' := [(3, .int (nI 0)), (1, .long 509), (0, .ref (ad k))]) hx hb dX5_digest_5 rfl hl (by decide) rfl (fun ls hl => ?_)
  suffices KL6 : ∀ (fuel : Nat) (i : Nat) (x : Int64) (v : Mm) (H : Heap) (locs : List Loc) (ls : Array Slot), (i ≤ 9) → (EX (k + 1) v I) → (x = digC (fun w => countF I (k + 1) N (nI w)) 509 i) → 9 - i < fuel → va_P D vwCl (gw kC cs ad v) H → va_D (gA kC ad sz) (gw kC cs ad v) → va_S (gA kC ad sz) s.heap H locs → lv_has ls 5 [(3, .int (nI i)), (1, .long x), (0, .ref (ad k))] → W pg l e ({ frames := 5, cells := 0, slots := 0, locals := 113 }) s m args below meth c H locs 0 0 (MQ below (va_Ql (fun r u => EX (k + 1) u I ∧ r = digF I (k + 1) N) (wat kC cs D ad (gA kC ad sz)) (gA kC ad sz)) args s 0 0 (gA kC ad sz)) (F0 m 6 ls []) from KL6 _ 0 509 I _ _ _ (by omega) ⟨EqX.rf _ _, hR⟩ rfl (Nat.lt_succ_self _) hP hD hS (lv_sub hl [0, 1, 2] rfl)
  intro fuel6
  induction fuel6 with
  | zero => intro _ _ _ _ _ _ _ _ _ hm; exact absurd hm (Nat.not_lt_zero _)
  | succ fuel6 ih6 =>
    intro i x v H locs ls hi hv hd_ hm6 hP hD hS hl
    refine lv_iload_n hx hb dX5_digest_6 rfl (lv_at hl 0 rfl) ?_
    refine lv_bipush (v := nI 9) hx hb dX5_digest_7 (by decide) ?_
    refine lv_icmp_ge (tgt := 31) hx hb dX5_digest_9 (by decide) (fun c_1 => ?_) (fun c_1 => ?_)
    · skip
      have nc_1 : 9 ≤ i := (nI_leI (a := 9) (b := i) (by omega) (by omega)).mp c_1
      refine lv_iconst (v := nI 0) hx hb dX5_digest_31 (by decide) ?_
      refine lv_istore_n (lv' := [(3, .int (nI 0)), (1, .long x), (0, .ref (ad k))]) hx hb dX5_digest_32 rfl hl (by decide) rfl (fun ls hl => ?_)
      suffices KL33 : ∀ (fuel : Nat) (i : Nat) (x : Int64) (v : Mm) (H : Heap) (locs : List Loc) (ls : Array Slot), (i ≤ 256) → (EX (k + 1) v I) → (x = digS I (k + 1) (digC (fun w => countF I (k + 1) N (nI w)) 509 9) i) → 256 - i < fuel → va_P D vwCl (gw kC cs ad v) H → va_D (gA kC ad sz) (gw kC cs ad v) → va_S (gA kC ad sz) s.heap H locs → lv_has ls 5 [(3, .int (nI i)), (1, .long x), (0, .ref (ad k))] → W pg l e ({ frames := 5, cells := 0, slots := 0, locals := 113 }) s m args below meth c H locs 0 0 (MQ below (va_Ql (fun r u => EX (k + 1) u I ∧ r = digF I (k + 1) N) (wat kC cs D ad (gA kC ad sz)) (gA kC ad sz)) args s 0 0 (gA kC ad sz)) (F0 m 33 ls []) from KL33 _ 0 x v _ _ _ (by omega) hv (by rw [hd_, show i = 9 from by omega]; rfl) (Nat.lt_succ_self _) hP hD hS (lv_sub hl [0, 1, 2] rfl)
      intro fuel33
      induction fuel33 with
      | zero => intro _ _ _ _ _ _ _ _ _ hm; exact absurd hm (Nat.not_lt_zero _)
      | succ fuel33 ih33 =>
        intro i x v H locs ls hi hv hd_ hm33 hP hD hS hl
        refine lv_iload_n hx hb dX5_digest_33 rfl (lv_at hl 0 rfl) ?_
        refine lv_sipush (v := nI 256) hx hb dX5_digest_34 (by decide) ?_
        refine lv_icmp_ge (tgt := 103) hx hb dX5_digest_37 (by decide) (fun c_2 => ?_) (fun c_2 => ?_)
        · skip
          have nc_2 : 256 ≤ i := (nI_leI (a := 256) (b := i) (by omega) (by omega)).mp c_2
          refine lv_iconst (v := nI 0) hx hb dX5_digest_103 (by decide) ?_
          refine lv_istore_n (lv' := [(3, .int (nI 0)), (1, .long x), (0, .ref (ad k))]) hx hb dX5_digest_104 rfl hl (by decide) rfl (fun ls hl => ?_)
          suffices KL105 : ∀ (fuel : Nat) (j : Nat) (x : Int64) (H : Heap) (locs : List Loc) (ls : Array Slot), (j ≤ N) → (x = digT I (k + 1) (digS I (k + 1) (digC (fun w => countF I (k + 1) N (nI w)) 509 9) 256) j) → N - j < fuel → va_P D vwCl (gw kC cs ad v) H → va_D (gA kC ad sz) (gw kC cs ad v) → va_S (gA kC ad sz) s.heap H locs → lv_has ls 5 [(3, .int (nI j)), (1, .long x), (0, .ref (ad k))] → W pg l e ({ frames := 5, cells := 0, slots := 0, locals := 113 }) s m args below meth c H locs 0 0 (MQ below (va_Ql (fun r u => EX (k + 1) u I ∧ r = digF I (k + 1) N) (wat kC cs D ad (gA kC ad sz)) (gA kC ad sz)) args s 0 0 (gA kC ad sz)) (F0 m 105 ls []) from KL105 _ 0 x _ _ _ (by omega) (by rw [hd_, show i = 256 from by omega]; rfl) (Nat.lt_succ_self _) hP hD hS (lv_sub hl [0, 1, 2] rfl)
          intro fuel105
          induction fuel105 with
          | zero => intro _ _ _ _ _ _ _ hm; exact absurd hm (Nat.not_lt_zero _)
          | succ fuel105 ih105 =>
            intro j x H locs ls hj hd_ hm105 hP hD hS hl
            refine lv_iload_n hx hb dX5_digest_105 rfl (lv_at hl 0 rfl) ?_
            refine lv_aload_n hx hb dX5_digest_106 rfl (lv_at hl 2 rfl) ?_
            refine g_get (κ := 1) (ci := 5) (v := .ref (ad (k + 1))) (C := RX5) (T := TX5) (N := 3) hx hb hts hown hK hP (k := k) hk (by decide) rfl (fun _ h => List.mem_cons_of_mem _ (List.mem_append_left _ (List.mem_append_left _ (List.mem_append_left _ (List.mem_append_left _ (List.mem_append_left _ (List.mem_append_right _ h))))))) rfl 0 (by decide) (hts _ (List.mem_of_getElem? (i := 3) rfl)) (fun _ h9 => h9) rfl dX5_digest_107 ?_
            refine g_getN (κ := 2) (ci := 0) (v := .int (v (k + 1) 3)) (C := RX0) (T := TX0) (N := 7) hx hb hts hown hK hP (k := (k + 1)) (kd_1_0 hk) (by decide) rfl (fun _ h => List.mem_cons_of_mem _ (List.mem_append_left _ (List.mem_append_left _ (List.mem_append_left _ (List.mem_append_left _ (List.mem_append_right _ h)))))) rfl 3 (by decide) (nwu17 hN) (fun _ h9 => h9) rfl dX5_digest_110 ?_
            rw [show v (k + 1) 3 = nI N from (by rw [hv.1.z]; exact hN3)]
            refine lv_icmp_ge (tgt := 153) hx hb dX5_digest_113 (by decide) (fun c_3 => ?_) (fun c_3 => ?_)
            · skip
              have nc_3 : N ≤ j := (nI_leI (a := N) (b := j) (by omega) (by omega)).mp c_3
              refine lv_lload_n hx hb dX5_digest_153 rfl (lv_at hl 1 rfl) ?_
              exact g_lret (v := x) hx hb hr hlocks hP hD hS ⟨hv, by rw [hd_, show j = N from by omega]; rfl⟩ dX5_digest_154
            · skip
              have nc_3 : ¬ N ≤ j := fun z9_ => c_3 ((nI_leI (a := N) (b := j) (by omega) (by omega)).mpr z9_)
              refine lv_iconst (v := nI 0) hx hb dX5_digest_116 (by decide) ?_
              refine lv_istore (lv' := [(4, .int (nI 0)), (3, .int (nI j)), (1, .long x), (0, .ref (ad k))]) hx hb dX5_digest_117 hl (by decide) rfl (fun ls hl => ?_)
              suffices KL119 : ∀ (fuel : Nat) (w : Nat) (x : Int64) (H : Heap) (locs : List Loc) (ls : Array Slot), (w ≤ 9) → (x = digC (fun w => tunF I (k + 1 + 8 + (1 + j)) (nI w)) (digT I (k + 1) (digS I (k + 1) (digC (fun w => countF I (k + 1) N (nI w)) 509 9) 256) j) w) → 9 - w < fuel → va_P D vwCl (gw kC cs ad v) H → va_D (gA kC ad sz) (gw kC cs ad v) → va_S (gA kC ad sz) s.heap H locs → lv_has ls 5 [(4, .int (nI w)), (3, .int (nI j)), (1, .long x), (0, .ref (ad k))] → W pg l e ({ frames := 5, cells := 0, slots := 0, locals := 113 }) s m args below meth c H locs 0 0 (MQ below (va_Ql (fun r u => EX (k + 1) u I ∧ r = digF I (k + 1) N) (wat kC cs D ad (gA kC ad sz)) (gA kC ad sz)) args s 0 0 (gA kC ad sz)) (F0 m 119 ls []) from KL119 _ 0 x _ _ _ (by omega) (by rw [hd_]; rfl) (Nat.lt_succ_self _) hP hD hS (lv_sub hl [0, 1, 2, 3] rfl)
              intro fuel119
              induction fuel119 with
              | zero => intro _ _ _ _ _ _ _ hm; exact absurd hm (Nat.not_lt_zero _)
              | succ fuel119 ih119 =>
                intro w x H locs ls hw9 hd2 hm119 hP hD hS hl
                refine lv_iload hx hb dX5_digest_119 (lv_at hl 0 rfl) ?_
                refine lv_bipush (v := nI 9) hx hb dX5_digest_121 (by decide) ?_
                refine lv_icmp_ge (tgt := 147) hx hb dX5_digest_123 (by decide) (fun c_4 => ?_) (fun c_4 => ?_)
                · skip
                  have nc_4 : 9 ≤ w := (nI_leI (a := 9) (b := w) (by omega) (by omega)).mp c_4
                  refine lv_iinc (v := nI (j + 1)) (lv' := [(3, .int (nI (j + 1))), (4, .int (nI w)), (1, .long x), (0, .ref (ad k))]) hx hb dX5_digest_147 hl (k := 1) rfl (nI_1 j) (by decide) rfl (fun ls hl => ?_)
                  refine lv_goto (tgt := 105) hx hb dX5_digest_150 (by decide) ?_
                  exact ih105 (j + 1) x _ _ _ (by omega) (by rw [hd2, show w = 9 from by omega]; rfl) (by omega) hP hD hS (lv_sub hl [0, 2, 3] rfl)
                · skip
                  have nc_4 : ¬ 9 ≤ w := fun z9_ => c_4 ((nI_leI (a := 9) (b := w) (by omega) (by omega)).mpr z9_)
                  refine lv_lload_n hx hb dX5_digest_126 rfl (lv_at hl 2 rfl) ?_
                  refine lv_ldc2 (v := 31) hx hb hown (hts _ (List.mem_of_getElem? (i := 2) rfl)) dX5_digest_127 ?_
                  refine lv_lmul hx hb dX5_digest_130 ?_
                  refine lv_aload_n hx hb dX5_digest_131 rfl (lv_at hl 3 rfl) ?_
                  refine lv_iload_n hx hb dX5_digest_132 rfl (lv_at hl 1 rfl) ?_
                  refine lv_iload hx hb dX5_digest_133 (lv_at hl 0 rfl) ?_
                  refine g_callF (F := tunF v (k + 1 + 8 + (1 + j)) (nI w)) hD hS hA (va_runV (As := [.int (nI j), .int (nI w)]) (rest := [.long (x * 31)]) ⟨hx, hb, hml, hown, hts⟩ (c0_X5_tunneller l D cs ad v H.size k hk j w (by omega) N (hw.eqx hv.1) (by omega)) (cwV 2 hts gX5_digest_X5_tunneller rfl rfl rfl (by decide +kernel) ⟨Nat.le_of_ble_eq_true rfl, Nat.le_of_ble_eq_true rfl⟩) (g_preV hP hD hK hN (k := k) hk (by decide) rfl rfl rfl rfl) rfl rfl hl.1 rfl (lv_room (Nat.le_of_ble_eq_true rfl)) dX5_digest_135 ⟨Nat.le_of_ble_eq_true rfl, Nat.le_of_ble_eq_true rfl⟩) (fun H locs hP hD hS => ?_)
                  rw [tunF_eq hv.1]
                  refine lv_i2l (v := (tunF I (k + 1 + 8 + (1 + j)) (nI w)).toInt64) hx hb dX5_digest_138 rfl ?_
                  refine lv_ladd hx hb dX5_digest_139 ?_
                  refine lv_lstore_n (lv' := [(1, .long ((x * 31) + ((tunF I (k + 1 + 8 + (1 + j)) (nI w)).toInt64))), (4, .int (nI w)), (3, .int (nI j)), (0, .ref (ad k))]) hx hb dX5_digest_140 rfl hl (by decide) rfl (fun ls hl => ?_)
                  refine lv_iinc (v := nI (w + 1)) (lv' := [(4, .int (nI (w + 1))), (1, .long ((x * 31) + ((tunF I (k + 1 + 8 + (1 + j)) (nI w)).toInt64))), (3, .int (nI j)), (0, .ref (ad k))]) hx hb dX5_digest_141 hl (k := 1) rfl (nI_1 w) (by decide) rfl (fun ls hl => ?_)
                  refine lv_goto (tgt := 119) hx hb dX5_digest_144 (by decide) ?_
                  exact ih119 (w + 1) ((x * 31) + ((tunF I (k + 1 + 8 + (1 + j)) (nI w)).toInt64)) _ _ _ (by omega) (by rw [hd2]; rfl) (by omega) hP hD hS (lv_sub hl [0, 2, 1, 3] rfl)
        · skip
          have nc_2 : ¬ 256 ≤ i := fun z9_ => c_2 ((nI_leI (a := 256) (b := i) (by omega) (by omega)).mpr z9_)
          refine lv_lload_n hx hb dX5_digest_40 rfl (lv_at hl 1 rfl) ?_
          refine lv_ldc2 (v := 31) hx hb hown (hts _ (List.mem_of_getElem? (i := 2) rfl)) dX5_digest_41 ?_
          refine lv_lmul hx hb dX5_digest_44 ?_
          refine lv_aload_n hx hb dX5_digest_45 rfl (lv_at hl 2 rfl) ?_
          refine g_get (κ := 1) (ci := 5) (v := .ref (ad (k + 1))) (C := RX5) (T := TX5) (N := 3) hx hb hts hown hK hP (k := k) hk (by decide) rfl (fun _ h => List.mem_cons_of_mem _ (List.mem_append_left _ (List.mem_append_left _ (List.mem_append_left _ (List.mem_append_left _ (List.mem_append_left _ (List.mem_append_right _ h))))))) rfl 0 (by decide) (hts _ (List.mem_of_getElem? (i := 3) rfl)) (fun _ h9 => h9) rfl dX5_digest_46 ?_
          refine g_getN (κ := 2) (ci := 0) (v := .ref (ad (k + 1 + 1))) (C := RX0) (T := TX0) (N := 7) hx hb hts hown hK hP (k := (k + 1)) (kd_1_0 hk) (by decide) rfl (fun _ h => List.mem_cons_of_mem _ (List.mem_append_left _ (List.mem_append_left _ (List.mem_append_left _ (List.mem_append_left _ (List.mem_append_right _ h)))))) rfl 0 (by decide) (nwu16 hN) (fun _ h9 => h9) rfl dX5_digest_49 ?_
          refine lv_iload_n hx hb dX5_digest_52 rfl (lv_at hl 0 rfl) ?_
          refine g_callF (F := f_X3_sortAt v (k + 1 + 1) (nI i)) hD hS hA (va_runV (As := [.int (nI i)]) (rest := [.long (x * 31)]) ⟨hx, hb, hml, hown, hts⟩ (c_X3_sortAt l D cs ad v H.size (k + 1 + 1) (kd_2_0 (kd_1_0 hk)) (nI i)) (cwV 1 hts gX5_digest_X3_sortAt rfl rfl rfl (by decide +kernel) ⟨Nat.le_of_ble_eq_true rfl, Nat.le_of_ble_eq_true rfl⟩) (g_preV hP hD hK hN (k := (k + 1 + 1)) (kd_2_0 (kd_1_0 hk)) (by decide) rfl rfl rfl rfl) rfl rfl hl.1 rfl (lv_room (Nat.le_of_ble_eq_true rfl)) dX5_digest_53 ⟨Nat.le_of_ble_eq_true rfl, Nat.le_of_ble_eq_true rfl⟩) (fun H locs hP hD hS => ?_)
          rw [show f_X3_sortAt v (k + 1 + 1) (nI i) = I (k + 1 + 1 + 1) i from (by rw [sort_in (by omega), hv.1.s 1 (by decide)])]
          refine lv_i2l (v := (I (k + 1 + 1 + 1) i).toInt64) hx hb dX5_digest_56 rfl ?_
          refine lv_ladd hx hb dX5_digest_57 ?_
          refine lv_lstore_n (lv' := [(1, .long ((x * 31) + ((I (k + 1 + 1 + 1) i).toInt64))), (3, .int (nI i)), (0, .ref (ad k))]) hx hb dX5_digest_58 rfl hl (by decide) rfl (fun ls hl => ?_)
          refine lv_lload_n hx hb dX5_digest_59 rfl (lv_at hl 0 rfl) ?_
          refine lv_ldc2 (v := 31) hx hb hown (hts _ (List.mem_of_getElem? (i := 2) rfl)) dX5_digest_60 ?_
          refine lv_lmul hx hb dX5_digest_63 ?_
          refine lv_aload_n hx hb dX5_digest_64 rfl (lv_at hl 2 rfl) ?_
          refine g_get (κ := 1) (ci := 5) (v := .ref (ad (k + 1))) (C := RX5) (T := TX5) (N := 3) hx hb hts hown hK hP (k := k) hk (by decide) rfl (fun _ h => List.mem_cons_of_mem _ (List.mem_append_left _ (List.mem_append_left _ (List.mem_append_left _ (List.mem_append_left _ (List.mem_append_left _ (List.mem_append_right _ h))))))) rfl 0 (by decide) (hts _ (List.mem_of_getElem? (i := 3) rfl)) (fun _ h9 => h9) rfl dX5_digest_65 ?_
          refine g_getN (κ := 2) (ci := 0) (v := .ref (ad (k + 1 + 1))) (C := RX0) (T := TX0) (N := 7) hx hb hts hown hK hP (k := (k + 1)) (kd_1_0 hk) (by decide) rfl (fun _ h => List.mem_cons_of_mem _ (List.mem_append_left _ (List.mem_append_left _ (List.mem_append_left _ (List.mem_append_left _ (List.mem_append_right _ h)))))) rfl 0 (by decide) (nwu16 hN) (fun _ h9 => h9) rfl dX5_digest_68 ?_
          refine lv_iload_n hx hb dX5_digest_71 rfl (lv_at hl 1 rfl) ?_
          refine g_callF (F := f_X3_ageAt v (k + 1 + 1) (nI i)) hD hS hA (va_runV (As := [.int (nI i)]) (rest := [.long (((x * 31) + ((I (k + 1 + 1 + 1) i).toInt64)) * 31)]) ⟨hx, hb, hml, hown, hts⟩ (c_X3_ageAt l D cs ad v H.size (k + 1 + 1) (kd_2_0 (kd_1_0 hk)) (nI i)) (cwV 1 hts gX5_digest_X3_ageAt rfl rfl rfl (by decide +kernel) ⟨Nat.le_of_ble_eq_true rfl, Nat.le_of_ble_eq_true rfl⟩) (g_preV hP hD hK hN (k := (k + 1 + 1)) (kd_2_0 (kd_1_0 hk)) (by decide) rfl rfl rfl rfl) rfl rfl hl.1 rfl (lv_room (Nat.le_of_ble_eq_true rfl)) dX5_digest_72 ⟨Nat.le_of_ble_eq_true rfl, Nat.le_of_ble_eq_true rfl⟩) (fun H locs hP hD hS => ?_)
          rw [show f_X3_ageAt v (k + 1 + 1) (nI i) = I (k + 1 + 1 + 2) i from (by rw [ages_in (by omega), hv.1.s 2 (by decide)])]
          refine lv_i2l (v := (I (k + 1 + 1 + 2) i).toInt64) hx hb dX5_digest_75 rfl ?_
          refine lv_ladd hx hb dX5_digest_76 ?_
          refine lv_lstore_n (lv' := [(1, .long ((((x * 31) + ((I (k + 1 + 1 + 1) i).toInt64)) * 31) + ((I (k + 1 + 1 + 2) i).toInt64))), (3, .int (nI i)), (0, .ref (ad k))]) hx hb dX5_digest_77 rfl hl (by decide) rfl (fun ls hl => ?_)
          refine lv_lload_n hx hb dX5_digest_78 rfl (lv_at hl 0 rfl) ?_
          refine lv_ldc2 (v := 31) hx hb hown (hts _ (List.mem_of_getElem? (i := 2) rfl)) dX5_digest_79 ?_
          refine lv_lmul hx hb dX5_digest_82 ?_
          refine lv_aload_n hx hb dX5_digest_83 rfl (lv_at hl 2 rfl) ?_
          refine g_get (κ := 1) (ci := 5) (v := .ref (ad (k + 1))) (C := RX5) (T := TX5) (N := 3) hx hb hts hown hK hP (k := k) hk (by decide) rfl (fun _ h => List.mem_cons_of_mem _ (List.mem_append_left _ (List.mem_append_left _ (List.mem_append_left _ (List.mem_append_left _ (List.mem_append_left _ (List.mem_append_right _ h))))))) rfl 0 (by decide) (hts _ (List.mem_of_getElem? (i := 3) rfl)) (fun _ h9 => h9) rfl dX5_digest_84 ?_
          refine g_getN (κ := 2) (ci := 0) (v := .ref (ad (k + 1 + 1))) (C := RX0) (T := TX0) (N := 7) hx hb hts hown hK hP (k := (k + 1)) (kd_1_0 hk) (by decide) rfl (fun _ h => List.mem_cons_of_mem _ (List.mem_append_left _ (List.mem_append_left _ (List.mem_append_left _ (List.mem_append_left _ (List.mem_append_right _ h)))))) rfl 0 (by decide) (nwu16 hN) (fun _ h9 => h9) rfl dX5_digest_87 ?_
          refine lv_iload_n hx hb dX5_digest_90 rfl (lv_at hl 1 rfl) ?_
          refine g_callF (F := f_X3_postsAt v (k + 1 + 1) (nI i)) hD hS hA (va_runV (As := [.int (nI i)]) (rest := [.long (((((x * 31) + ((I (k + 1 + 1 + 1) i).toInt64)) * 31) + ((I (k + 1 + 1 + 2) i).toInt64)) * 31)]) ⟨hx, hb, hml, hown, hts⟩ (c_X3_postsAt l D cs ad v H.size (k + 1 + 1) (kd_2_0 (kd_1_0 hk)) (nI i)) (cwV 1 hts gX5_digest_X3_postsAt rfl rfl rfl (by decide +kernel) ⟨Nat.le_of_ble_eq_true rfl, Nat.le_of_ble_eq_true rfl⟩) (g_preV hP hD hK hN (k := (k + 1 + 1)) (kd_2_0 (kd_1_0 hk)) (by decide) rfl rfl rfl rfl) rfl rfl hl.1 rfl (lv_room (Nat.le_of_ble_eq_true rfl)) dX5_digest_91 ⟨Nat.le_of_ble_eq_true rfl, Nat.le_of_ble_eq_true rfl⟩) (fun H locs hP hD hS => ?_)
          rw [show f_X3_postsAt v (k + 1 + 1) (nI i) = I (k + 1 + 1 + 3) i from (by rw [posts_in (by omega), hv.1.s 3 (by decide)])]
          refine lv_i2l (v := (I (k + 1 + 1 + 3) i).toInt64) hx hb dX5_digest_94 rfl ?_
          refine lv_ladd hx hb dX5_digest_95 ?_
          refine lv_lstore_n (lv' := [(1, .long ((((((x * 31) + ((I (k + 1 + 1 + 1) i).toInt64)) * 31) + ((I (k + 1 + 1 + 2) i).toInt64)) * 31) + ((I (k + 1 + 1 + 3) i).toInt64))), (3, .int (nI i)), (0, .ref (ad k))]) hx hb dX5_digest_96 rfl hl (by decide) rfl (fun ls hl => ?_)
          refine lv_iinc (v := nI (i + 1)) (lv' := [(3, .int (nI (i + 1))), (1, .long ((((((x * 31) + ((I (k + 1 + 1 + 1) i).toInt64)) * 31) + ((I (k + 1 + 1 + 2) i).toInt64)) * 31) + ((I (k + 1 + 1 + 3) i).toInt64))), (0, .ref (ad k))]) hx hb dX5_digest_97 hl (k := 1) rfl (nI_1 i) (by decide) rfl (fun ls hl => ?_)
          refine lv_goto (tgt := 33) hx hb dX5_digest_100 (by decide) ?_
          exact ih33 (i + 1) ((((((x * 31) + ((I (k + 1 + 1 + 1) i).toInt64)) * 31) + ((I (k + 1 + 1 + 2) i).toInt64)) * 31) + ((I (k + 1 + 1 + 3) i).toInt64)) v _ _ _ (by omega) hv (by rw [hd_]; rfl) (by omega) hP hD hS (lv_sub hl [0, 1, 2] rfl)
    · skip
      have nc_1 : ¬ 9 ≤ i := fun z9_ => c_1 ((nI_leI (a := 9) (b := i) (by omega) (by omega)).mpr z9_)
      refine lv_lload_n hx hb dX5_digest_12 rfl (lv_at hl 1 rfl) ?_
      refine lv_ldc2 (v := 31) hx hb hown (hts _ (List.mem_of_getElem? (i := 2) rfl)) dX5_digest_13 ?_
      refine lv_lmul hx hb dX5_digest_16 ?_
      refine lv_aload_n hx hb dX5_digest_17 rfl (lv_at hl 2 rfl) ?_
      refine lv_iload_n hx hb dX5_digest_18 rfl (lv_at hl 0 rfl) ?_
      refine g_calli hD hS hA (va_runV (As := [.int (nI i)]) (rest := [.long (x * 31)]) ⟨hx, hb, hml, hown, hts⟩ (c0_X5_count l D cs ad v H.size k hk i (by omega) N (hw.eqx hv.1) hv.2) (cwV 1 hts gX5_digest_X5_count rfl rfl rfl (by decide +kernel) ⟨Nat.le_of_ble_eq_true rfl, Nat.le_of_ble_eq_true rfl⟩) (g_preV hP hD hK hN (k := k) hk (by decide) rfl rfl rfl rfl) rfl rfl hl.1 rfl (lv_room (Nat.le_of_ble_eq_true rfl)) dX5_digest_19 ⟨Nat.le_of_ble_eq_true rfl, Nat.le_of_ble_eq_true rfl⟩) (fun ru5 u5 H locs hu5 hP hD hS => ?_)
      obtain ⟨hu5, hru5⟩ := hu5
      rw [hru5, countF_eq hv.1]
      refine lv_i2l (v := (countF I (k + 1) N (nI i)).toInt64) hx hb dX5_digest_22 rfl ?_
      refine lv_ladd hx hb dX5_digest_23 ?_
      refine lv_lstore_n (lv' := [(1, .long ((x * 31) + ((countF I (k + 1) N (nI i)).toInt64))), (3, .int (nI i)), (0, .ref (ad k))]) hx hb dX5_digest_24 rfl hl (by decide) rfl (fun ls hl => ?_)
      refine lv_iinc (v := nI (i + 1)) (lv' := [(3, .int (nI (i + 1))), (1, .long ((x * 31) + ((countF I (k + 1) N (nI i)).toInt64))), (0, .ref (ad k))]) hx hb dX5_digest_25 hl (k := 1) rfl (nI_1 i) (by decide) rfl (fun ls hl => ?_)
      refine lv_goto (tgt := 6) hx hb dX5_digest_28 (by decide) ?_
      exact ih6 (i + 1) ((x * 31) + ((countF I (k + 1) N (nI i)).toInt64)) u5 _ _ _ (by omega) ⟨hu5.1.tr hv.1, hu5.2⟩ (by rw [hd_]; rfl) (by omega) hP hD hS (lv_sub hl [0, 1, 2] rfl)
