def th_X5_pass (I : Mm) (k : Nat) (a : Int32) (N : Nat) : Nat := (if th_X5_requireTicks a = 0 then 0 else (th_X5_requireTicks a))
set_option maxHeartbeats 4000000 in
set_option maxRecDepth 100000 in
theorem c_X5_pass (l : Launch) (hst : l.stackTraces = false) (D : va_G) (cs : Nat → ClassId) (ad : Nat → Nat) (I : Mm) (sz : Nat) (k : Nat) (hk : kC.getD k 0 = 1) (a : Int32) (N : Nat) (hw : WT I (k + 1) N) (hR : RX (k + 1) I) (hR2 : RX (k + 26) I) : MetXI l yX5_pass wsX5_pass ({ frames := 7, cells := 1, slots := 6, locals := 138 }) kC cs D ad I sz [.ref (ad k), .int a] (fun r u => th_X5_pass I k a N = 0 ∧ FX k u (tkI I (k + 1) N a.toNatClampNeg) ∧ r = passR I (k + 1) N a.toNatClampNeg) (thrE (th_X5_pass I k a N)) 1 6 := by
  refine g_xmet (cc := cX5_pass) (maxL := 4) (ret := (some .int)) (by decide) rfl (Nat.le_of_ble_eq_true rfl) ?_
  intro pg e s m args below meth c ls hx hb hr hml hts hown hlocks hsz hP hD hK hN hS hA hl hX ht
  have hown : s.vm.findClass RX5 = some m.cls := hown
  have hl : lv_has ls 4 [(0, .ref (ad k)), (1, .int a)] := hl
  have hN3 := hw.1
  have hN8 := hw.2.1
  refine lv_iload_n hx hb dX5_pass_0 rfl (lv_at hl 1 rfl) ?_
  refine g_xcallv hD hS hA (vx_runS (As := [.int a]) (rest := []) ⟨hx, hb, hml, hown, hts⟩ (c_X5_requireTicks l hst D cs ad I s.heap.size a) (va_cwS 1 hts gX5_pass_X5_requireTicks rfl rfl rfl (by decide +kernel) ⟨Nat.le_of_ble_eq_true rfl, Nat.le_of_ble_eq_true rfl⟩) (g_xpreS hP hD hK hN hX hS hsz) rfl rfl hl.1 rfl (lv_room (Nat.le_of_ble_eq_true rfl)) dX5_pass_1 ⟨Nat.le_of_ble_eq_true rfl, Nat.le_of_ble_eq_true rfl⟩) (fun E ce q9 H locs hth9 hP hD hS hce hcv hcl => ?_) (fun u1 H locs hw1 hP hD hS => ?_)
  · skip
    have c_1 := thrE_ne hth9
    exact g_xout ht hlocks hce hcv hcl hP hD hS (by simp only [th_X5_pass, if_neg c_1]; exact hth9) (Nat.le_of_ble_eq_true rfl) (Nat.le_of_ble_eq_true rfl)
  · skip
    obtain ⟨c_1, hv1⟩ := hw1
    rw [hv1] at hP hD
    have ht9 := tk_c c_1
    refine lv_aload_n hx hb dX5_pass_4 rfl (lv_at hl 0 rfl) ?_
    refine g_get (κ := 1) (ci := 5) (v := .ref (ad (k + 1))) (C := RX5) (T := TX5) (N := 3) hx hb hts hown hK hP (k := k) hk (by decide) rfl (fun _ h => List.mem_cons_of_mem _ (List.mem_append_left _ (List.mem_append_left _ (List.mem_append_left _ (List.mem_append_left _ (List.mem_append_left _ (List.mem_append_right _ h))))))) rfl 0 (by decide) (hts _ (List.mem_of_getElem? (i := 1) rfl)) (fun _ h9 => h9) rfl dX5_pass_5 ?_
    refine g_callF (F := f_X0_openedByCrew I (k + 1) N) hD hS hA (va_runV (As := []) (rest := []) ⟨hx, hb, hml, hown, hts⟩ (c_X0_openedByCrew l D cs ad I H.size (k + 1) (kd_1_0 hk) N hN3 hN8) (cwV 0 hts gX5_pass_X0_openedByCrew rfl rfl rfl (by decide +kernel) ⟨Nat.le_of_ble_eq_true rfl, Nat.le_of_ble_eq_true rfl⟩) (g_preV hP hD hK hN (k := (k + 1)) (kd_1_0 hk) (by decide) rfl rfl rfl rfl) rfl rfl hl.1 rfl (lv_room (Nat.le_of_ble_eq_true rfl)) dX5_pass_8 ⟨Nat.le_of_ble_eq_true rfl, Nat.le_of_ble_eq_true rfl⟩) (fun H locs hP hD hS => ?_)
    refine lv_istore_n (lv' := [(2, .int (f_X0_openedByCrew I (k + 1) N)), (0, .ref (ad k)), (1, .int a)]) hx hb dX5_pass_11 rfl hl (by decide) rfl (fun ls hl => ?_)
    refine lv_iconst (v := nI 0) hx hb dX5_pass_12 (by decide) ?_
    refine lv_istore_n (lv' := [(3, .int (nI 0)), (2, .int (f_X0_openedByCrew I (k + 1) N)), (0, .ref (ad k)), (1, .int a)]) hx hb dX5_pass_13 rfl hl (by decide) rfl (fun ls hl => ?_)
    suffices KL14 : ∀ (fuel : Nat) (i : Nat) (v : Mm) (H : Heap) (locs : List Loc) (ls : Array Slot), (i ≤ a.toNatClampNeg) → (EX (k + 1) v (tkI I (k + 1) N i)) → a.toNatClampNeg - i < fuel → va_P D vwCl (gw kC cs ad v) H → va_D (gA kC ad sz) (gw kC cs ad v) → va_S (gA kC ad sz) s.heap H locs → lv_has ls 4 [(3, .int (nI i)), (2, .int (f_X0_openedByCrew I (k + 1) N)), (0, .ref (ad k)), (1, .int a)] → W pg l e ({ frames := 7, cells := 1, slots := 6, locals := 138 }) s m args below meth c H locs 1 6 (vx_MQ below (va_Qi (fun r u => th_X5_pass I k a N = 0 ∧ FX k u (tkI I (k + 1) N a.toNatClampNeg) ∧ r = passR I (k + 1) N a.toNatClampNeg) (wat kC cs D ad (gA kC ad sz)) (gA kC ad sz)) (XC0 kC cs D ad I sz (thrE (th_X5_pass I k a N))) args s 1 6 (gA kC ad sz)) (F0 m 14 ls []) from KL14 _ 0 I _ _ _ (by omega) ⟨EqX.rf _ _, hR⟩ (Nat.lt_succ_self _) hP hD hS (lv_sub hl [0, 1, 2, 3] rfl)
    intro fuel14
    induction fuel14 with
    | zero => intro _ _ _ _ _ _ _ hm; exact absurd hm (Nat.not_lt_zero _)
    | succ fuel14 ih14 =>
      intro i v H locs ls hi hv hm14 hP hD hS hl
      refine lv_iload_n hx hb dX5_pass_14 rfl (lv_at hl 0 rfl) ?_
      refine lv_iload_n hx hb dX5_pass_15 rfl (lv_at hl 3 rfl) ?_
      refine lv_topi (fun y9 ey9 => ?_)
      obtain rfl := ey9.trans ht9.1
      refine lv_icmp_ge (tgt := 32) hx hb dX5_pass_16 (by decide) (fun c_2 => ?_) (fun c_2 => ?_)
      · skip
        have nc_2 : a.toNatClampNeg ≤ i := (nI_leI (a := a.toNatClampNeg) (b := i) (by omega) (by omega)).mp c_2
        refine lv_aload_n hx hb dX5_pass_32 rfl (lv_at hl 2 rfl) ?_
        refine g_get (κ := 1) (ci := 5) (v := .ref (ad (k + 1))) (C := RX5) (T := TX5) (N := 3) hx hb hts hown hK hP (k := k) hk (by decide) rfl (fun _ h => List.mem_cons_of_mem _ (List.mem_append_left _ (List.mem_append_left _ (List.mem_append_left _ (List.mem_append_left _ (List.mem_append_left _ (List.mem_append_right _ h))))))) rfl 0 (by decide) (hts _ (List.mem_of_getElem? (i := 1) rfl)) (fun _ h9 => h9) rfl dX5_pass_33 ?_
        refine g_callF (F := f_X0_openedByCrew v (k + 1) N) hD hS hA (va_runV (As := []) (rest := []) ⟨hx, hb, hml, hown, hts⟩ (c_X0_openedByCrew l D cs ad v H.size (k + 1) (kd_1_0 hk) N (by rw [hv.1.z]; exact (hw.tkI i).1) hN8) (cwV 0 hts gX5_pass_X0_openedByCrew rfl rfl rfl (by decide +kernel) ⟨Nat.le_of_ble_eq_true rfl, Nat.le_of_ble_eq_true rfl⟩) (g_preV hP hD hK hN (k := (k + 1)) (kd_1_0 hk) (by decide) rfl rfl rfl rfl) rfl rfl hl.1 rfl (lv_room (Nat.le_of_ble_eq_true rfl)) dX5_pass_36 ⟨Nat.le_of_ble_eq_true rfl, Nat.le_of_ble_eq_true rfl⟩) (fun H locs hP hD hS => ?_)
        refine lv_iload_n hx hb dX5_pass_39 rfl (lv_at hl 1 rfl) ?_
        refine lv_isub hx hb dX5_pass_40 ?_
        refine W.widen (k := 1) (n := 6) (Nat.le_of_ble_eq_true rfl) (Nat.le_of_ble_eq_true rfl) ?_
        refine vx_ret ?_
        exact g_iret (v := (f_X0_openedByCrew v (k + 1) N) - (f_X0_openedByCrew I (k + 1) N)) hx hb hr hlocks rfl hP hD hS ⟨(by simp only [th_X5_pass, if_pos c_1, if_pos c_2]), (by rw [show i = a.toNatClampNeg from by omega] at hv; exact ⟨FX.tk hN8 hv hR2, by rw [opened_eq hv.1]; rfl⟩)⟩ dX5_pass_41
      · skip
        have nc_2 : ¬ a.toNatClampNeg ≤ i := fun z9_ => c_2 ((nI_leI (a := a.toNatClampNeg) (b := i) (by omega) (by omega)).mpr z9_)
        refine lv_aload_n hx hb dX5_pass_19 rfl (lv_at hl 2 rfl) ?_
        refine g_get (κ := 1) (ci := 5) (v := .ref (ad (k + 1))) (C := RX5) (T := TX5) (N := 3) hx hb hts hown hK hP (k := k) hk (by decide) rfl (fun _ h => List.mem_cons_of_mem _ (List.mem_append_left _ (List.mem_append_left _ (List.mem_append_left _ (List.mem_append_left _ (List.mem_append_left _ (List.mem_append_right _ h))))))) rfl 0 (by decide) (hts _ (List.mem_of_getElem? (i := 1) rfl)) (fun _ h9 => h9) rfl dX5_pass_20 ?_
        refine g_callv hD hS hA (va_runV (As := []) (rest := []) ⟨hx, hb, hml, hown, hts⟩ (c_X0_tick l D cs ad v H.size (k + 1) (kd_1_0 hk) N ((hw.tkI i).eqx hv.1) hv.2) (cwV 0 hts gX5_pass_X0_tick rfl rfl rfl (by decide +kernel) ⟨Nat.le_of_ble_eq_true rfl, Nat.le_of_ble_eq_true rfl⟩) (g_preV hP hD hK hN (k := (k + 1)) (kd_1_0 hk) (by decide) rfl rfl rfl rfl) rfl rfl hl.1 rfl (lv_room (Nat.le_of_ble_eq_true rfl)) dX5_pass_23 ⟨Nat.le_of_ble_eq_true rfl, Nat.le_of_ble_eq_true rfl⟩) (fun u3 H locs hu3 hP hD hS => ?_)
        refine lv_iinc (v := nI (i + 1)) (lv' := [(3, .int (nI (i + 1))), (2, .int (f_X0_openedByCrew I (k + 1) N)), (0, .ref (ad k)), (1, .int a)]) hx hb dX5_pass_26 hl (k := 0) rfl (nI_1 i) (by decide) rfl (fun ls hl => ?_)
        refine lv_goto (tgt := 14) hx hb dX5_pass_29 (by decide) ?_
        exact ih14 (i + 1) u3 _ _ _ (by omega) (tkI_step (kd_1_0 hk) hN8 hv hu3) (by omega) hP hD hS (lv_sub hl [0, 1, 2, 3] rfl)

def th_X5_foresee (I : Mm) (k : Nat) (a : Int32) (b : Int32) (N : Nat) : Nat := (if th_X5_requireTicks a = 0 then (if b < 0 then 1 else (if b ≤ (nI 3) then 0 else 1)) else (th_X5_requireTicks a))
set_option maxHeartbeats 4000000 in
set_option maxRecDepth 100000 in
theorem c_X5_foresee (l : Launch) (hst : l.stackTraces = false) (D : va_G) (cs : Nat → ClassId) (ad : Nat → Nat) (I : Mm) (sz : Nat) (k : Nat) (hk : kC.getD k 0 = 1) (a : Int32) (b : Int32) (N : Nat) (hw : WT I (k + 1) N) (hR : RX (k + 1) I) (hR2 : RX (k + 26) I) : MetXI l yX5_foresee wsX5_foresee ({ frames := 7, cells := 2, slots := 12, locals := 138 }) kC cs D ad I sz [.ref (ad k), .int a, .int b] (fun r u => th_X5_foresee I k a b N = 0 ∧ FX k u I ∧ r = fsF (tkI (ahd I k) (k + 26) N a.toNatClampNeg) (k + 26) N b) (thrE (th_X5_foresee I k a b N)) 2 12 := by
  refine g_xmet (cc := cX5_foresee) (maxL := 4) (ret := (some .int)) (by decide) rfl (Nat.le_of_ble_eq_true rfl) ?_
  intro pg e s m args below meth c ls hx hb hr hml hts hown hlocks hsz hP hD hK hN hS hA hl hX ht
  have hown : s.vm.findClass RX5 = some m.cls := hown
  have hl : lv_has ls 4 [(0, .ref (ad k)), (1, .int a), (2, .int b)] := hl
  have hN3 := hw.1
  have hN8 := hw.2.1
  refine lv_iload_n hx hb dX5_foresee_0 rfl (lv_at hl 1 rfl) ?_
  refine g_xcallv hD hS hA (vx_runS (As := [.int a]) (rest := []) ⟨hx, hb, hml, hown, hts⟩ (c_X5_requireTicks l hst D cs ad I s.heap.size a) (va_cwS 1 hts gX5_foresee_X5_requireTicks rfl rfl rfl (by decide +kernel) ⟨Nat.le_of_ble_eq_true rfl, Nat.le_of_ble_eq_true rfl⟩) (g_xpreS hP hD hK hN hX hS hsz) rfl rfl hl.1 rfl (lv_room (Nat.le_of_ble_eq_true rfl)) dX5_foresee_1 ⟨Nat.le_of_ble_eq_true rfl, Nat.le_of_ble_eq_true rfl⟩) (fun E ce q9 H locs hth9 hP hD hS hce hcv hcl => ?_) (fun u1 H locs hw1 hP hD hS => ?_)
  · skip
    have c_1 := thrE_ne hth9
    exact g_xout ht hlocks hce hcv hcl hP hD hS (by simp only [th_X5_foresee, if_neg c_1]; exact hth9) (Nat.le_of_ble_eq_true rfl) (Nat.le_of_ble_eq_true rfl)
  · skip
    obtain ⟨c_1, hv1⟩ := hw1
    rw [hv1] at hP hD
    have ht9 := tk_c c_1
    refine lv_iload_n hx hb dX5_foresee_4 rfl (lv_at hl 2 rfl) ?_
    refine lv_if_lt (tgt := 13) hx hb dX5_foresee_5 (by decide) (fun c_2 => ?_) (fun c_2 => ?_)
    · skip
      exact g_throw (own := RX5) (cls := "java/lang/IndexOutOfBoundsException") (text := "what is foreseen is 0 to 3") (names := ["java/lang/RuntimeException", "java/lang/Exception"]) (ik := 76) (is := 207) (ic := 80) hx hb hst hown (by decide +kernel) (by decide +kernel) (hts _ (List.mem_of_getElem? (i := 1) rfl)) (hts _ (List.mem_of_getElem? (i := 2) rfl)) rfl (by decide) hN (fun w h => hts w (List.mem_cons_of_mem _ (List.mem_append_left _ (List.mem_append_right _ h)))) xb_80 xg_80 hX hS hP hD (hl.1.trans hml.symm) dX5_foresee_13 dX5_foresee_16 dX5_foresee_17 dX5_foresee_19 dX5_foresee_22 ht (Nat.le_of_ble_eq_true rfl) (Nat.le_of_ble_eq_true rfl) (Nat.le_of_ble_eq_true rfl) (Nat.le_of_ble_eq_true rfl) hlocks (Nat.le_of_ble_eq_true rfl) (Nat.le_of_ble_eq_true rfl) (by simp only [th_X5_foresee, if_pos c_1, if_pos c_2]; exact thr_1)
    · skip
      refine lv_iload_n hx hb dX5_foresee_8 rfl (lv_at hl 2 rfl) ?_
      refine lv_iconst (v := nI 3) hx hb dX5_foresee_9 (by decide) ?_
      refine lv_icmp_le (tgt := 23) hx hb dX5_foresee_10 (by decide) (fun c_3 => ?_) (fun c_3 => ?_)
      · skip
        refine lv_aload_n hx hb dX5_foresee_23 rfl (lv_at hl 0 rfl) ?_
        refine g_get (κ := 1) (ci := 5) (v := .ref (ad (k + 26))) (C := RX5) (T := TX5) (N := 3) hx hb hts hown hK hP (k := k) hk (by decide) rfl (fun _ h => List.mem_cons_of_mem _ (List.mem_append_left _ (List.mem_append_left _ (List.mem_append_left _ (List.mem_append_left _ (List.mem_append_left _ (List.mem_append_left _ (List.mem_append_right _ h)))))))) rfl 1 (by decide) (hts _ (List.mem_of_getElem? (i := 3) rfl)) (fun _ h9 => h9) rfl dX5_foresee_24 ?_
        refine lv_aload_n hx hb dX5_foresee_27 rfl (lv_at hl 0 rfl) ?_
        refine g_get (κ := 1) (ci := 5) (v := .ref (ad (k + 1))) (C := RX5) (T := TX5) (N := 3) hx hb hts hown hK hP (k := k) hk (by decide) rfl (fun _ h => List.mem_cons_of_mem _ (List.mem_append_left _ (List.mem_append_left _ (List.mem_append_left _ (List.mem_append_left _ (List.mem_append_left _ (List.mem_append_left _ (List.mem_append_right _ h)))))))) rfl 0 (by decide) (hts _ (List.mem_of_getElem? (i := 4) rfl)) (fun _ h9 => h9) rfl dX5_foresee_28 ?_
        refine g_callM (M := m_X0_becomeLike I (k + 26) (k + 1)) hD hS hA (va_runV (As := [.ref (ad (k + 1))]) (rest := []) ⟨hx, hb, hml, hown, hts⟩ (c_X0_becomeLike l D cs ad I H.size (k + 26) (kd_1_1 hk) (k + 1) (kd_1_0 hk) (by omega) hw.2.2.2.1) (cwV 1 hts gX5_foresee_X0_becomeLike rfl rfl rfl (by decide +kernel) ⟨Nat.le_of_ble_eq_true rfl, Nat.le_of_ble_eq_true rfl⟩) (g_preV hP hD hK hN (k := (k + 26)) (kd_1_1 hk) (by decide) rfl rfl rfl rfl) rfl rfl hl.1 rfl (lv_room (Nat.le_of_ble_eq_true rfl)) dX5_foresee_31 ⟨Nat.le_of_ble_eq_true rfl, Nat.le_of_ble_eq_true rfl⟩) (fun u4 H locs hu4 hP hD hS => ?_)
        refine lv_iconst (v := nI 0) hx hb dX5_foresee_34 (by decide) ?_
        refine lv_istore_n (lv' := [(3, .int (nI 0)), (0, .ref (ad k)), (1, .int a), (2, .int b)]) hx hb dX5_foresee_35 rfl hl (by decide) rfl (fun ls hl => ?_)
        suffices KL36 : ∀ (fuel : Nat) (i : Nat) (v : Mm) (H : Heap) (locs : List Loc) (ls : Array Slot), (i ≤ a.toNatClampNeg) → (EX (k + 26) v (tkI (ahd I k) (k + 26) N i)) → a.toNatClampNeg - i < fuel → va_P D vwCl (gw kC cs ad v) H → va_D (gA kC ad sz) (gw kC cs ad v) → va_S (gA kC ad sz) s.heap H locs → lv_has ls 4 [(3, .int (nI i)), (0, .ref (ad k)), (1, .int a), (2, .int b)] → W pg l e ({ frames := 7, cells := 2, slots := 12, locals := 138 }) s m args below meth c H locs 1 6 (vx_MQ below (va_Qi (fun r u => th_X5_foresee I k a b N = 0 ∧ FX k u I ∧ r = fsF (tkI (ahd I k) (k + 26) N a.toNatClampNeg) (k + 26) N b) (wat kC cs D ad (gA kC ad sz)) (gA kC ad sz)) (XC0 kC cs D ad I sz (thrE (th_X5_foresee I k a b N))) args s 2 12 (gA kC ad sz)) (F0 m 36 ls []) from KL36 _ 0 u4 _ _ _ (by omega) (by rw [hu4]; exact ⟨EqX.rf _ _, RX.ahd hR2⟩) (Nat.lt_succ_self _) hP hD hS (lv_sub hl [0, 1, 2, 3] rfl)
        intro fuel36
        induction fuel36 with
        | zero => intro _ _ _ _ _ _ _ hm; exact absurd hm (Nat.not_lt_zero _)
        | succ fuel36 ih36 =>
          intro i v H locs ls hi hv hm36 hP hD hS hl
          refine lv_iload_n hx hb dX5_foresee_36 rfl (lv_at hl 0 rfl) ?_
          refine lv_iload_n hx hb dX5_foresee_37 rfl (lv_at hl 2 rfl) ?_
          refine lv_topi (fun y9 ey9 => ?_)
          obtain rfl := ey9.trans ht9.1
          refine lv_icmp_ge (tgt := 54) hx hb dX5_foresee_38 (by decide) (fun c_5 => ?_) (fun c_5 => ?_)
          · skip
            have nc_5 : a.toNatClampNeg ≤ i := (nI_leI (a := a.toNatClampNeg) (b := i) (by omega) (by omega)).mp c_5
            refine lv_iload_n hx hb dX5_foresee_54 rfl (lv_at hl 3 rfl) ?_
            by_cases c_6 : b = nI 0
            · skip
              refine lv_tableIn (tgt := 80) (off := 25) hx hb dX5_foresee_55 (by rw [c_6]; decide) (by rw [c_6]; decide) (by rw [c_6]; decide) (by decide) ?_
              refine lv_aload_n hx hb dX5_foresee_80 rfl (lv_at hl 1 rfl) ?_
              refine g_get (κ := 1) (ci := 5) (v := .ref (ad (k + 26))) (C := RX5) (T := TX5) (N := 3) hx hb hts hown hK hP (k := k) hk (by decide) rfl (fun _ h => List.mem_cons_of_mem _ (List.mem_append_left _ (List.mem_append_left _ (List.mem_append_left _ (List.mem_append_left _ (List.mem_append_left _ (List.mem_append_left _ (List.mem_append_right _ h)))))))) rfl 1 (by decide) (hts _ (List.mem_of_getElem? (i := 3) rfl)) (fun _ h9 => h9) rfl dX5_foresee_81 ?_
              refine g_callF (F := f_X0_buriedCrew v (k + 26) N) hD hS hA (va_runV (As := []) (rest := []) ⟨hx, hb, hml, hown, hts⟩ (c_X0_buriedCrew l D cs ad v H.size (k + 26) (kd_1_1 hk) N (by rw [hv.1.z]; exact (hw.ahd.tkI i).1) hN8) (cwV 0 hts gX5_foresee_X0_buriedCrew rfl rfl rfl (by decide +kernel) ⟨Nat.le_of_ble_eq_true rfl, Nat.le_of_ble_eq_true rfl⟩) (g_preV hP hD hK hN (k := (k + 26)) (kd_1_1 hk) (by decide) rfl rfl rfl rfl) rfl rfl hl.1 rfl (lv_room (Nat.le_of_ble_eq_true rfl)) dX5_foresee_84 ⟨Nat.le_of_ble_eq_true rfl, Nat.le_of_ble_eq_true rfl⟩) (fun H locs hP hD hS => ?_)
              refine W.widen (k := 2) (n := 12) (Nat.le_of_ble_eq_true rfl) (Nat.le_of_ble_eq_true rfl) ?_
              refine vx_ret ?_
              exact g_iret (v := f_X0_buriedCrew v (k + 26) N) hx hb hr hlocks rfl hP hD hS ⟨(by simp only [th_X5_foresee, if_pos c_1, if_neg c_2, if_pos c_3, if_pos c_5, if_pos c_6]), (by rw [show i = a.toNatClampNeg from by omega] at hv; exact ⟨FX.ahd hN8 hv hR, by rw [bur_eq hv.1]; simp only [fsF]; rw [if_pos c_6]⟩)⟩ dX5_foresee_87
            · skip
              by_cases c_7 : b = nI 1
              · skip
                refine lv_tableIn (tgt := 88) (off := 33) hx hb dX5_foresee_55 (by rw [c_7]; decide) (by rw [c_7]; decide) (by rw [c_7]; decide) (by decide) ?_
                refine lv_aload_n hx hb dX5_foresee_88 rfl (lv_at hl 1 rfl) ?_
                refine g_get (κ := 1) (ci := 5) (v := .ref (ad (k + 26))) (C := RX5) (T := TX5) (N := 3) hx hb hts hown hK hP (k := k) hk (by decide) rfl (fun _ h => List.mem_cons_of_mem _ (List.mem_append_left _ (List.mem_append_left _ (List.mem_append_left _ (List.mem_append_left _ (List.mem_append_left _ (List.mem_append_left _ (List.mem_append_right _ h)))))))) rfl 1 (by decide) (hts _ (List.mem_of_getElem? (i := 3) rfl)) (fun _ h9 => h9) rfl dX5_foresee_89 ?_
                refine g_getN (κ := 2) (ci := 0) (v := .ref (ad (k + 26 + 1))) (C := RX0) (T := TX0) (N := 7) hx hb hts hown hK hP (k := (k + 26)) (kd_1_1 hk) (by decide) rfl (fun _ h => List.mem_cons_of_mem _ (List.mem_append_left _ (List.mem_append_left _ (List.mem_append_left _ (List.mem_append_left _ (List.mem_append_left _ (List.mem_append_right _ h))))))) rfl 0 (by decide) (nwu16 hN) (fun _ h9 => h9) rfl dX5_foresee_92 ?_
                refine g_callF (F := f_X3_openCells v (k + 26 + 1)) hD hS hA (va_runV (As := []) (rest := []) ⟨hx, hb, hml, hown, hts⟩ (c_X3_openCells l D cs ad v H.size (k + 26 + 1) (kd_2_0 (kd_1_1 hk))) (cwV 0 hts gX5_foresee_X3_openCells rfl rfl rfl (by decide +kernel) ⟨Nat.le_of_ble_eq_true rfl, Nat.le_of_ble_eq_true rfl⟩) (g_preV hP hD hK hN (k := (k + 26 + 1)) (kd_2_0 (kd_1_1 hk)) (by decide) rfl rfl rfl rfl) rfl rfl hl.1 rfl (lv_room (Nat.le_of_ble_eq_true rfl)) dX5_foresee_95 ⟨Nat.le_of_ble_eq_true rfl, Nat.le_of_ble_eq_true rfl⟩) (fun H locs hP hD hS => ?_)
                refine W.widen (k := 2) (n := 12) (Nat.le_of_ble_eq_true rfl) (Nat.le_of_ble_eq_true rfl) ?_
                refine vx_ret ?_
                exact g_iret (v := f_X3_openCells v (k + 26 + 1)) hx hb hr hlocks rfl hP hD hS ⟨(by simp only [th_X5_foresee, if_pos c_1, if_neg c_2, if_pos c_3, if_pos c_5, if_neg c_6, if_pos c_7]), (by rw [show i = a.toNatClampNeg from by omega] at hv; exact ⟨FX.ahd hN8 hv hR, by rw [openCells_eq hv.1]; simp only [fsF]; rw [if_neg c_6, if_pos c_7]⟩)⟩ dX5_foresee_98
              · skip
                by_cases c_8 : b = nI 2
                · skip
                  refine lv_tableIn (tgt := 99) (off := 44) hx hb dX5_foresee_55 (by rw [c_8]; decide) (by rw [c_8]; decide) (by rw [c_8]; decide) (by decide) ?_
                  refine lv_aload_n hx hb dX5_foresee_99 rfl (lv_at hl 1 rfl) ?_
                  refine g_get (κ := 1) (ci := 5) (v := .ref (ad (k + 26))) (C := RX5) (T := TX5) (N := 3) hx hb hts hown hK hP (k := k) hk (by decide) rfl (fun _ h => List.mem_cons_of_mem _ (List.mem_append_left _ (List.mem_append_left _ (List.mem_append_left _ (List.mem_append_left _ (List.mem_append_left _ (List.mem_append_left _ (List.mem_append_right _ h)))))))) rfl 1 (by decide) (hts _ (List.mem_of_getElem? (i := 3) rfl)) (fun _ h9 => h9) rfl dX5_foresee_100 ?_
                  refine g_callF (F := f_X0_oilOfCrew v (k + 26) N) hD hS hA (va_runV (As := []) (rest := []) ⟨hx, hb, hml, hown, hts⟩ (c_X0_oilOfCrew l D cs ad v H.size (k + 26) (kd_1_1 hk) N (by rw [hv.1.z]; exact (hw.ahd.tkI i).1) hN8) (cwV 0 hts gX5_foresee_X0_oilOfCrew rfl rfl rfl (by decide +kernel) ⟨Nat.le_of_ble_eq_true rfl, Nat.le_of_ble_eq_true rfl⟩) (g_preV hP hD hK hN (k := (k + 26)) (kd_1_1 hk) (by decide) rfl rfl rfl rfl) rfl rfl hl.1 rfl (lv_room (Nat.le_of_ble_eq_true rfl)) dX5_foresee_103 ⟨Nat.le_of_ble_eq_true rfl, Nat.le_of_ble_eq_true rfl⟩) (fun H locs hP hD hS => ?_)
                  refine W.widen (k := 2) (n := 12) (Nat.le_of_ble_eq_true rfl) (Nat.le_of_ble_eq_true rfl) ?_
                  refine vx_ret ?_
                  exact g_iret (v := f_X0_oilOfCrew v (k + 26) N) hx hb hr hlocks rfl hP hD hS ⟨(by simp only [th_X5_foresee, if_pos c_1, if_neg c_2, if_pos c_3, if_pos c_5, if_neg c_6, if_neg c_7, if_pos c_8]), (by rw [show i = a.toNatClampNeg from by omega] at hv; exact ⟨FX.ahd hN8 hv hR, by rw [oil_eq hv.1]; simp only [fsF]; rw [if_neg c_6, if_neg c_7, if_pos c_8]⟩)⟩ dX5_foresee_106
                · skip
                  have ho : ∀ j : Nat, j ≤ 2 → b ≠ nI j := by
                    intro j hj
                    rcases (show j = 0 ∨ j = 1 ∨ j = 2 from by omega) with rfl | rfl | rfl
                    · exact c_6
                    · exact c_7
                    · exact c_8
                  refine lv_tableOut (tgt := 107) hx hb dX5_foresee_55 (tsw (n := 2) (by decide) ho) (by decide) ?_
                  refine lv_aload_n hx hb dX5_foresee_107 rfl (lv_at hl 1 rfl) ?_
                  refine g_get (κ := 1) (ci := 5) (v := .ref (ad (k + 26))) (C := RX5) (T := TX5) (N := 3) hx hb hts hown hK hP (k := k) hk (by decide) rfl (fun _ h => List.mem_cons_of_mem _ (List.mem_append_left _ (List.mem_append_left _ (List.mem_append_left _ (List.mem_append_left _ (List.mem_append_left _ (List.mem_append_left _ (List.mem_append_right _ h)))))))) rfl 1 (by decide) (hts _ (List.mem_of_getElem? (i := 3) rfl)) (fun _ h9 => h9) rfl dX5_foresee_108 ?_
                  refine g_callF (F := f_X0_ordersOfCrew v (k + 26) N) hD hS hA (va_runV (As := []) (rest := []) ⟨hx, hb, hml, hown, hts⟩ (c_X0_ordersOfCrew l D cs ad v H.size (k + 26) (kd_1_1 hk) N (by rw [hv.1.z]; exact (hw.ahd.tkI i).1) hN8) (cwV 0 hts gX5_foresee_X0_ordersOfCrew rfl rfl rfl (by decide +kernel) ⟨Nat.le_of_ble_eq_true rfl, Nat.le_of_ble_eq_true rfl⟩) (g_preV hP hD hK hN (k := (k + 26)) (kd_1_1 hk) (by decide) rfl rfl rfl rfl) rfl rfl hl.1 rfl (lv_room (Nat.le_of_ble_eq_true rfl)) dX5_foresee_111 ⟨Nat.le_of_ble_eq_true rfl, Nat.le_of_ble_eq_true rfl⟩) (fun H locs hP hD hS => ?_)
                  refine W.widen (k := 2) (n := 12) (Nat.le_of_ble_eq_true rfl) (Nat.le_of_ble_eq_true rfl) ?_
                  refine vx_ret ?_
                  exact g_iret (v := f_X0_ordersOfCrew v (k + 26) N) hx hb hr hlocks rfl hP hD hS ⟨(by simp only [th_X5_foresee, if_pos c_1, if_neg c_2, if_pos c_3, if_pos c_5, if_neg c_6, if_neg c_7, if_neg c_8]), (by rw [show i = a.toNatClampNeg from by omega] at hv; exact ⟨FX.ahd hN8 hv hR, by rw [orders_eq hv.1]; simp only [fsF]; rw [if_neg c_6, if_neg c_7, if_neg c_8]⟩)⟩ dX5_foresee_114
          · skip
            have nc_5 : ¬ a.toNatClampNeg ≤ i := fun z9_ => c_5 ((nI_leI (a := a.toNatClampNeg) (b := i) (by omega) (by omega)).mpr z9_)
            refine lv_aload_n hx hb dX5_foresee_41 rfl (lv_at hl 1 rfl) ?_
            refine g_get (κ := 1) (ci := 5) (v := .ref (ad (k + 26))) (C := RX5) (T := TX5) (N := 3) hx hb hts hown hK hP (k := k) hk (by decide) rfl (fun _ h => List.mem_cons_of_mem _ (List.mem_append_left _ (List.mem_append_left _ (List.mem_append_left _ (List.mem_append_left _ (List.mem_append_left _ (List.mem_append_left _ (List.mem_append_right _ h)))))))) rfl 1 (by decide) (hts _ (List.mem_of_getElem? (i := 3) rfl)) (fun _ h9 => h9) rfl dX5_foresee_42 ?_
            refine g_callv hD hS hA (va_runV (As := []) (rest := []) ⟨hx, hb, hml, hown, hts⟩ (c_X0_tick l D cs ad v H.size (k + 26) (kd_1_1 hk) N ((hw.ahd.tkI i).eqx hv.1) hv.2) (cwV 0 hts gX5_foresee_X0_tick rfl rfl rfl (by decide +kernel) ⟨Nat.le_of_ble_eq_true rfl, Nat.le_of_ble_eq_true rfl⟩) (g_preV hP hD hK hN (k := (k + 26)) (kd_1_1 hk) (by decide) rfl rfl rfl rfl) rfl rfl hl.1 rfl (lv_room (Nat.le_of_ble_eq_true rfl)) dX5_foresee_45 ⟨Nat.le_of_ble_eq_true rfl, Nat.le_of_ble_eq_true rfl⟩) (fun u9 H locs hu9 hP hD hS => ?_)
            refine lv_iinc (v := nI (i + 1)) (lv' := [(3, .int (nI (i + 1))), (0, .ref (ad k)), (1, .int a), (2, .int b)]) hx hb dX5_foresee_48 hl (k := 0) rfl (nI_1 i) (by decide) rfl (fun ls hl => ?_)
            refine lv_goto (tgt := 36) hx hb dX5_foresee_51 (by decide) ?_
            exact ih36 (i + 1) u9 _ _ _ (by omega) (tkI_step (kd_1_1 hk) hN8 hv hu9) (by omega) hP hD hS (lv_sub hl [0, 1, 2, 3] rfl)
      · skip
        exact g_throw (own := RX5) (cls := "java/lang/IndexOutOfBoundsException") (text := "what is foreseen is 0 to 3") (names := ["java/lang/RuntimeException", "java/lang/Exception"]) (ik := 76) (is := 207) (ic := 80) hx hb hst hown (by decide +kernel) (by decide +kernel) (hts _ (List.mem_of_getElem? (i := 1) rfl)) (hts _ (List.mem_of_getElem? (i := 2) rfl)) rfl (by decide) hN (fun w h => hts w (List.mem_cons_of_mem _ (List.mem_append_left _ (List.mem_append_right _ h)))) xb_80 xg_80 hX hS hP hD (hl.1.trans hml.symm) dX5_foresee_13 dX5_foresee_16 dX5_foresee_17 dX5_foresee_19 dX5_foresee_22 ht (Nat.le_of_ble_eq_true rfl) (Nat.le_of_ble_eq_true rfl) (Nat.le_of_ble_eq_true rfl) (Nat.le_of_ble_eq_true rfl) hlocks (Nat.le_of_ble_eq_true rfl) (Nat.le_of_ble_eq_true rfl) (by simp only [th_X5_foresee, if_pos c_1, if_neg c_2, if_neg c_3]; exact thr_1)

def th_X5_meet (I : Mm) (k : Nat) (a : Int32) (b : Int32) (c0 : Int32) (N : Nat) : Nat := (if th_X5_member k a N = 0 then (if th_X5_member k b N = 0 then (if k + 1 + 8 + (1 + a.toNatClampNeg) = k + 1 + 8 + (1 + b.toNatClampNeg) then 2 else (if th_X5_requireTicks c0 = 0 then 0 else (th_X5_requireTicks c0))) else (th_X5_member k b N)) else (th_X5_member k a N))
set_option maxHeartbeats 4000000 in
set_option maxRecDepth 100000 in
theorem c_X5_meet (l : Launch) (hst : l.stackTraces = false) (D : va_G) (cs : Nat → ClassId) (ad : Nat → Nat) (I : Mm) (sz : Nat) (k : Nat) (hk : kC.getD k 0 = 1) (a : Int32) (b : Int32) (c0 : Int32) (N : Nat) (hw : WT I (k + 1) N) (hR : RX (k + 1) I) (hR2 : RX (k + 26) I) : MetXI l yX5_meet wsX5_meet ({ frames := 7, cells := 3, slots := 18, locals := 138 }) kC cs D ad I sz [.ref (ad k), .int a, .int b, .int c0] (fun r u => th_X5_meet I k a b c0 N = 0 ∧ FX k u I ∧ mtS (togA (ahd I k) (k + 26) N a.toNatClampNeg b.toNatClampNeg) c0.toNatClampNeg r) (thrE (th_X5_meet I k a b c0 N)) 3 18 := by
  refine g_xmet (cc := cX5_meet) (maxL := 7) (ret := (some .int)) (by decide) rfl (Nat.le_of_ble_eq_true rfl) ?_
  intro pg e s m args below meth c ls hx hb hr hml hts hown hlocks hsz hP hD hK hN hS hA hl hX ht
  have hown : s.vm.findClass RX5 = some m.cls := hown
  have hl : lv_has ls 7 [(0, .ref (ad k)), (1, .int a), (2, .int b), (3, .int c0)] := hl
  have hN3 := hw.1
  have hN8 := hw.2.1
  refine lv_aload_n hx hb dX5_meet_0 rfl (lv_at hl 0 rfl) ?_
  refine lv_iload_n hx hb dX5_meet_1 rfl (lv_at hl 1 rfl) ?_
  refine g_xcallq hD hS hA (vx_runV (As := [.int a]) (rest := []) ⟨hx, hb, hml, hown, hts⟩ (c_X5_member l hst D cs ad I s.heap.size k hk a N hw) (cwV 1 hts gX5_meet_X5_member rfl rfl rfl (by decide +kernel) ⟨Nat.le_of_ble_eq_true rfl, Nat.le_of_ble_eq_true rfl⟩) (g_xpreV hP hD hK hN hX hS hsz (k := k) hk (by decide) rfl rfl rfl rfl) rfl rfl hl.1 rfl (lv_room (Nat.le_of_ble_eq_true rfl)) dX5_meet_2 ⟨Nat.le_of_ble_eq_true rfl, Nat.le_of_ble_eq_true rfl⟩) (fun E ce q9 H locs hth9 hP hD hS hce hcv hcl => ?_) (fun r1 u1 H locs hw1 hP hD hS => ?_)
  · skip
    have c_1 := thrE_ne hth9
    exact g_xout ht hlocks hce hcv hcl hP hD hS (by simp only [th_X5_meet, if_neg c_1]; exact hth9) (Nat.le_of_ble_eq_true rfl) (Nat.le_of_ble_eq_true rfl)
  · skip
    obtain ⟨c_1, hv1, hr1⟩ := hw1
    rw [hv1] at hP hD
    rw [hr1]
    obtain ⟨hm1, hj1, he1⟩ := mb_c hN8 c_1
    rw [hm1]
    have hl1 := hw.left7 hj1
    refine lv_astore (lv' := [(4, .ref (ad (k + 1 + 8 + (1 + a.toNatClampNeg)))), (0, .ref (ad k)), (1, .int a), (2, .int b), (3, .int c0)]) hx hb dX5_meet_5 hl (by decide) rfl (fun ls hl => ?_)
    refine lv_aload_n hx hb dX5_meet_7 rfl (lv_at hl 1 rfl) ?_
    refine lv_iload_n hx hb dX5_meet_8 rfl (lv_at hl 3 rfl) ?_
    refine g_xcallq hD hS hA (vx_runV (As := [.int b]) (rest := []) ⟨hx, hb, hml, hown, hts⟩ (c_X5_member l hst D cs ad I H.size k hk b N hw) (cwV 1 hts gX5_meet_X5_member rfl rfl rfl (by decide +kernel) ⟨Nat.le_of_ble_eq_true rfl, Nat.le_of_ble_eq_true rfl⟩) (g_xpreV hP hD hK hN hX hS hsz (k := k) hk (by decide) rfl rfl rfl rfl) rfl rfl hl.1 rfl (lv_room (Nat.le_of_ble_eq_true rfl)) dX5_meet_9 ⟨Nat.le_of_ble_eq_true rfl, Nat.le_of_ble_eq_true rfl⟩) (fun E ce q9 H locs hth9 hP hD hS hce hcv hcl => ?_) (fun r2 u2 H locs hw2 hP hD hS => ?_)
    · skip
      have c_2 := thrE_ne hth9
      exact g_xout ht hlocks hce hcv hcl hP hD hS (by simp only [th_X5_meet, if_pos c_1, if_neg c_2]; exact hth9) (Nat.le_of_ble_eq_true rfl) (Nat.le_of_ble_eq_true rfl)
    · skip
      obtain ⟨c_2, hv2, hr2⟩ := hw2
      rw [hv2] at hP hD
      rw [hr2]
      obtain ⟨hm2, hj2, he2⟩ := mb_c hN8 c_2
      rw [hm2]
      have hl2 := hw.left7 hj2
      refine lv_astore (lv' := [(5, .ref (ad (k + 1 + 8 + (1 + b.toNatClampNeg)))), (4, .ref (ad (k + 1 + 8 + (1 + a.toNatClampNeg)))), (0, .ref (ad k)), (1, .int a), (2, .int b), (3, .int c0)]) hx hb dX5_meet_12 hl (by decide) rfl (fun ls hl => ?_)
      refine lv_aload hx hb dX5_meet_14 (lv_at hl 1 rfl) ?_
      refine lv_aload hx hb dX5_meet_16 (lv_at hl 0 rfl) ?_
      refine g_acmp_ne (k1 := k + 1 + 8 + (1 + a.toNatClampNeg)) (k2 := k + 1 + 8 + (1 + b.toNatClampNeg)) (tgt := 31) hx hb hD (gk_lt (kd_crew (kd_2_2 (kd_1_0 hk)) (show a.toNatClampNeg < 8 from by omega)) (by decide)) (gk_lt (kd_crew (kd_2_2 (kd_1_0 hk)) (show b.toNatClampNeg < 8 from by omega)) (by decide)) dX5_meet_18 (by decide) (fun c_3 => ?_) (fun c_3 => ?_)
      · skip
        refine lv_iload_n hx hb dX5_meet_31 rfl (lv_at hl 5 rfl) ?_
        refine g_xcallv hD hS hA (vx_runS (As := [.int c0]) (rest := []) ⟨hx, hb, hml, hown, hts⟩ (c_X5_requireTicks l hst D cs ad I H.size c0) (va_cwS 1 hts gX5_meet_X5_requireTicks rfl rfl rfl (by decide +kernel) ⟨Nat.le_of_ble_eq_true rfl, Nat.le_of_ble_eq_true rfl⟩) (g_xpreS hP hD hK hN hX hS hsz) rfl rfl hl.1 rfl (lv_room (Nat.le_of_ble_eq_true rfl)) dX5_meet_32 ⟨Nat.le_of_ble_eq_true rfl, Nat.le_of_ble_eq_true rfl⟩) (fun E ce q9 H locs hth9 hP hD hS hce hcv hcl => ?_) (fun u4 H locs hw4 hP hD hS => ?_)
        · skip
          have c_4 := thrE_ne hth9
          exact g_xout ht hlocks hce hcv hcl hP hD hS (by simp only [th_X5_meet, if_pos c_1, if_pos c_2, if_neg c_3, if_neg c_4]; exact hth9) (Nat.le_of_ble_eq_true rfl) (Nat.le_of_ble_eq_true rfl)
        · skip
          obtain ⟨c_4, hv4⟩ := hw4
          rw [hv4] at hP hD
          have ht9 := tk_c c_4
          refine lv_aload_n hx hb dX5_meet_35 rfl (lv_at hl 2 rfl) ?_
          refine g_get (κ := 1) (ci := 5) (v := .ref (ad (k + 26))) (C := RX5) (T := TX5) (N := 3) hx hb hts hown hK hP (k := k) hk (by decide) rfl (fun _ h => List.mem_cons_of_mem _ (List.mem_append_left _ (List.mem_append_left _ (List.mem_append_left _ (List.mem_append_left _ (List.mem_append_left _ (List.mem_append_left _ (List.mem_append_right _ h)))))))) rfl 1 (by decide) (hts _ (List.mem_of_getElem? (i := 3) rfl)) (fun _ h9 => h9) rfl dX5_meet_36 ?_
          refine lv_aload_n hx hb dX5_meet_39 rfl (lv_at hl 2 rfl) ?_
          refine g_get (κ := 1) (ci := 5) (v := .ref (ad (k + 1))) (C := RX5) (T := TX5) (N := 3) hx hb hts hown hK hP (k := k) hk (by decide) rfl (fun _ h => List.mem_cons_of_mem _ (List.mem_append_left _ (List.mem_append_left _ (List.mem_append_left _ (List.mem_append_left _ (List.mem_append_left _ (List.mem_append_left _ (List.mem_append_right _ h)))))))) rfl 0 (by decide) (hts _ (List.mem_of_getElem? (i := 4) rfl)) (fun _ h9 => h9) rfl dX5_meet_40 ?_
          refine g_callM (M := m_X0_becomeLike I (k + 26) (k + 1)) hD hS hA (va_runV (As := [.ref (ad (k + 1))]) (rest := []) ⟨hx, hb, hml, hown, hts⟩ (c_X0_becomeLike l D cs ad I H.size (k + 26) (kd_1_1 hk) (k + 1) (kd_1_0 hk) (by omega) hw.2.2.2.1) (cwV 1 hts gX5_meet_X0_becomeLike rfl rfl rfl (by decide +kernel) ⟨Nat.le_of_ble_eq_true rfl, Nat.le_of_ble_eq_true rfl⟩) (g_preV hP hD hK hN (k := (k + 26)) (kd_1_1 hk) (by decide) rfl rfl rfl rfl) rfl rfl hl.1 rfl (lv_room (Nat.le_of_ble_eq_true rfl)) dX5_meet_43 ⟨Nat.le_of_ble_eq_true rfl, Nat.le_of_ble_eq_true rfl⟩) (fun u5 H locs hu5 hP hD hS => ?_)
          refine lv_iconst (v := nI 0) hx hb dX5_meet_46 (by decide) ?_
          refine lv_istore (lv' := [(6, .int (nI 0)), (5, .ref (ad (k + 1 + 8 + (1 + b.toNatClampNeg)))), (4, .ref (ad (k + 1 + 8 + (1 + a.toNatClampNeg)))), (0, .ref (ad k)), (1, .int a), (2, .int b), (3, .int c0)]) hx hb dX5_meet_47 hl (by decide) rfl (fun ls hl => ?_)
          suffices KL49 : ∀ (fuel : Nat) (i : Nat) (v : Mm) (H : Heap) (locs : List Loc) (ls : Array Slot), (i ≤ c0.toNatClampNeg) → (EX (k + 26) v (tkI (ahd I k) (k + 26) N i)) → (∀ j, j < i → ¬ togA (ahd I k) (k + 26) N a.toNatClampNeg b.toNatClampNeg j) → c0.toNatClampNeg - i < fuel → va_P D vwCl (gw kC cs ad v) H → va_D (gA kC ad sz) (gw kC cs ad v) → va_S (gA kC ad sz) s.heap H locs → lv_has ls 7 [(6, .int (nI i)), (5, .ref (ad (k + 1 + 8 + (1 + b.toNatClampNeg)))), (4, .ref (ad (k + 1 + 8 + (1 + a.toNatClampNeg)))), (0, .ref (ad k)), (1, .int a), (2, .int b), (3, .int c0)] → W pg l e ({ frames := 7, cells := 3, slots := 18, locals := 138 }) s m args below meth c H locs 3 18 (vx_MQ below (va_Qi (fun r u => th_X5_meet I k a b c0 N = 0 ∧ FX k u I ∧ mtS (togA (ahd I k) (k + 26) N a.toNatClampNeg b.toNatClampNeg) c0.toNatClampNeg r) (wat kC cs D ad (gA kC ad sz)) (gA kC ad sz)) (XC0 kC cs D ad I sz (thrE (th_X5_meet I k a b c0 N))) args s 3 18 (gA kC ad sz)) (F0 m 49 ls []) from KL49 _ 0 u5 _ _ _ (by omega) (by rw [hu5]; exact ⟨EqX.rf _ _, RX.ahd hR2⟩) (fun j hj => absurd hj (Nat.not_lt_zero _)) (Nat.lt_succ_self _) hP hD hS (lv_sub hl [0, 1, 2, 3, 4, 5, 6] rfl)
          intro fuel49
          induction fuel49 with
          | zero => intro _ _ _ _ _ _ _ _ hm; exact absurd hm (Nat.not_lt_zero _)
          | succ fuel49 ih49 =>
            intro i v H locs ls hi hv hno hm49 hP hD hS hl
            refine lv_iload hx hb dX5_meet_49 (lv_at hl 0 rfl) ?_
            refine lv_iload_n hx hb dX5_meet_51 rfl (lv_at hl 6 rfl) ?_
            refine lv_topi (fun y9 ey9 => ?_)
            obtain rfl := ey9.trans ht9.1
            refine lv_icmp_ge (tgt := 83) hx hb dX5_meet_52 (by decide) (fun c_6 => ?_) (fun c_6 => ?_)
            · skip
              have nc_6 : c0.toNatClampNeg ≤ i := (nI_leI (a := c0.toNatClampNeg) (b := i) (by omega) (by omega)).mp c_6
              refine lv_aload_n hx hb dX5_meet_83 rfl (lv_at hl 3 rfl) ?_
              refine g_get (κ := 1) (ci := 5) (v := .ref (ad (k + 26))) (C := RX5) (T := TX5) (N := 3) hx hb hts hown hK hP (k := k) hk (by decide) rfl (fun _ h => List.mem_cons_of_mem _ (List.mem_append_left _ (List.mem_append_left _ (List.mem_append_left _ (List.mem_append_left _ (List.mem_append_left _ (List.mem_append_left _ (List.mem_append_right _ h)))))))) rfl 1 (by decide) (hts _ (List.mem_of_getElem? (i := 3) rfl)) (fun _ h9 => h9) rfl dX5_meet_84 ?_
              refine lv_iload_n hx hb dX5_meet_87 rfl (lv_at hl 4 rfl) ?_
              refine lv_topi (fun y9 ey9 => ?_)
              obtain rfl := ey9.trans he1
              refine lv_iload_n hx hb dX5_meet_88 rfl (lv_at hl 5 rfl) ?_
              refine lv_topi (fun y9 ey9 => ?_)
              obtain rfl := ey9.trans he2
              refine g_callF (F := f_X0_areTogether v (k + 26) a.toNatClampNeg b.toNatClampNeg) hD hS hA (va_runV (As := [.int (nI a.toNatClampNeg), .int (nI b.toNatClampNeg)]) (rest := []) ⟨hx, hb, hml, hown, hts⟩ (c_X0_areTogether l D cs ad v H.size (k + 26) (kd_1_1 hk) a.toNatClampNeg b.toNatClampNeg N (by rw [hv.1.z]; exact (hw.ahd.tkI i).1) hN8 hj1 hj2) (cwV 2 hts gX5_meet_X0_areTogether rfl rfl rfl (by decide +kernel) ⟨Nat.le_of_ble_eq_true rfl, Nat.le_of_ble_eq_true rfl⟩) (g_preV hP hD hK hN (k := (k + 26)) (kd_1_1 hk) (by decide) rfl rfl rfl rfl) rfl rfl hl.1 rfl (lv_room (Nat.le_of_ble_eq_true rfl)) dX5_meet_89 ⟨Nat.le_of_ble_eq_true rfl, Nat.le_of_ble_eq_true rfl⟩) (fun H locs hP hD hS => ?_)
              refine lv_if_eq (tgt := 99) hx hb dX5_meet_92 (by decide) (fun c_8 => ?_) (fun c_8 => ?_)
              · skip
                refine lv_iconst (v := -1) hx hb dX5_meet_99 (by decide) ?_
                refine W.widen (k := 3) (n := 18) (Nat.le_of_ble_eq_true rfl) (Nat.le_of_ble_eq_true rfl) ?_
                refine vx_ret ?_
                exact g_iret (v := -1) hx hb hr hlocks rfl hP hD hS ⟨(by simp only [th_X5_meet, if_pos c_1, if_pos c_2, if_neg c_3, if_pos c_4, if_pos c_6, if_pos c_8]), ⟨FX.ahd hN8 hv hR, Or.inr ⟨fun j hj => (Nat.lt_or_ge j i).elim (hno j) (fun y => by rw [show j = i from by omega, togA, ← tog_eq hv.1]; exact fun z9 => z9 c_8), rfl⟩⟩⟩ dX5_meet_100
              · skip
                refine lv_iload_n hx hb dX5_meet_95 rfl (lv_at hl 6 rfl) ?_
                refine lv_topi (fun y9 ey9 => ?_)
                obtain rfl := ey9.trans ht9.1
                refine lv_goto (tgt := 100) hx hb dX5_meet_96 (by decide) ?_
                refine W.widen (k := 3) (n := 18) (Nat.le_of_ble_eq_true rfl) (Nat.le_of_ble_eq_true rfl) ?_
                refine vx_ret ?_
                exact g_iret (v := nI c0.toNatClampNeg) hx hb hr hlocks rfl hP hD hS ⟨(by simp only [th_X5_meet, if_pos c_1, if_pos c_2, if_neg c_3, if_pos c_4, if_pos c_6, if_neg c_8]), ⟨FX.ahd hN8 hv hR, Or.inl ⟨i, by omega, by rw [togA, ← tog_eq hv.1]; exact c_8, hno, by rw [show i = c0.toNatClampNeg from by omega]⟩⟩⟩ dX5_meet_100
            · skip
              have nc_6 : ¬ c0.toNatClampNeg ≤ i := fun z9_ => c_6 ((nI_leI (a := c0.toNatClampNeg) (b := i) (by omega) (by omega)).mpr z9_)
              refine lv_aload_n hx hb dX5_meet_55 rfl (lv_at hl 3 rfl) ?_
              refine g_get (κ := 1) (ci := 5) (v := .ref (ad (k + 26))) (C := RX5) (T := TX5) (N := 3) hx hb hts hown hK hP (k := k) hk (by decide) rfl (fun _ h => List.mem_cons_of_mem _ (List.mem_append_left _ (List.mem_append_left _ (List.mem_append_left _ (List.mem_append_left _ (List.mem_append_left _ (List.mem_append_left _ (List.mem_append_right _ h)))))))) rfl 1 (by decide) (hts _ (List.mem_of_getElem? (i := 3) rfl)) (fun _ h9 => h9) rfl dX5_meet_56 ?_
              refine lv_iload_n hx hb dX5_meet_59 rfl (lv_at hl 4 rfl) ?_
              refine lv_topi (fun y9 ey9 => ?_)
              obtain rfl := ey9.trans he1
              refine lv_iload_n hx hb dX5_meet_60 rfl (lv_at hl 5 rfl) ?_
              refine lv_topi (fun y9 ey9 => ?_)
              obtain rfl := ey9.trans he2
              refine g_callF (F := f_X0_areTogether v (k + 26) a.toNatClampNeg b.toNatClampNeg) hD hS hA (va_runV (As := [.int (nI a.toNatClampNeg), .int (nI b.toNatClampNeg)]) (rest := []) ⟨hx, hb, hml, hown, hts⟩ (c_X0_areTogether l D cs ad v H.size (k + 26) (kd_1_1 hk) a.toNatClampNeg b.toNatClampNeg N (by rw [hv.1.z]; exact (hw.ahd.tkI i).1) hN8 hj1 hj2) (cwV 2 hts gX5_meet_X0_areTogether rfl rfl rfl (by decide +kernel) ⟨Nat.le_of_ble_eq_true rfl, Nat.le_of_ble_eq_true rfl⟩) (g_preV hP hD hK hN (k := (k + 26)) (kd_1_1 hk) (by decide) rfl rfl rfl rfl) rfl rfl hl.1 rfl (lv_room (Nat.le_of_ble_eq_true rfl)) dX5_meet_61 ⟨Nat.le_of_ble_eq_true rfl, Nat.le_of_ble_eq_true rfl⟩) (fun H locs hP hD hS => ?_)
              refine lv_if_eq (tgt := 70) hx hb dX5_meet_64 (by decide) (fun c_10 => ?_) (fun c_10 => ?_)
              · skip
                refine lv_aload_n hx hb dX5_meet_70 rfl (lv_at hl 3 rfl) ?_
                refine g_get (κ := 1) (ci := 5) (v := .ref (ad (k + 26))) (C := RX5) (T := TX5) (N := 3) hx hb hts hown hK hP (k := k) hk (by decide) rfl (fun _ h => List.mem_cons_of_mem _ (List.mem_append_left _ (List.mem_append_left _ (List.mem_append_left _ (List.mem_append_left _ (List.mem_append_left _ (List.mem_append_left _ (List.mem_append_right _ h)))))))) rfl 1 (by decide) (hts _ (List.mem_of_getElem? (i := 3) rfl)) (fun _ h9 => h9) rfl dX5_meet_71 ?_
                refine g_callv hD hS hA (va_runV (As := []) (rest := []) ⟨hx, hb, hml, hown, hts⟩ (c_X0_tick l D cs ad v H.size (k + 26) (kd_1_1 hk) N ((hw.ahd.tkI i).eqx hv.1) hv.2) (cwV 0 hts gX5_meet_X0_tick rfl rfl rfl (by decide +kernel) ⟨Nat.le_of_ble_eq_true rfl, Nat.le_of_ble_eq_true rfl⟩) (g_preV hP hD hK hN (k := (k + 26)) (kd_1_1 hk) (by decide) rfl rfl rfl rfl) rfl rfl hl.1 rfl (lv_room (Nat.le_of_ble_eq_true rfl)) dX5_meet_74 ⟨Nat.le_of_ble_eq_true rfl, Nat.le_of_ble_eq_true rfl⟩) (fun u11 H locs hu11 hP hD hS => ?_)
                refine lv_iinc (v := nI (i + 1)) (lv' := [(6, .int (nI (i + 1))), (5, .ref (ad (k + 1 + 8 + (1 + b.toNatClampNeg)))), (4, .ref (ad (k + 1 + 8 + (1 + a.toNatClampNeg)))), (0, .ref (ad k)), (1, .int a), (2, .int b), (3, .int c0)]) hx hb dX5_meet_77 hl (k := 0) rfl (nI_1 i) (by decide) rfl (fun ls hl => ?_)
                refine lv_goto (tgt := 49) hx hb dX5_meet_80 (by decide) ?_
                exact ih49 (i + 1) u11 _ _ _ (by omega) (tkI_step (kd_1_1 hk) hN8 hv hu11) (fun j hj => (Nat.lt_or_ge j i).elim (hno j) (fun y => by rw [show j = i from by omega, togA, ← tog_eq hv.1]; exact fun z9 => z9 c_10)) (by omega) hP hD hS (lv_sub hl [0, 1, 2, 3, 4, 5, 6] rfl)
              · skip
                refine lv_iload hx hb dX5_meet_67 (lv_at hl 0 rfl) ?_
                refine W.widen (k := 3) (n := 18) (Nat.le_of_ble_eq_true rfl) (Nat.le_of_ble_eq_true rfl) ?_
                refine vx_ret ?_
                exact g_iret (v := nI i) hx hb hr hlocks rfl hP hD hS ⟨(by simp only [th_X5_meet, if_pos c_1, if_pos c_2, if_neg c_3, if_pos c_4, if_neg c_6, if_neg c_10]), ⟨FX.ahd hN8 hv hR, Or.inl ⟨i, by omega, by rw [togA, ← tog_eq hv.1]; exact c_10, hno, rfl⟩⟩⟩ dX5_meet_69
      · skip
        exact g_throw (own := RX5) (cls := "java/lang/IllegalArgumentException") (text := "both are the same") (names := ["java/lang/RuntimeException", "java/lang/Exception"]) (ik := 30) (is := 197) (ic := 34) hx hb hst hown (by decide +kernel) (by decide +kernel) (hts _ (List.mem_of_getElem? (i := 1) rfl)) (hts _ (List.mem_of_getElem? (i := 2) rfl)) rfl (by decide) hN (fun w h => hts w (List.mem_cons_of_mem _ (List.mem_append_left _ (List.mem_append_right _ h)))) xb_34 xg_34 hX hS hP hD (hl.1.trans hml.symm) dX5_meet_21 dX5_meet_24 dX5_meet_25 dX5_meet_27 dX5_meet_30 ht (Nat.le_of_ble_eq_true rfl) (Nat.le_of_ble_eq_true rfl) (Nat.le_of_ble_eq_true rfl) (Nat.le_of_ble_eq_true rfl) hlocks (Nat.le_of_ble_eq_true rfl) (Nat.le_of_ble_eq_true rfl) (by simp only [th_X5_meet, if_pos c_1, if_pos c_2, if_pos c_3]; exact thr_2)
