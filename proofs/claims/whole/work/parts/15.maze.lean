def f_X0_crewAt (I : Mm) (z : Nat) (a : Int32) (N : Nat) : Int32 := nI (cn (fun i => decide (I (z + 8 + (1 + i)) 0 = a)) N)
set_option maxHeartbeats 4000000 in
set_option maxRecDepth 100000 in
theorem c_X0_crewAt (l : Launch) (D : va_G) (cs : Nat → ClassId) (ad : Nat → Nat) (I : Mm) (sz : Nat) (z : Nat) (hz : kC.getD z 0 = 2) (a : Int32) (N : Nat) (hN3 : I z 3 = nI N) (hN8 : N ≤ 8) : MetI l yX0_crewAt wsX0_crewAt ({ frames := 0, cells := 0, slots := 0, locals := 0 }) kC cs D ad I sz [.ref (ad z), .int a] (fun r u => r = f_X0_crewAt I z a N ∧ u = I) 0 0 := by
  refine g_met (cc := cX0_crewAt) (maxL := 4) (ret := (some .int)) (by decide) rfl (Nat.le_of_ble_eq_true rfl) ?_
  intro pg e s m args below meth c ls hx hb hr hml hts hown hlocks hsz hP hD hK hN hS hA hl
  have hown : s.vm.findClass RX0 = some m.cls := hown
  have hl : lv_has ls 4 [(0, .ref (ad z)), (1, .int a)] := hl
  refine lv_iconst (v := nI 0) hx hb dX0_crewAt_0 (by decide) ?_
  refine lv_istore_n (lv' := [(2, .int (nI 0)), (0, .ref (ad z)), (1, .int a)]) hx hb dX0_crewAt_1 rfl hl (by decide) rfl (fun ls hl => ?_)
  refine lv_iconst (v := nI 0) hx hb dX0_crewAt_2 (by decide) ?_
  refine lv_istore_n (lv' := [(3, .int (nI 0)), (2, .int (nI 0)), (0, .ref (ad z)), (1, .int a)]) hx hb dX0_crewAt_3 rfl hl (by decide) rfl (fun ls hl => ?_)
  suffices KL4 : ∀ (fuel : Nat) (i : Nat) (f : Int32) (H : Heap) (locs : List Loc) (ls : Array Slot), (i ≤ N) → (f = nI (cn (fun i => decide (I (z + 8 + (1 + i)) 0 = a)) i)) → N - i < fuel → va_P D vwCl (gw kC cs ad I) H → va_D (gA kC ad sz) (gw kC cs ad I) → va_S (gA kC ad sz) s.heap H locs → lv_has ls 4 [(3, .int (nI i)), (2, .int f), (0, .ref (ad z)), (1, .int a)] → W pg l e ({ frames := 0, cells := 0, slots := 0, locals := 0 }) s m args below meth c H locs 0 0 (MQ below (va_Qi (fun r u => r = f_X0_crewAt I z a N ∧ u = I) (wat kC cs D ad (gA kC ad sz)) (gA kC ad sz)) args s 0 0 (gA kC ad sz)) (F0 m 4 ls []) from KL4 _ 0 (nI 0) _ _ _ (by omega) rfl (Nat.lt_succ_self _) hP hD hS (lv_sub hl [0, 1, 2, 3] rfl)
  intro fuel4
  induction fuel4 with
  | zero => intro _ _ _ _ _ _ _ hm; exact absurd hm (Nat.not_lt_zero _)
  | succ fuel4 ih4 =>
    intro i f H locs ls hi hf hm4 hP hD hS hl
    refine lv_iload_n hx hb dX0_crewAt_4 rfl (lv_at hl 0 rfl) ?_
    refine lv_aload_n hx hb dX0_crewAt_5 rfl (lv_at hl 2 rfl) ?_
    refine g_get (κ := 2) (ci := 0) (v := .int (I z 3)) (C := RX0) (T := TX0) (N := 7) hx hb hts hown hK hP (k := z) hz (by decide) rfl (fun _ h => List.mem_cons_of_mem _ (List.mem_append_left _ (List.mem_append_right _ h))) rfl 3 (by decide) (hts _ (List.mem_of_getElem? (i := 1) rfl)) (fun _ h9 => h9) rfl dX0_crewAt_6 ?_
    rw [show I z 3 = nI N from hN3]
    refine lv_icmp_ge (tgt := 40) hx hb dX0_crewAt_9 (by decide) (fun c_1 => ?_) (fun c_1 => ?_)
    · skip
      have nc_1 : N ≤ i := (nI_leI (a := N) (b := i) (by omega) (by omega)).mp c_1
      refine lv_iload_n hx hb dX0_crewAt_40 rfl (lv_at hl 1 rfl) ?_
      exact g_iret (v := f) hx hb hr hlocks rfl hP hD hS ⟨by rw [hf, show i = N from by omega]; rfl, rfl⟩ dX0_crewAt_41
    · skip
      have nc_1 : ¬ N ≤ i := fun z9_ => c_1 ((nI_leI (a := N) (b := i) (by omega) (by omega)).mpr z9_)
      refine lv_iload_n hx hb dX0_crewAt_12 rfl (lv_at hl 0 rfl) ?_
      refine lv_bipush (v := nI 8) hx hb dX0_crewAt_13 (by decide) ?_
      refine lv_icmp_ge (tgt := 40) hx hb dX0_crewAt_15 (by decide) (fun c_2 => ?_) (fun c_2 => ?_)
      · skip
        have nc_2 : 8 ≤ i := (nI_leI (a := 8) (b := i) (by omega) (by omega)).mp c_2
        exact absurd nc_2 (by omega)
      · skip
        have nc_2 : ¬ 8 ≤ i := fun z9_ => c_2 ((nI_leI (a := 8) (b := i) (by omega) (by omega)).mpr z9_)
        refine lv_aload_n hx hb dX0_crewAt_18 rfl (lv_at hl 2 rfl) ?_
        refine g_get (κ := 2) (ci := 0) (v := .ref (ad (z + 8))) (C := RX0) (T := TX0) (N := 7) hx hb hts hown hK hP (k := z) hz (by decide) rfl (fun _ h => List.mem_cons_of_mem _ (List.mem_append_left _ (List.mem_append_right _ h))) rfl 2 (by decide) (hts _ (List.mem_of_getElem? (i := 2) rfl)) (fun _ h9 => h9) rfl dX0_crewAt_19 ?_
        refine lv_iload_n hx hb dX0_crewAt_22 rfl (lv_at hl 0 rfl) ?_
        refine g_crew (i := i) hx hb hK hP (k := (z + 8)) (kd_2_2 hz) (by omega) dX0_crewAt_23 ?_
        refine g_getN (κ := 6) (ci := 4) (v := .int (I (z + 8 + (1 + i)) 0)) (C := RX4) (T := TX4) (N := 8) hx hb hts hown hK hP (k := (z + 8 + (1 + i))) (kd_crew (kd_2_2 hz) (show i < 8 from by omega)) (by decide) rfl (fun _ h => List.mem_cons_of_mem _ (List.mem_append_right _ h)) rfl 0 (by decide) (nwu2 hN) (fun _ h9 => h9) rfl dX0_crewAt_24 ?_
        refine lv_iload_n hx hb dX0_crewAt_27 rfl (lv_at hl 3 rfl) ?_
        refine lv_icmp_ne (tgt := 34) hx hb dX0_crewAt_28 (by decide) (fun c_3 => ?_) (fun c_3 => ?_)
        · skip
          refine lv_iinc (v := nI (i + 1)) (lv' := [(3, .int (nI (i + 1))), (2, .int f), (0, .ref (ad z)), (1, .int a)]) hx hb dX0_crewAt_34 hl (k := 0) rfl (nI_1 i) (by decide) rfl (fun ls hl => ?_)
          refine lv_goto (tgt := 4) hx hb dX0_crewAt_37 (by decide) ?_
          exact ih4 (i + 1) f _ _ _ (by omega) (by rw [hf, cn_f (decide_eq_false c_3)]) (by omega) hP hD hS (lv_sub hl [0, 1, 2, 3] rfl)
        · skip
          refine lv_iinc (v := f + 1) (lv' := [(2, .int (f + 1)), (3, .int (nI i)), (0, .ref (ad z)), (1, .int a)]) hx hb dX0_crewAt_31 hl (k := 1) rfl rfl (by decide) rfl (fun ls hl => ?_)
          refine lv_iinc (v := nI (i + 1)) (lv' := [(3, .int (nI (i + 1))), (2, .int (f + 1)), (0, .ref (ad z)), (1, .int a)]) hx hb dX0_crewAt_34 hl (k := 1) rfl (nI_1 i) (by decide) rfl (fun ls hl => ?_)
          refine lv_goto (tgt := 4) hx hb dX0_crewAt_37 (by decide) ?_
          exact ih4 (i + 1) (f + 1) _ _ _ (by omega) (by rw [hf, cn_t (decide_eq_true c_3)]; exact nI_1 _) (by omega) hP hD hS (lv_sub hl [0, 1, 2, 3] rfl)

def f_X0_buriedAt (I : Mm) (z : Nat) (a : Int32) (N : Nat) : Int32 := nI (cn (fun i => decide (I (z + 8 + (1 + i)) 0 = a ∧ ¬ I (z + 8 + (1 + i)) 4 = 0)) N)
set_option maxHeartbeats 4000000 in
set_option maxRecDepth 100000 in
theorem c_X0_buriedAt (l : Launch) (D : va_G) (cs : Nat → ClassId) (ad : Nat → Nat) (I : Mm) (sz : Nat) (z : Nat) (hz : kC.getD z 0 = 2) (a : Int32) (N : Nat) (hN3 : I z 3 = nI N) (hN8 : N ≤ 8) : MetI l yX0_buriedAt wsX0_buriedAt ({ frames := 0, cells := 0, slots := 0, locals := 0 }) kC cs D ad I sz [.ref (ad z), .int a] (fun r u => r = f_X0_buriedAt I z a N ∧ u = I) 0 0 := by
  refine g_met (cc := cX0_buriedAt) (maxL := 4) (ret := (some .int)) (by decide) rfl (Nat.le_of_ble_eq_true rfl) ?_
  intro pg e s m args below meth c ls hx hb hr hml hts hown hlocks hsz hP hD hK hN hS hA hl
  have hown : s.vm.findClass RX0 = some m.cls := hown
  have hl : lv_has ls 4 [(0, .ref (ad z)), (1, .int a)] := hl
  refine lv_iconst (v := nI 0) hx hb dX0_buriedAt_0 (by decide) ?_
  refine lv_istore_n (lv' := [(2, .int (nI 0)), (0, .ref (ad z)), (1, .int a)]) hx hb dX0_buriedAt_1 rfl hl (by decide) rfl (fun ls hl => ?_)
  refine lv_iconst (v := nI 0) hx hb dX0_buriedAt_2 (by decide) ?_
  refine lv_istore_n (lv' := [(3, .int (nI 0)), (2, .int (nI 0)), (0, .ref (ad z)), (1, .int a)]) hx hb dX0_buriedAt_3 rfl hl (by decide) rfl (fun ls hl => ?_)
  suffices KL4 : ∀ (fuel : Nat) (i : Nat) (f : Int32) (H : Heap) (locs : List Loc) (ls : Array Slot), (i ≤ N) → (f = nI (cn (fun i => decide (I (z + 8 + (1 + i)) 0 = a ∧ ¬ I (z + 8 + (1 + i)) 4 = 0)) i)) → N - i < fuel → va_P D vwCl (gw kC cs ad I) H → va_D (gA kC ad sz) (gw kC cs ad I) → va_S (gA kC ad sz) s.heap H locs → lv_has ls 4 [(3, .int (nI i)), (2, .int f), (0, .ref (ad z)), (1, .int a)] → W pg l e ({ frames := 0, cells := 0, slots := 0, locals := 0 }) s m args below meth c H locs 0 0 (MQ below (va_Qi (fun r u => r = f_X0_buriedAt I z a N ∧ u = I) (wat kC cs D ad (gA kC ad sz)) (gA kC ad sz)) args s 0 0 (gA kC ad sz)) (F0 m 4 ls []) from KL4 _ 0 (nI 0) _ _ _ (by omega) rfl (Nat.lt_succ_self _) hP hD hS (lv_sub hl [0, 1, 2, 3] rfl)
  intro fuel4
  induction fuel4 with
  | zero => intro _ _ _ _ _ _ _ hm; exact absurd hm (Nat.not_lt_zero _)
  | succ fuel4 ih4 =>
    intro i f H locs ls hi hf hm4 hP hD hS hl
    refine lv_iload_n hx hb dX0_buriedAt_4 rfl (lv_at hl 0 rfl) ?_
    refine lv_aload_n hx hb dX0_buriedAt_5 rfl (lv_at hl 2 rfl) ?_
    refine g_get (κ := 2) (ci := 0) (v := .int (I z 3)) (C := RX0) (T := TX0) (N := 7) hx hb hts hown hK hP (k := z) hz (by decide) rfl (fun _ h => List.mem_cons_of_mem _ (List.mem_append_left _ (List.mem_append_right _ h))) rfl 3 (by decide) (hts _ (List.mem_of_getElem? (i := 1) rfl)) (fun _ h9 => h9) rfl dX0_buriedAt_6 ?_
    rw [show I z 3 = nI N from hN3]
    refine lv_icmp_ge (tgt := 52) hx hb dX0_buriedAt_9 (by decide) (fun c_1 => ?_) (fun c_1 => ?_)
    · skip
      have nc_1 : N ≤ i := (nI_leI (a := N) (b := i) (by omega) (by omega)).mp c_1
      refine lv_iload_n hx hb dX0_buriedAt_52 rfl (lv_at hl 1 rfl) ?_
      exact g_iret (v := f) hx hb hr hlocks rfl hP hD hS ⟨by rw [hf, show i = N from by omega]; rfl, rfl⟩ dX0_buriedAt_53
    · skip
      have nc_1 : ¬ N ≤ i := fun z9_ => c_1 ((nI_leI (a := N) (b := i) (by omega) (by omega)).mpr z9_)
      refine lv_iload_n hx hb dX0_buriedAt_12 rfl (lv_at hl 0 rfl) ?_
      refine lv_bipush (v := nI 8) hx hb dX0_buriedAt_13 (by decide) ?_
      refine lv_icmp_ge (tgt := 52) hx hb dX0_buriedAt_15 (by decide) (fun c_2 => ?_) (fun c_2 => ?_)
      · skip
        have nc_2 : 8 ≤ i := (nI_leI (a := 8) (b := i) (by omega) (by omega)).mp c_2
        exact absurd nc_2 (by omega)
      · skip
        have nc_2 : ¬ 8 ≤ i := fun z9_ => c_2 ((nI_leI (a := 8) (b := i) (by omega) (by omega)).mpr z9_)
        refine lv_aload_n hx hb dX0_buriedAt_18 rfl (lv_at hl 2 rfl) ?_
        refine g_get (κ := 2) (ci := 0) (v := .ref (ad (z + 8))) (C := RX0) (T := TX0) (N := 7) hx hb hts hown hK hP (k := z) hz (by decide) rfl (fun _ h => List.mem_cons_of_mem _ (List.mem_append_left _ (List.mem_append_right _ h))) rfl 2 (by decide) (hts _ (List.mem_of_getElem? (i := 2) rfl)) (fun _ h9 => h9) rfl dX0_buriedAt_19 ?_
        refine lv_iload_n hx hb dX0_buriedAt_22 rfl (lv_at hl 0 rfl) ?_
        refine g_crew (i := i) hx hb hK hP (k := (z + 8)) (kd_2_2 hz) (by omega) dX0_buriedAt_23 ?_
        refine g_getN (κ := 6) (ci := 4) (v := .int (I (z + 8 + (1 + i)) 0)) (C := RX4) (T := TX4) (N := 8) hx hb hts hown hK hP (k := (z + 8 + (1 + i))) (kd_crew (kd_2_2 hz) (show i < 8 from by omega)) (by decide) rfl (fun _ h => List.mem_cons_of_mem _ (List.mem_append_right _ h)) rfl 0 (by decide) (nwu2 hN) (fun _ h9 => h9) rfl dX0_buriedAt_24 ?_
        refine lv_iload_n hx hb dX0_buriedAt_27 rfl (lv_at hl 3 rfl) ?_
        refine lv_icmp_ne (tgt := 46) hx hb dX0_buriedAt_28 (by decide) (fun c_3 => ?_) (fun c_3 => ?_)
        · skip
          refine lv_iinc (v := nI (i + 1)) (lv' := [(3, .int (nI (i + 1))), (2, .int f), (0, .ref (ad z)), (1, .int a)]) hx hb dX0_buriedAt_46 hl (k := 0) rfl (nI_1 i) (by decide) rfl (fun ls hl => ?_)
          refine lv_goto (tgt := 4) hx hb dX0_buriedAt_49 (by decide) ?_
          exact ih4 (i + 1) f _ _ _ (by omega) (by rw [hf, cn_f (decide_eq_false (fun z => c_3 z.1))]) (by omega) hP hD hS (lv_sub hl [0, 1, 2, 3] rfl)
        · skip
          refine lv_aload_n hx hb dX0_buriedAt_31 rfl (lv_at hl 2 rfl) ?_
          refine g_get (κ := 2) (ci := 0) (v := .ref (ad (z + 8))) (C := RX0) (T := TX0) (N := 7) hx hb hts hown hK hP (k := z) hz (by decide) rfl (fun _ h => List.mem_cons_of_mem _ (List.mem_append_left _ (List.mem_append_right _ h))) rfl 2 (by decide) (hts _ (List.mem_of_getElem? (i := 2) rfl)) (fun _ h9 => h9) rfl dX0_buriedAt_32 ?_
          refine lv_iload_n hx hb dX0_buriedAt_35 rfl (lv_at hl 0 rfl) ?_
          refine g_crew (i := i) hx hb hK hP (k := (z + 8)) (kd_2_2 hz) (by omega) dX0_buriedAt_36 ?_
          refine g_getN (κ := 6) (ci := 4) (v := .int (I (z + 8 + (1 + i)) 4)) (C := RX4) (T := TX4) (N := 8) hx hb hts hown hK hP (k := (z + 8 + (1 + i))) (kd_crew (kd_2_2 hz) (show i < 8 from by omega)) (by decide) rfl (fun _ h => List.mem_cons_of_mem _ (List.mem_append_right _ h)) rfl 4 (by decide) (nwu10 hN) (fun _ h9 => h9) rfl dX0_buriedAt_37 ?_
          refine lv_if_eq (tgt := 46) hx hb dX0_buriedAt_40 (by decide) (fun c_4 => ?_) (fun c_4 => ?_)
          · skip
            refine lv_iinc (v := nI (i + 1)) (lv' := [(3, .int (nI (i + 1))), (2, .int f), (0, .ref (ad z)), (1, .int a)]) hx hb dX0_buriedAt_46 hl (k := 0) rfl (nI_1 i) (by decide) rfl (fun ls hl => ?_)
            refine lv_goto (tgt := 4) hx hb dX0_buriedAt_49 (by decide) ?_
            exact ih4 (i + 1) f _ _ _ (by omega) (by rw [hf, cn_f (decide_eq_false (fun z => z.2 c_4))]) (by omega) hP hD hS (lv_sub hl [0, 1, 2, 3] rfl)
          · skip
            refine lv_iinc (v := f + 1) (lv' := [(2, .int (f + 1)), (3, .int (nI i)), (0, .ref (ad z)), (1, .int a)]) hx hb dX0_buriedAt_43 hl (k := 1) rfl rfl (by decide) rfl (fun ls hl => ?_)
            refine lv_iinc (v := nI (i + 1)) (lv' := [(3, .int (nI (i + 1))), (2, .int (f + 1)), (0, .ref (ad z)), (1, .int a)]) hx hb dX0_buriedAt_46 hl (k := 1) rfl (nI_1 i) (by decide) rfl (fun ls hl => ?_)
            refine lv_goto (tgt := 4) hx hb dX0_buriedAt_49 (by decide) ?_
            exact ih4 (i + 1) (f + 1) _ _ _ (by omega) (by rw [hf, cn_t (decide_eq_true ⟨c_3, c_4⟩)]; exact nI_1 _) (by omega) hP hD hS (lv_sub hl [0, 1, 2, 3] rfl)

def f_X0_buriedCrew (I : Mm) (z : Nat) (N : Nat) : Int32 := nI (cn (fun i => decide (¬ I (z + 8 + (1 + i)) 4 = 0)) N)
set_option maxHeartbeats 4000000 in
set_option maxRecDepth 100000 in
theorem c_X0_buriedCrew (l : Launch) (D : va_G) (cs : Nat → ClassId) (ad : Nat → Nat) (I : Mm) (sz : Nat) (z : Nat) (hz : kC.getD z 0 = 2) (N : Nat) (hN3 : I z 3 = nI N) (hN8 : N ≤ 8) : MetI l yX0_buriedCrew wsX0_buriedCrew ({ frames := 0, cells := 0, slots := 0, locals := 0 }) kC cs D ad I sz [.ref (ad z)] (fun r u => r = f_X0_buriedCrew I z N ∧ u = I) 0 0 := by
  refine g_met (cc := cX0_buriedCrew) (maxL := 3) (ret := (some .int)) (by decide) rfl (Nat.le_of_ble_eq_true rfl) ?_
  intro pg e s m args below meth c ls hx hb hr hml hts hown hlocks hsz hP hD hK hN hS hA hl
  have hown : s.vm.findClass RX0 = some m.cls := hown
  have hl : lv_has ls 3 [(0, .ref (ad z))] := hl
  refine lv_iconst (v := nI 0) hx hb dX0_buriedCrew_0 (by decide) ?_
  refine lv_istore_n (lv' := [(1, .int (nI 0)), (0, .ref (ad z))]) hx hb dX0_buriedCrew_1 rfl hl (by decide) rfl (fun ls hl => ?_)
  refine lv_iconst (v := nI 0) hx hb dX0_buriedCrew_2 (by decide) ?_
  refine lv_istore_n (lv' := [(2, .int (nI 0)), (1, .int (nI 0)), (0, .ref (ad z))]) hx hb dX0_buriedCrew_3 rfl hl (by decide) rfl (fun ls hl => ?_)
  suffices KL4 : ∀ (fuel : Nat) (i : Nat) (f : Int32) (H : Heap) (locs : List Loc) (ls : Array Slot), (i ≤ N) → (f = nI (cn (fun i => decide (¬ I (z + 8 + (1 + i)) 4 = 0)) i)) → N - i < fuel → va_P D vwCl (gw kC cs ad I) H → va_D (gA kC ad sz) (gw kC cs ad I) → va_S (gA kC ad sz) s.heap H locs → lv_has ls 3 [(2, .int (nI i)), (1, .int f), (0, .ref (ad z))] → W pg l e ({ frames := 0, cells := 0, slots := 0, locals := 0 }) s m args below meth c H locs 0 0 (MQ below (va_Qi (fun r u => r = f_X0_buriedCrew I z N ∧ u = I) (wat kC cs D ad (gA kC ad sz)) (gA kC ad sz)) args s 0 0 (gA kC ad sz)) (F0 m 4 ls []) from KL4 _ 0 (nI 0) _ _ _ (by omega) rfl (Nat.lt_succ_self _) hP hD hS (lv_sub hl [0, 1, 2] rfl)
  intro fuel4
  induction fuel4 with
  | zero => intro _ _ _ _ _ _ _ hm; exact absurd hm (Nat.not_lt_zero _)
  | succ fuel4 ih4 =>
    intro i f H locs ls hi hf hm4 hP hD hS hl
    refine lv_iload_n hx hb dX0_buriedCrew_4 rfl (lv_at hl 0 rfl) ?_
    refine lv_aload_n hx hb dX0_buriedCrew_5 rfl (lv_at hl 2 rfl) ?_
    refine g_get (κ := 2) (ci := 0) (v := .int (I z 3)) (C := RX0) (T := TX0) (N := 7) hx hb hts hown hK hP (k := z) hz (by decide) rfl (fun _ h => List.mem_cons_of_mem _ (List.mem_append_left _ (List.mem_append_right _ h))) rfl 3 (by decide) (hts _ (List.mem_of_getElem? (i := 1) rfl)) (fun _ h9 => h9) rfl dX0_buriedCrew_6 ?_
    rw [show I z 3 = nI N from hN3]
    refine lv_icmp_ge (tgt := 39) hx hb dX0_buriedCrew_9 (by decide) (fun c_1 => ?_) (fun c_1 => ?_)
    · skip
      have nc_1 : N ≤ i := (nI_leI (a := N) (b := i) (by omega) (by omega)).mp c_1
      refine lv_iload_n hx hb dX0_buriedCrew_39 rfl (lv_at hl 1 rfl) ?_
      exact g_iret (v := f) hx hb hr hlocks rfl hP hD hS ⟨by rw [hf, show i = N from by omega]; rfl, rfl⟩ dX0_buriedCrew_40
    · skip
      have nc_1 : ¬ N ≤ i := fun z9_ => c_1 ((nI_leI (a := N) (b := i) (by omega) (by omega)).mpr z9_)
      refine lv_iload_n hx hb dX0_buriedCrew_12 rfl (lv_at hl 0 rfl) ?_
      refine lv_bipush (v := nI 8) hx hb dX0_buriedCrew_13 (by decide) ?_
      refine lv_icmp_ge (tgt := 39) hx hb dX0_buriedCrew_15 (by decide) (fun c_2 => ?_) (fun c_2 => ?_)
      · skip
        have nc_2 : 8 ≤ i := (nI_leI (a := 8) (b := i) (by omega) (by omega)).mp c_2
        exact absurd nc_2 (by omega)
      · skip
        have nc_2 : ¬ 8 ≤ i := fun z9_ => c_2 ((nI_leI (a := 8) (b := i) (by omega) (by omega)).mpr z9_)
        refine lv_aload_n hx hb dX0_buriedCrew_18 rfl (lv_at hl 2 rfl) ?_
        refine g_get (κ := 2) (ci := 0) (v := .ref (ad (z + 8))) (C := RX0) (T := TX0) (N := 7) hx hb hts hown hK hP (k := z) hz (by decide) rfl (fun _ h => List.mem_cons_of_mem _ (List.mem_append_left _ (List.mem_append_right _ h))) rfl 2 (by decide) (hts _ (List.mem_of_getElem? (i := 2) rfl)) (fun _ h9 => h9) rfl dX0_buriedCrew_19 ?_
        refine lv_iload_n hx hb dX0_buriedCrew_22 rfl (lv_at hl 0 rfl) ?_
        refine g_crew (i := i) hx hb hK hP (k := (z + 8)) (kd_2_2 hz) (by omega) dX0_buriedCrew_23 ?_
        refine g_getN (κ := 6) (ci := 4) (v := .int (I (z + 8 + (1 + i)) 4)) (C := RX4) (T := TX4) (N := 8) hx hb hts hown hK hP (k := (z + 8 + (1 + i))) (kd_crew (kd_2_2 hz) (show i < 8 from by omega)) (by decide) rfl (fun _ h => List.mem_cons_of_mem _ (List.mem_append_right _ h)) rfl 4 (by decide) (nwu10 hN) (fun _ h9 => h9) rfl dX0_buriedCrew_24 ?_
        refine lv_if_eq (tgt := 33) hx hb dX0_buriedCrew_27 (by decide) (fun c_3 => ?_) (fun c_3 => ?_)
        · skip
          refine lv_iinc (v := nI (i + 1)) (lv' := [(2, .int (nI (i + 1))), (1, .int f), (0, .ref (ad z))]) hx hb dX0_buriedCrew_33 hl (k := 0) rfl (nI_1 i) (by decide) rfl (fun ls hl => ?_)
          refine lv_goto (tgt := 4) hx hb dX0_buriedCrew_36 (by decide) ?_
          exact ih4 (i + 1) f _ _ _ (by omega) (by rw [hf, cn_f (decide_eq_false (fun z => z c_3))]) (by omega) hP hD hS (lv_sub hl [0, 1, 2] rfl)
        · skip
          refine lv_iinc (v := f + 1) (lv' := [(1, .int (f + 1)), (2, .int (nI i)), (0, .ref (ad z))]) hx hb dX0_buriedCrew_30 hl (k := 1) rfl rfl (by decide) rfl (fun ls hl => ?_)
          refine lv_iinc (v := nI (i + 1)) (lv' := [(2, .int (nI (i + 1))), (1, .int (f + 1)), (0, .ref (ad z))]) hx hb dX0_buriedCrew_33 hl (k := 1) rfl (nI_1 i) (by decide) rfl (fun ls hl => ?_)
          refine lv_goto (tgt := 4) hx hb dX0_buriedCrew_36 (by decide) ?_
          exact ih4 (i + 1) (f + 1) _ _ _ (by omega) (by rw [hf, cn_t (decide_eq_true c_3)]; exact nI_1 _) (by omega) hP hD hS (lv_sub hl [0, 1, 2] rfl)

def f_X0_openedByCrew (I : Mm) (z N : Nat) : Int32 := sm (fun i => I (z + 8 + (1 + i)) 5) N
set_option maxHeartbeats 4000000 in
set_option maxRecDepth 100000 in
theorem c_X0_openedByCrew (l : Launch) (D : va_G) (cs : Nat → ClassId) (ad : Nat → Nat) (I : Mm) (sz : Nat) (z : Nat) (hz : kC.getD z 0 = 2) (N : Nat) (hN3 : I z 3 = nI N) (hN8 : N ≤ 8) : MetI l yX0_openedByCrew wsX0_openedByCrew ({ frames := 0, cells := 0, slots := 0, locals := 0 }) kC cs D ad I sz [.ref (ad z)] (fun r u => r = f_X0_openedByCrew I z N ∧ u = I) 0 0 := by
  refine g_met (cc := cX0_openedByCrew) (maxL := 3) (ret := (some .int)) (by decide) rfl (Nat.le_of_ble_eq_true rfl) ?_
  intro pg e s m args below meth c ls hx hb hr hml hts hown hlocks hsz hP hD hK hN hS hA hl
  have hown : s.vm.findClass RX0 = some m.cls := hown
  have hl : lv_has ls 3 [(0, .ref (ad z))] := hl
  refine lv_iconst (v := nI 0) hx hb dX0_openedByCrew_0 (by decide) ?_
  refine lv_istore_n (lv' := [(1, .int (nI 0)), (0, .ref (ad z))]) hx hb dX0_openedByCrew_1 rfl hl (by decide) rfl (fun ls hl => ?_)
  refine lv_iconst (v := nI 0) hx hb dX0_openedByCrew_2 (by decide) ?_
  refine lv_istore_n (lv' := [(2, .int (nI 0)), (1, .int (nI 0)), (0, .ref (ad z))]) hx hb dX0_openedByCrew_3 rfl hl (by decide) rfl (fun ls hl => ?_)
  suffices KL4 : ∀ (fuel : Nat) (i : Nat) (f : Int32) (H : Heap) (locs : List Loc) (ls : Array Slot), (i ≤ N) → (f = sm (fun i => I (z + 8 + (1 + i)) 5) i) → N - i < fuel → va_P D vwCl (gw kC cs ad I) H → va_D (gA kC ad sz) (gw kC cs ad I) → va_S (gA kC ad sz) s.heap H locs → lv_has ls 3 [(2, .int (nI i)), (1, .int f), (0, .ref (ad z))] → W pg l e ({ frames := 0, cells := 0, slots := 0, locals := 0 }) s m args below meth c H locs 0 0 (MQ below (va_Qi (fun r u => r = f_X0_openedByCrew I z N ∧ u = I) (wat kC cs D ad (gA kC ad sz)) (gA kC ad sz)) args s 0 0 (gA kC ad sz)) (F0 m 4 ls []) from KL4 _ 0 (nI 0) _ _ _ (by omega) rfl (Nat.lt_succ_self _) hP hD hS (lv_sub hl [0, 1, 2] rfl)
  intro fuel4
  induction fuel4 with
  | zero => intro _ _ _ _ _ _ _ hm; exact absurd hm (Nat.not_lt_zero _)
  | succ fuel4 ih4 =>
    intro i f H locs ls hi hf hm4 hP hD hS hl
    refine lv_iload_n hx hb dX0_openedByCrew_4 rfl (lv_at hl 0 rfl) ?_
    refine lv_aload_n hx hb dX0_openedByCrew_5 rfl (lv_at hl 2 rfl) ?_
    refine g_get (κ := 2) (ci := 0) (v := .int (I z 3)) (C := RX0) (T := TX0) (N := 7) hx hb hts hown hK hP (k := z) hz (by decide) rfl (fun _ h => List.mem_cons_of_mem _ (List.mem_append_left _ (List.mem_append_right _ h))) rfl 3 (by decide) (hts _ (List.mem_of_getElem? (i := 1) rfl)) (fun _ h9 => h9) rfl dX0_openedByCrew_6 ?_
    rw [show I z 3 = nI N from hN3]
    refine lv_icmp_ge (tgt := 36) hx hb dX0_openedByCrew_9 (by decide) (fun c_1 => ?_) (fun c_1 => ?_)
    · skip
      have nc_1 : N ≤ i := (nI_leI (a := N) (b := i) (by omega) (by omega)).mp c_1
      refine lv_iload_n hx hb dX0_openedByCrew_36 rfl (lv_at hl 1 rfl) ?_
      exact g_iret (v := f) hx hb hr hlocks rfl hP hD hS ⟨by rw [hf, show i = N from by omega]; rfl, rfl⟩ dX0_openedByCrew_37
    · skip
      have nc_1 : ¬ N ≤ i := fun z9_ => c_1 ((nI_leI (a := N) (b := i) (by omega) (by omega)).mpr z9_)
      refine lv_iload_n hx hb dX0_openedByCrew_12 rfl (lv_at hl 0 rfl) ?_
      refine lv_bipush (v := nI 8) hx hb dX0_openedByCrew_13 (by decide) ?_
      refine lv_icmp_ge (tgt := 36) hx hb dX0_openedByCrew_15 (by decide) (fun c_2 => ?_) (fun c_2 => ?_)
      · skip
        have nc_2 : 8 ≤ i := (nI_leI (a := 8) (b := i) (by omega) (by omega)).mp c_2
        exact absurd nc_2 (by omega)
      · skip
        have nc_2 : ¬ 8 ≤ i := fun z9_ => c_2 ((nI_leI (a := 8) (b := i) (by omega) (by omega)).mpr z9_)
        refine lv_iload_n hx hb dX0_openedByCrew_18 rfl (lv_at hl 1 rfl) ?_
        refine lv_aload_n hx hb dX0_openedByCrew_19 rfl (lv_at hl 2 rfl) ?_
        refine g_get (κ := 2) (ci := 0) (v := .ref (ad (z + 8))) (C := RX0) (T := TX0) (N := 7) hx hb hts hown hK hP (k := z) hz (by decide) rfl (fun _ h => List.mem_cons_of_mem _ (List.mem_append_left _ (List.mem_append_right _ h))) rfl 2 (by decide) (hts _ (List.mem_of_getElem? (i := 2) rfl)) (fun _ h9 => h9) rfl dX0_openedByCrew_20 ?_
        refine lv_iload_n hx hb dX0_openedByCrew_23 rfl (lv_at hl 0 rfl) ?_
        refine g_crew (i := i) hx hb hK hP (k := (z + 8)) (kd_2_2 hz) (by omega) dX0_openedByCrew_24 ?_
        refine g_getN (κ := 6) (ci := 4) (v := .int (I (z + 8 + (1 + i)) 5)) (C := RX4) (T := TX4) (N := 8) hx hb hts hown hK hP (k := (z + 8 + (1 + i))) (kd_crew (kd_2_2 hz) (show i < 8 from by omega)) (by decide) rfl (fun _ h => List.mem_cons_of_mem _ (List.mem_append_right _ h)) rfl 5 (by decide) (nwu12 hN) (fun _ h9 => h9) rfl dX0_openedByCrew_25 ?_
        refine lv_iadd hx hb dX0_openedByCrew_28 ?_
        refine lv_istore_n (lv' := [(1, .int (f + (I (z + 8 + (1 + i)) 5))), (2, .int (nI i)), (0, .ref (ad z))]) hx hb dX0_openedByCrew_29 rfl hl (by decide) rfl (fun ls hl => ?_)
        refine lv_iinc (v := nI (i + 1)) (lv' := [(2, .int (nI (i + 1))), (1, .int (f + (I (z + 8 + (1 + i)) 5))), (0, .ref (ad z))]) hx hb dX0_openedByCrew_30 hl (k := 1) rfl (nI_1 i) (by decide) rfl (fun ls hl => ?_)
        refine lv_goto (tgt := 4) hx hb dX0_openedByCrew_33 (by decide) ?_
        exact ih4 (i + 1) (f + (I (z + 8 + (1 + i)) 5)) _ _ _ (by omega) (by rw [hf]; rfl) (by omega) hP hD hS (lv_sub hl [0, 1, 2] rfl)

def f_X0_oilOfCrew (I : Mm) (z N : Nat) : Int32 := sm (fun i => I (z + 8 + (1 + i)) 3) N
set_option maxHeartbeats 4000000 in
set_option maxRecDepth 100000 in
theorem c_X0_oilOfCrew (l : Launch) (D : va_G) (cs : Nat → ClassId) (ad : Nat → Nat) (I : Mm) (sz : Nat) (z : Nat) (hz : kC.getD z 0 = 2) (N : Nat) (hN3 : I z 3 = nI N) (hN8 : N ≤ 8) : MetI l yX0_oilOfCrew wsX0_oilOfCrew ({ frames := 0, cells := 0, slots := 0, locals := 0 }) kC cs D ad I sz [.ref (ad z)] (fun r u => r = f_X0_oilOfCrew I z N ∧ u = I) 0 0 := by
  refine g_met (cc := cX0_oilOfCrew) (maxL := 3) (ret := (some .int)) (by decide) rfl (Nat.le_of_ble_eq_true rfl) ?_
  intro pg e s m args below meth c ls hx hb hr hml hts hown hlocks hsz hP hD hK hN hS hA hl
  have hown : s.vm.findClass RX0 = some m.cls := hown
  have hl : lv_has ls 3 [(0, .ref (ad z))] := hl
  refine lv_iconst (v := nI 0) hx hb dX0_oilOfCrew_0 (by decide) ?_
  refine lv_istore_n (lv' := [(1, .int (nI 0)), (0, .ref (ad z))]) hx hb dX0_oilOfCrew_1 rfl hl (by decide) rfl (fun ls hl => ?_)
  refine lv_iconst (v := nI 0) hx hb dX0_oilOfCrew_2 (by decide) ?_
  refine lv_istore_n (lv' := [(2, .int (nI 0)), (1, .int (nI 0)), (0, .ref (ad z))]) hx hb dX0_oilOfCrew_3 rfl hl (by decide) rfl (fun ls hl => ?_)
  suffices KL4 : ∀ (fuel : Nat) (i : Nat) (f : Int32) (H : Heap) (locs : List Loc) (ls : Array Slot), (i ≤ N) → (f = sm (fun i => I (z + 8 + (1 + i)) 3) i) → N - i < fuel → va_P D vwCl (gw kC cs ad I) H → va_D (gA kC ad sz) (gw kC cs ad I) → va_S (gA kC ad sz) s.heap H locs → lv_has ls 3 [(2, .int (nI i)), (1, .int f), (0, .ref (ad z))] → W pg l e ({ frames := 0, cells := 0, slots := 0, locals := 0 }) s m args below meth c H locs 0 0 (MQ below (va_Qi (fun r u => r = f_X0_oilOfCrew I z N ∧ u = I) (wat kC cs D ad (gA kC ad sz)) (gA kC ad sz)) args s 0 0 (gA kC ad sz)) (F0 m 4 ls []) from KL4 _ 0 (nI 0) _ _ _ (by omega) rfl (Nat.lt_succ_self _) hP hD hS (lv_sub hl [0, 1, 2] rfl)
  intro fuel4
  induction fuel4 with
  | zero => intro _ _ _ _ _ _ _ hm; exact absurd hm (Nat.not_lt_zero _)
  | succ fuel4 ih4 =>
    intro i f H locs ls hi hf hm4 hP hD hS hl
    refine lv_iload_n hx hb dX0_oilOfCrew_4 rfl (lv_at hl 0 rfl) ?_
    refine lv_aload_n hx hb dX0_oilOfCrew_5 rfl (lv_at hl 2 rfl) ?_
    refine g_get (κ := 2) (ci := 0) (v := .int (I z 3)) (C := RX0) (T := TX0) (N := 7) hx hb hts hown hK hP (k := z) hz (by decide) rfl (fun _ h => List.mem_cons_of_mem _ (List.mem_append_left _ (List.mem_append_right _ h))) rfl 3 (by decide) (hts _ (List.mem_of_getElem? (i := 1) rfl)) (fun _ h9 => h9) rfl dX0_oilOfCrew_6 ?_
    rw [show I z 3 = nI N from hN3]
    refine lv_icmp_ge (tgt := 36) hx hb dX0_oilOfCrew_9 (by decide) (fun c_1 => ?_) (fun c_1 => ?_)
    · skip
      have nc_1 : N ≤ i := (nI_leI (a := N) (b := i) (by omega) (by omega)).mp c_1
      refine lv_iload_n hx hb dX0_oilOfCrew_36 rfl (lv_at hl 1 rfl) ?_
      exact g_iret (v := f) hx hb hr hlocks rfl hP hD hS ⟨by rw [hf, show i = N from by omega]; rfl, rfl⟩ dX0_oilOfCrew_37
    · skip
      have nc_1 : ¬ N ≤ i := fun z9_ => c_1 ((nI_leI (a := N) (b := i) (by omega) (by omega)).mpr z9_)
      refine lv_iload_n hx hb dX0_oilOfCrew_12 rfl (lv_at hl 0 rfl) ?_
      refine lv_bipush (v := nI 8) hx hb dX0_oilOfCrew_13 (by decide) ?_
      refine lv_icmp_ge (tgt := 36) hx hb dX0_oilOfCrew_15 (by decide) (fun c_2 => ?_) (fun c_2 => ?_)
      · skip
        have nc_2 : 8 ≤ i := (nI_leI (a := 8) (b := i) (by omega) (by omega)).mp c_2
        exact absurd nc_2 (by omega)
      · skip
        have nc_2 : ¬ 8 ≤ i := fun z9_ => c_2 ((nI_leI (a := 8) (b := i) (by omega) (by omega)).mpr z9_)
        refine lv_iload_n hx hb dX0_oilOfCrew_18 rfl (lv_at hl 1 rfl) ?_
        refine lv_aload_n hx hb dX0_oilOfCrew_19 rfl (lv_at hl 2 rfl) ?_
        refine g_get (κ := 2) (ci := 0) (v := .ref (ad (z + 8))) (C := RX0) (T := TX0) (N := 7) hx hb hts hown hK hP (k := z) hz (by decide) rfl (fun _ h => List.mem_cons_of_mem _ (List.mem_append_left _ (List.mem_append_right _ h))) rfl 2 (by decide) (hts _ (List.mem_of_getElem? (i := 2) rfl)) (fun _ h9 => h9) rfl dX0_oilOfCrew_20 ?_
        refine lv_iload_n hx hb dX0_oilOfCrew_23 rfl (lv_at hl 0 rfl) ?_
        refine g_crew (i := i) hx hb hK hP (k := (z + 8)) (kd_2_2 hz) (by omega) dX0_oilOfCrew_24 ?_
        refine g_getN (κ := 6) (ci := 4) (v := .int (I (z + 8 + (1 + i)) 3)) (C := RX4) (T := TX4) (N := 8) hx hb hts hown hK hP (k := (z + 8 + (1 + i))) (kd_crew (kd_2_2 hz) (show i < 8 from by omega)) (by decide) rfl (fun _ h => List.mem_cons_of_mem _ (List.mem_append_right _ h)) rfl 3 (by decide) (nwu9 hN) (fun _ h9 => h9) rfl dX0_oilOfCrew_25 ?_
        refine lv_iadd hx hb dX0_oilOfCrew_28 ?_
        refine lv_istore_n (lv' := [(1, .int (f + (I (z + 8 + (1 + i)) 3))), (2, .int (nI i)), (0, .ref (ad z))]) hx hb dX0_oilOfCrew_29 rfl hl (by decide) rfl (fun ls hl => ?_)
        refine lv_iinc (v := nI (i + 1)) (lv' := [(2, .int (nI (i + 1))), (1, .int (f + (I (z + 8 + (1 + i)) 3))), (0, .ref (ad z))]) hx hb dX0_oilOfCrew_30 hl (k := 1) rfl (nI_1 i) (by decide) rfl (fun ls hl => ?_)
        refine lv_goto (tgt := 4) hx hb dX0_oilOfCrew_33 (by decide) ?_
        exact ih4 (i + 1) (f + (I (z + 8 + (1 + i)) 3)) _ _ _ (by omega) (by rw [hf]; rfl) (by omega) hP hD hS (lv_sub hl [0, 1, 2] rfl)

def f_X0_ordersOfCrew (I : Mm) (z N : Nat) : Int32 := sm (fun i => I (z + 8 + (1 + i)) 7) N
set_option maxHeartbeats 4000000 in
set_option maxRecDepth 100000 in
theorem c_X0_ordersOfCrew (l : Launch) (D : va_G) (cs : Nat → ClassId) (ad : Nat → Nat) (I : Mm) (sz : Nat) (z : Nat) (hz : kC.getD z 0 = 2) (N : Nat) (hN3 : I z 3 = nI N) (hN8 : N ≤ 8) : MetI l yX0_ordersOfCrew wsX0_ordersOfCrew ({ frames := 0, cells := 0, slots := 0, locals := 0 }) kC cs D ad I sz [.ref (ad z)] (fun r u => r = f_X0_ordersOfCrew I z N ∧ u = I) 0 0 := by
  refine g_met (cc := cX0_ordersOfCrew) (maxL := 3) (ret := (some .int)) (by decide) rfl (Nat.le_of_ble_eq_true rfl) ?_
  intro pg e s m args below meth c ls hx hb hr hml hts hown hlocks hsz hP hD hK hN hS hA hl
  have hown : s.vm.findClass RX0 = some m.cls := hown
  have hl : lv_has ls 3 [(0, .ref (ad z))] := hl
  refine lv_iconst (v := nI 0) hx hb dX0_ordersOfCrew_0 (by decide) ?_
  refine lv_istore_n (lv' := [(1, .int (nI 0)), (0, .ref (ad z))]) hx hb dX0_ordersOfCrew_1 rfl hl (by decide) rfl (fun ls hl => ?_)
  refine lv_iconst (v := nI 0) hx hb dX0_ordersOfCrew_2 (by decide) ?_
  refine lv_istore_n (lv' := [(2, .int (nI 0)), (1, .int (nI 0)), (0, .ref (ad z))]) hx hb dX0_ordersOfCrew_3 rfl hl (by decide) rfl (fun ls hl => ?_)
  suffices KL4 : ∀ (fuel : Nat) (i : Nat) (f : Int32) (H : Heap) (locs : List Loc) (ls : Array Slot), (i ≤ N) → (f = sm (fun i => I (z + 8 + (1 + i)) 7) i) → N - i < fuel → va_P D vwCl (gw kC cs ad I) H → va_D (gA kC ad sz) (gw kC cs ad I) → va_S (gA kC ad sz) s.heap H locs → lv_has ls 3 [(2, .int (nI i)), (1, .int f), (0, .ref (ad z))] → W pg l e ({ frames := 0, cells := 0, slots := 0, locals := 0 }) s m args below meth c H locs 0 0 (MQ below (va_Qi (fun r u => r = f_X0_ordersOfCrew I z N ∧ u = I) (wat kC cs D ad (gA kC ad sz)) (gA kC ad sz)) args s 0 0 (gA kC ad sz)) (F0 m 4 ls []) from KL4 _ 0 (nI 0) _ _ _ (by omega) rfl (Nat.lt_succ_self _) hP hD hS (lv_sub hl [0, 1, 2] rfl)
  intro fuel4
  induction fuel4 with
  | zero => intro _ _ _ _ _ _ _ hm; exact absurd hm (Nat.not_lt_zero _)
  | succ fuel4 ih4 =>
    intro i f H locs ls hi hf hm4 hP hD hS hl
    refine lv_iload_n hx hb dX0_ordersOfCrew_4 rfl (lv_at hl 0 rfl) ?_
    refine lv_aload_n hx hb dX0_ordersOfCrew_5 rfl (lv_at hl 2 rfl) ?_
    refine g_get (κ := 2) (ci := 0) (v := .int (I z 3)) (C := RX0) (T := TX0) (N := 7) hx hb hts hown hK hP (k := z) hz (by decide) rfl (fun _ h => List.mem_cons_of_mem _ (List.mem_append_left _ (List.mem_append_right _ h))) rfl 3 (by decide) (hts _ (List.mem_of_getElem? (i := 1) rfl)) (fun _ h9 => h9) rfl dX0_ordersOfCrew_6 ?_
    rw [show I z 3 = nI N from hN3]
    refine lv_icmp_ge (tgt := 36) hx hb dX0_ordersOfCrew_9 (by decide) (fun c_1 => ?_) (fun c_1 => ?_)
    · skip
      have nc_1 : N ≤ i := (nI_leI (a := N) (b := i) (by omega) (by omega)).mp c_1
      refine lv_iload_n hx hb dX0_ordersOfCrew_36 rfl (lv_at hl 1 rfl) ?_
      exact g_iret (v := f) hx hb hr hlocks rfl hP hD hS ⟨by rw [hf, show i = N from by omega]; rfl, rfl⟩ dX0_ordersOfCrew_37
    · skip
      have nc_1 : ¬ N ≤ i := fun z9_ => c_1 ((nI_leI (a := N) (b := i) (by omega) (by omega)).mpr z9_)
      refine lv_iload_n hx hb dX0_ordersOfCrew_12 rfl (lv_at hl 0 rfl) ?_
      refine lv_bipush (v := nI 8) hx hb dX0_ordersOfCrew_13 (by decide) ?_
      refine lv_icmp_ge (tgt := 36) hx hb dX0_ordersOfCrew_15 (by decide) (fun c_2 => ?_) (fun c_2 => ?_)
      · skip
        have nc_2 : 8 ≤ i := (nI_leI (a := 8) (b := i) (by omega) (by omega)).mp c_2
        exact absurd nc_2 (by omega)
      · skip
        have nc_2 : ¬ 8 ≤ i := fun z9_ => c_2 ((nI_leI (a := 8) (b := i) (by omega) (by omega)).mpr z9_)
        refine lv_iload_n hx hb dX0_ordersOfCrew_18 rfl (lv_at hl 1 rfl) ?_
        refine lv_aload_n hx hb dX0_ordersOfCrew_19 rfl (lv_at hl 2 rfl) ?_
        refine g_get (κ := 2) (ci := 0) (v := .ref (ad (z + 8))) (C := RX0) (T := TX0) (N := 7) hx hb hts hown hK hP (k := z) hz (by decide) rfl (fun _ h => List.mem_cons_of_mem _ (List.mem_append_left _ (List.mem_append_right _ h))) rfl 2 (by decide) (hts _ (List.mem_of_getElem? (i := 2) rfl)) (fun _ h9 => h9) rfl dX0_ordersOfCrew_20 ?_
        refine lv_iload_n hx hb dX0_ordersOfCrew_23 rfl (lv_at hl 0 rfl) ?_
        refine g_crew (i := i) hx hb hK hP (k := (z + 8)) (kd_2_2 hz) (by omega) dX0_ordersOfCrew_24 ?_
        refine g_getN (κ := 6) (ci := 4) (v := .int (I (z + 8 + (1 + i)) 7)) (C := RX4) (T := TX4) (N := 8) hx hb hts hown hK hP (k := (z + 8 + (1 + i))) (kd_crew (kd_2_2 hz) (show i < 8 from by omega)) (by decide) rfl (fun _ h => List.mem_cons_of_mem _ (List.mem_append_right _ h)) rfl 7 (by decide) (nwu15 hN) (fun _ h9 => h9) rfl dX0_ordersOfCrew_25 ?_
        refine lv_iadd hx hb dX0_ordersOfCrew_28 ?_
        refine lv_istore_n (lv' := [(1, .int (f + (I (z + 8 + (1 + i)) 7))), (2, .int (nI i)), (0, .ref (ad z))]) hx hb dX0_ordersOfCrew_29 rfl hl (by decide) rfl (fun ls hl => ?_)
        refine lv_iinc (v := nI (i + 1)) (lv' := [(2, .int (nI (i + 1))), (1, .int (f + (I (z + 8 + (1 + i)) 7))), (0, .ref (ad z))]) hx hb dX0_ordersOfCrew_30 hl (k := 1) rfl (nI_1 i) (by decide) rfl (fun ls hl => ?_)
        refine lv_goto (tgt := 4) hx hb dX0_ordersOfCrew_33 (by decide) ?_
        exact ih4 (i + 1) (f + (I (z + 8 + (1 + i)) 7)) _ _ _ (by omega) (by rw [hf]; rfl) (by omega) hP hD hS (lv_sub hl [0, 1, 2] rfl)

def sB (I : Mm) (z : Nat) (a b : Int32) (n : Nat) : Mm := fun k => if z + 9 ≤ k ∧ k < z + 9 + n ∧ I k 0 = a then upd (I k) 4 b else I k
theorem sB_0 (I : Mm) (z : Nat) (a b : Int32) : sB I z a b 0 = I := by
  funext k
  simp only [sB]
  rw [if_neg (by omega)]
theorem sB_o {I : Mm} {z : Nat} {a b : Int32} {n k : Nat} (h : k < z + 9 ∨ z + 9 + n ≤ k) : sB I z a b n k = I k := by
  simp only [sB]
  rw [if_neg (by omega)]
theorem sB_i {I : Mm} {z : Nat} {a b : Int32} {n k j : Nat} (h : j ≠ 4) : sB I z a b n k j = I k j := by
  simp only [sB]
  split
  · rw [upd_ap, if_neg h]
  · rfl
theorem sB_t {I : Mm} {z : Nat} {a b : Int32} {n : Nat} (h : I (z + 8 + (1 + n)) 0 = a) : sB I z a b (n + 1) = wr (sB I z a b n) (z + 8 + (1 + n)) 4 b := by
  funext k
  by_cases hk : k = z + 8 + (1 + n)
  · subst hk
    rw [wr, wrA_s, show sB I z a b n (z + 8 + (1 + n)) = I (z + 8 + (1 + n)) from sB_o (by omega)]
    simp only [sB]
    rw [if_pos ⟨by omega, by omega, h⟩]
  · rw [wr_n _ _ _ hk]
    simp only [sB]
    by_cases h2 : z + 9 ≤ k ∧ k < z + 9 + n ∧ I k 0 = a
    · rw [if_pos h2, if_pos ⟨h2.1, by omega, h2.2.2⟩]
    · rw [if_neg h2, if_neg (fun y => h2 ⟨y.1, by omega, y.2.2⟩)]
theorem sB_f {I : Mm} {z : Nat} {a b : Int32} {n : Nat} (h : ¬ I (z + 8 + (1 + n)) 0 = a) : sB I z a b (n + 1) = sB I z a b n := by
  funext k
  simp only [sB]
  by_cases h2 : z + 9 ≤ k ∧ k < z + 9 + n ∧ I k 0 = a
  · rw [if_pos h2, if_pos ⟨h2.1, by omega, h2.2.2⟩]
  · rw [if_neg h2, if_neg (fun y => h2 ⟨y.1, (by
      by_cases e : k = z + 9 + n
      · exact absurd y.2.2 (by rw [e, show z + 9 + n = z + 8 + (1 + n) from by omega]; exact h)
      · omega), y.2.2⟩)]

set_option maxHeartbeats 4000000 in
set_option maxRecDepth 100000 in
theorem c_X0_setBuriedAt (l : Launch) (D : va_G) (cs : Nat → ClassId) (ad : Nat → Nat) (I : Mm) (sz : Nat) (z : Nat) (hz : kC.getD z 0 = 2) (a : Int32) (b : Int32) (hb_ : b = 0 ∨ b = 1) (N : Nat) (hN3 : I z 3 = nI N) (hN8 : N ≤ 8) : MetN l yX0_setBuriedAt wsX0_setBuriedAt ({ frames := 0, cells := 0, slots := 0, locals := 0 }) kC cs D ad I sz [.ref (ad z), .int a, .int b] (fun u => u = sB I z a b N) 0 0 := by
  refine g_met (cc := cX0_setBuriedAt) (maxL := 4) (ret := none) (by decide) rfl (Nat.le_of_ble_eq_true rfl) ?_
  intro pg e s m args below meth c ls hx hb hr hml hts hown hlocks hsz hP hD hK hN hS hA hl
  have hown : s.vm.findClass RX0 = some m.cls := hown
  have hl : lv_has ls 4 [(0, .ref (ad z)), (1, .int a), (2, .int b)] := hl
  refine lv_iconst (v := nI 0) hx hb dX0_setBuriedAt_0 (by decide) ?_
  refine lv_istore_n (lv' := [(3, .int (nI 0)), (0, .ref (ad z)), (1, .int a), (2, .int b)]) hx hb dX0_setBuriedAt_1 rfl hl (by decide) rfl (fun ls hl => ?_)
  suffices KL2 : ∀ (fuel : Nat) (i : Nat) (u : Mm) (H : Heap) (locs : List Loc) (ls : Array Slot), (i ≤ N) → (u = sB I z a b i) → N - i < fuel → va_P D vwCl (gw kC cs ad u) H → va_D (gA kC ad sz) (gw kC cs ad u) → va_S (gA kC ad sz) s.heap H locs → lv_has ls 4 [(3, .int (nI i)), (0, .ref (ad z)), (1, .int a), (2, .int b)] → W pg l e ({ frames := 0, cells := 0, slots := 0, locals := 0 }) s m args below meth c H locs 0 0 (MQ below (va_Qv (fun u => u = sB I z a b N) (wat kC cs D ad (gA kC ad sz)) (gA kC ad sz)) args s 0 0 (gA kC ad sz)) (F0 m 2 ls []) from KL2 _ 0 I _ _ _ (by omega) (sB_0 I z a b).symm (Nat.lt_succ_self _) hP hD hS (lv_sub hl [0, 1, 2, 3] rfl)
  intro fuel2
  induction fuel2 with
  | zero => intro _ _ _ _ _ _ _ hm; exact absurd hm (Nat.not_lt_zero _)
  | succ fuel2 ih2 =>
    intro i u H locs ls hi hu hm2 hP hD hS hl
    refine lv_iload_n hx hb dX0_setBuriedAt_2 rfl (lv_at hl 0 rfl) ?_
    refine lv_aload_n hx hb dX0_setBuriedAt_3 rfl (lv_at hl 1 rfl) ?_
    refine g_get (κ := 2) (ci := 0) (v := .int (u z 3)) (C := RX0) (T := TX0) (N := 7) hx hb hts hown hK hP (k := z) hz (by decide) rfl (fun _ h => List.mem_cons_of_mem _ (List.mem_append_left _ (List.mem_append_right _ h))) rfl 3 (by decide) (hts _ (List.mem_of_getElem? (i := 1) rfl)) (fun _ h9 => h9) rfl dX0_setBuriedAt_4 ?_
    rw [show u z 3 = nI N from (by rw [hu, sB_o (by omega)]; exact hN3)]
    refine lv_icmp_ge (tgt := 45) hx hb dX0_setBuriedAt_7 (by decide) (fun c_1 => ?_) (fun c_1 => ?_)
    · skip
      have nc_1 : N ≤ i := (nI_leI (a := N) (b := i) (by omega) (by omega)).mp c_1
      exact g_vret hx hb hr hlocks hP hD hS (by rw [hu, show i = N from by omega]) dX0_setBuriedAt_45
    · skip
      have nc_1 : ¬ N ≤ i := fun z9_ => c_1 ((nI_leI (a := N) (b := i) (by omega) (by omega)).mpr z9_)
      refine lv_iload_n hx hb dX0_setBuriedAt_10 rfl (lv_at hl 0 rfl) ?_
      refine lv_bipush (v := nI 8) hx hb dX0_setBuriedAt_11 (by decide) ?_
      refine lv_icmp_ge (tgt := 45) hx hb dX0_setBuriedAt_13 (by decide) (fun c_2 => ?_) (fun c_2 => ?_)
      · skip
        have nc_2 : 8 ≤ i := (nI_leI (a := 8) (b := i) (by omega) (by omega)).mp c_2
        exact absurd nc_2 (by omega)
      · skip
        have nc_2 : ¬ 8 ≤ i := fun z9_ => c_2 ((nI_leI (a := 8) (b := i) (by omega) (by omega)).mpr z9_)
        refine lv_aload_n hx hb dX0_setBuriedAt_16 rfl (lv_at hl 1 rfl) ?_
        refine g_get (κ := 2) (ci := 0) (v := .ref (ad (z + 8))) (C := RX0) (T := TX0) (N := 7) hx hb hts hown hK hP (k := z) hz (by decide) rfl (fun _ h => List.mem_cons_of_mem _ (List.mem_append_left _ (List.mem_append_right _ h))) rfl 2 (by decide) (hts _ (List.mem_of_getElem? (i := 2) rfl)) (fun _ h9 => h9) rfl dX0_setBuriedAt_17 ?_
        refine lv_iload_n hx hb dX0_setBuriedAt_20 rfl (lv_at hl 0 rfl) ?_
        refine g_crew (i := i) hx hb hK hP (k := (z + 8)) (kd_2_2 hz) (by omega) dX0_setBuriedAt_21 ?_
        refine g_getN (κ := 6) (ci := 4) (v := .int (u (z + 8 + (1 + i)) 0)) (C := RX4) (T := TX4) (N := 8) hx hb hts hown hK hP (k := (z + 8 + (1 + i))) (kd_crew (kd_2_2 hz) (show i < 8 from by omega)) (by decide) rfl (fun _ h => List.mem_cons_of_mem _ (List.mem_append_right _ h)) rfl 0 (by decide) (nwu2 hN) (fun _ h9 => h9) rfl dX0_setBuriedAt_22 ?_
        refine lv_iload_n hx hb dX0_setBuriedAt_25 rfl (lv_at hl 2 rfl) ?_
        refine lv_icmp_ne (tgt := 39) hx hb dX0_setBuriedAt_26 (by decide) (fun c_3 => ?_) (fun c_3 => ?_)
        · skip
          refine lv_iinc (v := nI (i + 1)) (lv' := [(3, .int (nI (i + 1))), (0, .ref (ad z)), (1, .int a), (2, .int b)]) hx hb dX0_setBuriedAt_39 hl (k := 0) rfl (nI_1 i) (by decide) rfl (fun ls hl => ?_)
          refine lv_goto (tgt := 2) hx hb dX0_setBuriedAt_42 (by decide) ?_
          exact ih2 (i + 1) u _ _ _ (by omega) (by rw [sB_f (by rw [hu, sB_i (by decide)] at c_3; exact c_3)]; exact hu) (by omega) hP hD hS (lv_sub hl [0, 1, 2, 3] rfl)
        · skip
          refine lv_aload_n hx hb dX0_setBuriedAt_29 rfl (lv_at hl 1 rfl) ?_
          refine g_get (κ := 2) (ci := 0) (v := .ref (ad (z + 8))) (C := RX0) (T := TX0) (N := 7) hx hb hts hown hK hP (k := z) hz (by decide) rfl (fun _ h => List.mem_cons_of_mem _ (List.mem_append_left _ (List.mem_append_right _ h))) rfl 2 (by decide) (hts _ (List.mem_of_getElem? (i := 2) rfl)) (fun _ h9 => h9) rfl dX0_setBuriedAt_30 ?_
          refine lv_iload_n hx hb dX0_setBuriedAt_33 rfl (lv_at hl 0 rfl) ?_
          refine g_crew (i := i) hx hb hK hP (k := (z + 8)) (kd_2_2 hz) (by omega) dX0_setBuriedAt_34 ?_
          refine lv_iload_n hx hb dX0_setBuriedAt_35 rfl (lv_at hl 3 rfl) ?_
          refine g_putN (κ := 6) (ci := 4) (v := b) (ty := .boolean) (C := RX4) (T := TX4) (N := 8) hx hb hts hown hK hP hD hS (k := (z + 8 + (1 + i))) (kd_crew (kd_2_2 hz) (show i < 8 from by omega)) (by decide) rfl (fun _ h => List.mem_cons_of_mem _ (List.mem_append_right _ h)) tyX4 tyX4_ok nmX4 rfl 4 (by decide) (nwu10 hN) (fun _ h9 => h9) rfl (by decide +kernel) (bo_nar hb_) (bo_fit hb_) (Nat.le_of_ble_eq_true rfl) rfl dX0_setBuriedAt_36 (fun u4 H locs hu4 hP hD hS => ?_)
          refine lv_iinc (v := nI (i + 1)) (lv' := [(3, .int (nI (i + 1))), (0, .ref (ad z)), (1, .int a), (2, .int b)]) hx hb dX0_setBuriedAt_39 hl (k := 0) rfl (nI_1 i) (by decide) rfl (fun ls hl => ?_)
          refine lv_goto (tgt := 2) hx hb dX0_setBuriedAt_42 (by decide) ?_
          exact ih2 (i + 1) u4 _ _ _ (by omega) (by rw [sB_t (by rw [hu, sB_i (by decide)] at c_3; exact c_3), ← hu]; exact hu4) (by omega) hP hD hS (lv_sub hl [0, 1, 2, 3] rfl)

def pfind (p : Nat → Bool) : Nat → Option Nat
  | 0 => none
  | n + 1 => match pfind p n with
    | some j => some j
    | none => if p n then some n else none
theorem pfind_n {p : Nat → Bool} {n : Nat} (h : pfind p n = none) (hp : p n = false) : pfind p (n + 1) = none := by simp [pfind, h, hp]
theorem pfind_s {p : Nat → Bool} {n : Nat} (h : pfind p n = none) (hp : p n = true) : ∀ m, n < m → pfind p m = some n
  | 0, hm => absurd hm (Nat.not_lt_zero _)
  | m + 1, hm => by
    by_cases e : m = n
    · subst e; simp [pfind, h, hp]
    · simp [pfind, pfind_s h hp m (by omega)]
theorem pfind_lt {p : Nat → Bool} {j : Nat} : ∀ {m : Nat}, pfind p m = some j → j < m ∧ p j = true
  | 0, h => by simp [pfind] at h
  | m + 1, h => by
    cases hq : pfind p m with
    | some i =>
      simp [pfind, hq] at h
      subst h
      have := pfind_lt hq
      exact ⟨by omega, this.2⟩
    | none =>
      simp [pfind, hq] at h
      obtain ⟨h1, h2⟩ := h
      subst h2
      exact ⟨by omega, h1⟩
def pP (I : Mm) (z w : Nat) (i : Nat) : Bool := decide (¬ z + 8 + (1 + i) = w) && (decide (I (z + 8 + (1 + i)) 4 = 0) && decide (¬ f_X5_isNear (I (z + 8 + (1 + i)) 0) (I w 0) = 0))
def pO (I : Mm) (z w N : Nat) : Option Nat := pfind (pP I z w) N

set_option maxHeartbeats 4000000 in
set_option maxRecDepth 100000 in
theorem c_X0_partnerOf (l : Launch) (D : va_G) (cs : Nat → ClassId) (ad : Nat → Nat) (I : Mm) (sz : Nat) (z : Nat) (hz : kC.getD z 0 = 2) (w : Nat) (hw : kC.getD w 0 = 6) (N : Nat) (hN3 : I z 3 = nI N) (hN8 : N ≤ 8) : MetQ l yX0_partnerOf wsX0_partnerOf ({ frames := 2, cells := 0, slots := 0, locals := 46 }) kC cs D ad I sz [.ref (ad z), .ref (ad w)] (fun r u => u = I ∧ r = (pO I z w N).map (fun j => ad (z + 8 + (1 + j)))) 0 0 := by
  refine g_met (cc := cX0_partnerOf) (maxL := 4) (ret := (some (.object "SnowMaze$Tunneller"))) (by decide) rfl (Nat.le_of_ble_eq_true rfl) ?_
  intro pg e s m args below meth c ls hx hb hr hml hts hown hlocks hsz hP hD hK hN hS hA hl
  have hown : s.vm.findClass RX0 = some m.cls := hown
  have hl : lv_has ls 4 [(0, .ref (ad z)), (1, .ref (ad w))] := hl
  refine lv_iconst (v := nI 0) hx hb dX0_partnerOf_0 (by decide) ?_
  refine lv_istore_n (lv' := [(2, .int (nI 0)), (0, .ref (ad z)), (1, .ref (ad w))]) hx hb dX0_partnerOf_1 rfl hl (by decide) rfl (fun ls hl => ?_)
  suffices KL2 : ∀ (fuel : Nat) (i : Nat) (H : Heap) (locs : List Loc) (ls : Array Slot), (i ≤ N) → (pfind (pP I z w) i = none) → N - i < fuel → va_P D vwCl (gw kC cs ad I) H → va_D (gA kC ad sz) (gw kC cs ad I) → va_S (gA kC ad sz) s.heap H locs → lv_has ls 4 [(2, .int (nI i)), (0, .ref (ad z)), (1, .ref (ad w))] → W pg l e ({ frames := 2, cells := 0, slots := 0, locals := 46 }) s m args below meth c H locs 0 0 (MQ below (va_Qq (fun r u => u = I ∧ r = (pO I z w N).map (fun j => ad (z + 8 + (1 + j)))) (wat kC cs D ad (gA kC ad sz)) (gA kC ad sz)) args s 0 0 (gA kC ad sz)) (F0 m 2 ls []) from KL2 _ 0 _ _ _ (by omega) rfl (Nat.lt_succ_self _) hP hD hS (lv_sub hl [0, 1, 2] rfl)
  intro fuel2
  induction fuel2 with
  | zero => intro _ _ _ _ _ _ hm; exact absurd hm (Nat.not_lt_zero _)
  | succ fuel2 ih2 =>
    intro i H locs ls hi hf hm2 hP hD hS hl
    refine lv_iload_n hx hb dX0_partnerOf_2 rfl (lv_at hl 0 rfl) ?_
    refine lv_aload_n hx hb dX0_partnerOf_3 rfl (lv_at hl 1 rfl) ?_
    refine g_get (κ := 2) (ci := 0) (v := .int (I z 3)) (C := RX0) (T := TX0) (N := 7) hx hb hts hown hK hP (k := z) hz (by decide) rfl (fun _ h => List.mem_cons_of_mem _ (List.mem_append_left _ (List.mem_append_right _ h))) rfl 3 (by decide) (hts _ (List.mem_of_getElem? (i := 1) rfl)) (fun _ h9 => h9) rfl dX0_partnerOf_4 ?_
    rw [show I z 3 = nI N from hN3]
    refine lv_icmp_ge (tgt := 57) hx hb dX0_partnerOf_7 (by decide) (fun c_1 => ?_) (fun c_1 => ?_)
    · skip
      have nc_1 : N ≤ i := (nI_leI (a := N) (b := i) (by omega) (by omega)).mp c_1
      refine lv_null hx hb dX0_partnerOf_57 ?_
      exact g_qret (r := none) hx hb hr hlocks hP hD hS ⟨rfl, by rw [pO, show N = i from by omega, hf]; rfl⟩ dX0_partnerOf_58
    · skip
      have nc_1 : ¬ N ≤ i := fun z9_ => c_1 ((nI_leI (a := N) (b := i) (by omega) (by omega)).mpr z9_)
      refine lv_iload_n hx hb dX0_partnerOf_10 rfl (lv_at hl 0 rfl) ?_
      refine lv_bipush (v := nI 8) hx hb dX0_partnerOf_11 (by decide) ?_
      refine lv_icmp_ge (tgt := 57) hx hb dX0_partnerOf_13 (by decide) (fun c_2 => ?_) (fun c_2 => ?_)
      · skip
        have nc_2 : 8 ≤ i := (nI_leI (a := 8) (b := i) (by omega) (by omega)).mp c_2
        exact absurd nc_2 (by omega)
      · skip
        have nc_2 : ¬ 8 ≤ i := fun z9_ => c_2 ((nI_leI (a := 8) (b := i) (by omega) (by omega)).mpr z9_)
        refine lv_aload_n hx hb dX0_partnerOf_16 rfl (lv_at hl 1 rfl) ?_
        refine g_get (κ := 2) (ci := 0) (v := .ref (ad (z + 8))) (C := RX0) (T := TX0) (N := 7) hx hb hts hown hK hP (k := z) hz (by decide) rfl (fun _ h => List.mem_cons_of_mem _ (List.mem_append_left _ (List.mem_append_right _ h))) rfl 2 (by decide) (hts _ (List.mem_of_getElem? (i := 2) rfl)) (fun _ h9 => h9) rfl dX0_partnerOf_17 ?_
        refine lv_iload_n hx hb dX0_partnerOf_20 rfl (lv_at hl 0 rfl) ?_
        refine g_crew (i := i) hx hb hK hP (k := (z + 8)) (kd_2_2 hz) (by omega) dX0_partnerOf_21 ?_
        refine lv_astore_n (lv' := [(3, .ref (ad (z + 8 + (1 + i)))), (2, .int (nI i)), (0, .ref (ad z)), (1, .ref (ad w))]) hx hb dX0_partnerOf_22 rfl hl (by decide) rfl (fun ls hl => ?_)
        refine lv_aload_n hx hb dX0_partnerOf_23 rfl (lv_at hl 0 rfl) ?_
        refine lv_aload_n hx hb dX0_partnerOf_24 rfl (lv_at hl 3 rfl) ?_
        refine g_acmp_eq (k1 := z + 8 + (1 + i)) (k2 := w) (tgt := 51) hx hb hD (gk_lt (kd_crew (kd_2_2 hz) (show i < 8 from by omega)) (by decide)) (gk_lt hw (by decide)) dX0_partnerOf_25 (by decide) (fun c_3 => ?_) (fun c_3 => ?_)
        · skip
          refine lv_iinc (v := nI (i + 1)) (lv' := [(2, .int (nI (i + 1))), (3, .ref (ad (z + 8 + (1 + i)))), (0, .ref (ad z)), (1, .ref (ad w))]) hx hb dX0_partnerOf_51 hl (k := 1) rfl (nI_1 i) (by decide) rfl (fun ls hl => ?_)
          refine lv_goto (tgt := 2) hx hb dX0_partnerOf_54 (by decide) ?_
          exact ih2 (i + 1) _ _ _ (by omega) (pfind_n hf (by simp [pP, c_3])) (by omega) hP hD hS (lv_sub hl [0, 2, 3] rfl)
        · skip
          refine lv_aload_n hx hb dX0_partnerOf_28 rfl (lv_at hl 0 rfl) ?_
          refine g_getN (κ := 6) (ci := 4) (v := .int (I (z + 8 + (1 + i)) 4)) (C := RX4) (T := TX4) (N := 8) hx hb hts hown hK hP (k := (z + 8 + (1 + i))) (kd_crew (kd_2_2 hz) (show i < 8 from by omega)) (by decide) rfl (fun _ h => List.mem_cons_of_mem _ (List.mem_append_right _ h)) rfl 4 (by decide) (nwu10 hN) (fun _ h9 => h9) rfl dX0_partnerOf_29 ?_
          refine lv_if_ne (tgt := 51) hx hb dX0_partnerOf_32 (by decide) (fun c_4 => ?_) (fun c_4 => ?_)
          · skip
            refine lv_iinc (v := nI (i + 1)) (lv' := [(2, .int (nI (i + 1))), (3, .ref (ad (z + 8 + (1 + i)))), (0, .ref (ad z)), (1, .ref (ad w))]) hx hb dX0_partnerOf_51 hl (k := 1) rfl (nI_1 i) (by decide) rfl (fun ls hl => ?_)
            refine lv_goto (tgt := 2) hx hb dX0_partnerOf_54 (by decide) ?_
            exact ih2 (i + 1) _ _ _ (by omega) (pfind_n hf (by simp [pP, c_4])) (by omega) hP hD hS (lv_sub hl [0, 2, 3] rfl)
          · skip
            refine lv_aload_n hx hb dX0_partnerOf_35 rfl (lv_at hl 0 rfl) ?_
            refine g_getN (κ := 6) (ci := 4) (v := .int (I (z + 8 + (1 + i)) 0)) (C := RX4) (T := TX4) (N := 8) hx hb hts hown hK hP (k := (z + 8 + (1 + i))) (kd_crew (kd_2_2 hz) (show i < 8 from by omega)) (by decide) rfl (fun _ h => List.mem_cons_of_mem _ (List.mem_append_right _ h)) rfl 0 (by decide) (nwu2 hN) (fun _ h9 => h9) rfl dX0_partnerOf_36 ?_
            refine lv_aload_n hx hb dX0_partnerOf_39 rfl (lv_at hl 3 rfl) ?_
            refine g_getN (κ := 6) (ci := 4) (v := .int (I w 0)) (C := RX4) (T := TX4) (N := 8) hx hb hts hown hK hP (k := w) hw (by decide) rfl (fun _ h => List.mem_cons_of_mem _ (List.mem_append_right _ h)) rfl 0 (by decide) (nwu2 hN) (fun _ h9 => h9) rfl dX0_partnerOf_40 ?_
            refine g_callF (F := f_X5_isNear (I (z + 8 + (1 + i)) 0) (I w 0)) hD hS hA (va_runSN (As := [.int (I (z + 8 + (1 + i)) 0), .int (I w 0)]) (rest := []) ⟨hx, hb, hml, hown, hts⟩ (c_X5_isNear l D cs ad I H.size (I (z + 8 + (1 + i)) 0) (I w 0)) ⟨va_cnB 2 hts gX0_partnerOf_X5_isNear_n136 rfl rfl rfl (nwv24 hN) (hts _ (List.mem_of_getElem? (i := 4) rfl)) (by decide +kernel) ⟨Nat.le_of_ble_eq_true rfl, Nat.le_of_ble_eq_true rfl⟩, (hts _ (List.mem_of_getElem? (i := 3) rfl)), trivial⟩ (g_preS hP hD hK hN) rfl rfl hl.1 rfl (lv_room (Nat.le_of_ble_eq_true rfl)) dX0_partnerOf_43 ⟨Nat.le_of_ble_eq_true rfl, Nat.le_of_ble_eq_true rfl⟩) (fun H locs hP hD hS => ?_)
            refine lv_if_eq (tgt := 51) hx hb dX0_partnerOf_46 (by decide) (fun c_5 => ?_) (fun c_5 => ?_)
            · skip
              refine lv_iinc (v := nI (i + 1)) (lv' := [(2, .int (nI (i + 1))), (3, .ref (ad (z + 8 + (1 + i)))), (0, .ref (ad z)), (1, .ref (ad w))]) hx hb dX0_partnerOf_51 hl (k := 1) rfl (nI_1 i) (by decide) rfl (fun ls hl => ?_)
              refine lv_goto (tgt := 2) hx hb dX0_partnerOf_54 (by decide) ?_
              exact ih2 (i + 1) _ _ _ (by omega) (pfind_n hf (by simp [pP, c_5])) (by omega) hP hD hS (lv_sub hl [0, 2, 3] rfl)
            · skip
              refine lv_aload_n hx hb dX0_partnerOf_49 rfl (lv_at hl 0 rfl) ?_
              exact g_qret (r := (some (ad (z + 8 + (1 + i))))) hx hb hr hlocks hP hD hS ⟨rfl, by rw [pO, pfind_s hf (show pP I z w i = true from by simp only [pP]; rw [decide_eq_true c_3, decide_eq_true c_4, decide_eq_true c_5]; rfl) N (by omega)]; rfl⟩ dX0_partnerOf_50

def m_X0_handLamp (I : Mm) (z : Nat) (g1 : Nat) (g2 : Nat) : Mm := (wr (wr (wr I g1 2 ((I g1 2) - (nI 1))) g2 2 (((wr I g1 2 ((I g1 2) - (nI 1))) g2 2) + (nI 1))) z 6 (((wr (wr I g1 2 ((I g1 2) - (nI 1))) g2 2 (((wr I g1 2 ((I g1 2) - (nI 1))) g2 2) + (nI 1))) z 6) + (nI 1)))
set_option maxHeartbeats 4000000 in
set_option maxRecDepth 100000 in
theorem c_X0_handLamp (l : Launch) (D : va_G) (cs : Nat → ClassId) (ad : Nat → Nat) (I : Mm) (sz : Nat) (z : Nat) (hz : kC.getD z 0 = 2) (g1 : Nat) (hg1 : kC.getD g1 0 = 6) (g2 : Nat) (hg2 : kC.getD g2 0 = 6) : MetN l yX0_handLamp wsX0_handLamp ({ frames := 0, cells := 0, slots := 0, locals := 0 }) kC cs D ad I sz [.ref (ad z), .ref (ad g1), .ref (ad g2)] (fun u => u = m_X0_handLamp I z g1 g2) 0 0 := by
  refine g_met (cc := cX0_handLamp) (maxL := 3) (ret := none) (by decide) rfl (Nat.le_of_ble_eq_true rfl) ?_
  intro pg e s m args below meth c ls hx hb hr hml hts hown hlocks hsz hP hD hK hN hS hA hl
  have hown : s.vm.findClass RX0 = some m.cls := hown
  have hl : lv_has ls 3 [(0, .ref (ad z)), (1, .ref (ad g1)), (2, .ref (ad g2))] := hl
  refine lv_aload_n hx hb dX0_handLamp_0 rfl (lv_at hl 1 rfl) ?_
  refine lv_dup hx hb dX0_handLamp_1 rfl ?_
  refine g_getN (κ := 6) (ci := 4) (v := .int (I g1 2)) (C := RX4) (T := TX4) (N := 8) hx hb hts hown hK hP (k := g1) hg1 (by decide) rfl (fun _ h => List.mem_cons_of_mem _ (List.mem_append_left _ (List.mem_append_right _ h))) rfl 2 (by decide) (nwu6 hN) (fun _ h9 => h9) rfl dX0_handLamp_2 ?_
  refine lv_iconst (v := nI 1) hx hb dX0_handLamp_5 (by decide) ?_
  refine lv_isub hx hb dX0_handLamp_6 ?_
  refine g_putN (κ := 6) (ci := 4) (v := (I g1 2) - (nI 1)) (ty := .int) (C := RX4) (T := TX4) (N := 8) hx hb hts hown hK hP hD hS (k := g1) hg1 (by decide) rfl (fun _ h => List.mem_cons_of_mem _ (List.mem_append_left _ (List.mem_append_right _ h))) tyX4 tyX4_ok nmX4 rfl 2 (by decide) (nwu6 hN) (fun _ h9 => h9) rfl (by decide +kernel) rfl rfl (Nat.le_of_ble_eq_true rfl) rfl dX0_handLamp_7 (fun u1 H locs hu1 hP hD hS => ?_)
  refine lv_aload_n hx hb dX0_handLamp_10 rfl (lv_at hl 2 rfl) ?_
  refine lv_dup hx hb dX0_handLamp_11 rfl ?_
  refine g_getN (κ := 6) (ci := 4) (v := .int (u1 g2 2)) (C := RX4) (T := TX4) (N := 8) hx hb hts hown hK hP (k := g2) hg2 (by decide) rfl (fun _ h => List.mem_cons_of_mem _ (List.mem_append_left _ (List.mem_append_right _ h))) rfl 2 (by decide) (nwu6 hN) (fun _ h9 => h9) rfl dX0_handLamp_12 ?_
  refine lv_iconst (v := nI 1) hx hb dX0_handLamp_15 (by decide) ?_
  refine lv_iadd hx hb dX0_handLamp_16 ?_
  refine g_putN (κ := 6) (ci := 4) (v := (u1 g2 2) + (nI 1)) (ty := .int) (C := RX4) (T := TX4) (N := 8) hx hb hts hown hK hP hD hS (k := g2) hg2 (by decide) rfl (fun _ h => List.mem_cons_of_mem _ (List.mem_append_left _ (List.mem_append_right _ h))) tyX4 tyX4_ok nmX4 rfl 2 (by decide) (nwu6 hN) (fun _ h9 => h9) rfl (by decide +kernel) rfl rfl (Nat.le_of_ble_eq_true rfl) rfl dX0_handLamp_17 (fun u2 H locs hu2 hP hD hS => ?_)
  refine lv_aload_n hx hb dX0_handLamp_20 rfl (lv_at hl 0 rfl) ?_
  refine lv_dup hx hb dX0_handLamp_21 rfl ?_
  refine g_get (κ := 2) (ci := 0) (v := .int (u2 z 6)) (C := RX0) (T := TX0) (N := 7) hx hb hts hown hK hP (k := z) hz (by decide) rfl (fun _ h => List.mem_cons_of_mem _ (List.mem_append_right _ h)) rfl 6 (by decide) (hts _ (List.mem_of_getElem? (i := 1) rfl)) (fun _ h9 => h9) rfl dX0_handLamp_22 ?_
  refine lv_iconst (v := nI 1) hx hb dX0_handLamp_25 (by decide) ?_
  refine lv_iadd hx hb dX0_handLamp_26 ?_
  refine g_put (κ := 2) (ci := 0) (v := (u2 z 6) + (nI 1)) (ty := .int) (C := RX0) (T := TX0) (N := 7) hx hb hts hown hK hP hD hS (k := z) hz (by decide) rfl (fun _ h => List.mem_cons_of_mem _ (List.mem_append_right _ h)) tyX0 tyX0_ok nmX0 rfl 6 (by decide) (hts _ (List.mem_of_getElem? (i := 1) rfl)) (fun _ h9 => h9) rfl (by decide +kernel) rfl rfl (Nat.le_of_ble_eq_true rfl) rfl dX0_handLamp_27 (fun u3 H locs hu3 hP hD hS => ?_)
  exact g_vret hx hb hr hlocks hP hD hS (by subst hu1; subst hu2; subst hu3; simp only [m_X0_handLamp]) dX0_handLamp_30

def m_X0_shore (I : Mm) (z : Nat) (w : Nat) : Mm := (if (I w 1) ≤ 0 then I else (if (f_X3_postsAt I (z + 1) (I w 0)) = 0 then (m_X3_setPost (wr I w 1 ((I w 1) - (nI 1))) (z + 1) ((wr I w 1 ((I w 1) - (nI 1))) w 0)) else I))
set_option maxHeartbeats 4000000 in
set_option maxRecDepth 100000 in
theorem c_X0_shore (l : Launch) (D : va_G) (cs : Nat → ClassId) (ad : Nat → Nat) (I : Mm) (sz : Nat) (z : Nat) (hz : kC.getD z 0 = 2) (w : Nat) (hw : kC.getD w 0 = 6) : MetN l yX0_shore wsX0_shore ({ frames := 2, cells := 0, slots := 0, locals := 42 }) kC cs D ad I sz [.ref (ad z), .ref (ad w)] (fun u => u = m_X0_shore I z w) 0 0 := by
  refine g_met (cc := cX0_shore) (maxL := 2) (ret := none) (by decide) rfl (Nat.le_of_ble_eq_true rfl) ?_
  intro pg e s m args below meth c ls hx hb hr hml hts hown hlocks hsz hP hD hK hN hS hA hl
  have hown : s.vm.findClass RX0 = some m.cls := hown
  have hl : lv_has ls 2 [(0, .ref (ad z)), (1, .ref (ad w))] := hl
  refine lv_aload_n hx hb dX0_shore_0 rfl (lv_at hl 1 rfl) ?_
  refine g_getN (κ := 6) (ci := 4) (v := .int (I w 1)) (C := RX4) (T := TX4) (N := 8) hx hb hts hown hK hP (k := w) hw (by decide) rfl (fun _ h => List.mem_cons_of_mem _ (List.mem_append_left _ (List.mem_append_left _ (List.mem_append_right _ h)))) rfl 1 (by decide) (nwu4 hN) (fun _ h9 => h9) rfl dX0_shore_1 ?_
  refine lv_if_le (tgt := 42) hx hb dX0_shore_4 (by decide) (fun c_1 => ?_) (fun c_1 => ?_)
  · skip
    exact g_vret hx hb hr hlocks hP hD hS (by simp only [m_X0_shore, if_pos c_1]) dX0_shore_42
  · skip
    refine lv_aload_n hx hb dX0_shore_7 rfl (lv_at hl 0 rfl) ?_
    refine g_get (κ := 2) (ci := 0) (v := .ref (ad (z + 1))) (C := RX0) (T := TX0) (N := 7) hx hb hts hown hK hP (k := z) hz (by decide) rfl (fun _ h => List.mem_cons_of_mem _ (List.mem_append_left _ (List.mem_append_right _ h))) rfl 0 (by decide) (hts _ (List.mem_of_getElem? (i := 1) rfl)) (fun _ h9 => h9) rfl dX0_shore_8 ?_
    refine lv_aload_n hx hb dX0_shore_11 rfl (lv_at hl 1 rfl) ?_
    refine g_getN (κ := 6) (ci := 4) (v := .int (I w 0)) (C := RX4) (T := TX4) (N := 8) hx hb hts hown hK hP (k := w) hw (by decide) rfl (fun _ h => List.mem_cons_of_mem _ (List.mem_append_left _ (List.mem_append_left _ (List.mem_append_right _ h)))) rfl 0 (by decide) (nwu2 hN) (fun _ h9 => h9) rfl dX0_shore_12 ?_
    refine g_callF (F := f_X3_postsAt I (z + 1) (I w 0)) hD hS hA (va_runV (As := [.int (I w 0)]) (rest := []) ⟨hx, hb, hml, hown, hts⟩ (c_X3_postsAt l D cs ad I s.heap.size (z + 1) (kd_2_0 hz) (I w 0)) (cwV 1 hts gX0_shore_X3_postsAt rfl rfl rfl (by decide +kernel) ⟨Nat.le_of_ble_eq_true rfl, Nat.le_of_ble_eq_true rfl⟩) (g_preV hP hD hK hN (k := (z + 1)) (kd_2_0 hz) (by decide) rfl rfl rfl rfl) rfl rfl hl.1 rfl (lv_room (Nat.le_of_ble_eq_true rfl)) dX0_shore_15 ⟨Nat.le_of_ble_eq_true rfl, Nat.le_of_ble_eq_true rfl⟩) (fun H locs hP hD hS => ?_)
    refine lv_if_ne (tgt := 42) hx hb dX0_shore_18 (by decide) (fun c_2 => ?_) (fun c_2 => ?_)
    · skip
      exact g_vret hx hb hr hlocks hP hD hS (by simp only [m_X0_shore, if_neg c_1, if_neg c_2]) dX0_shore_42
    · skip
      refine lv_aload_n hx hb dX0_shore_21 rfl (lv_at hl 1 rfl) ?_
      refine lv_dup hx hb dX0_shore_22 rfl ?_
      refine g_getN (κ := 6) (ci := 4) (v := .int (I w 1)) (C := RX4) (T := TX4) (N := 8) hx hb hts hown hK hP (k := w) hw (by decide) rfl (fun _ h => List.mem_cons_of_mem _ (List.mem_append_left _ (List.mem_append_left _ (List.mem_append_right _ h)))) rfl 1 (by decide) (nwu4 hN) (fun _ h9 => h9) rfl dX0_shore_23 ?_
      refine lv_iconst (v := nI 1) hx hb dX0_shore_26 (by decide) ?_
      refine lv_isub hx hb dX0_shore_27 ?_
      refine g_putN (κ := 6) (ci := 4) (v := (I w 1) - (nI 1)) (ty := .int) (C := RX4) (T := TX4) (N := 8) hx hb hts hown hK hP hD hS (k := w) hw (by decide) rfl (fun _ h => List.mem_cons_of_mem _ (List.mem_append_left _ (List.mem_append_left _ (List.mem_append_right _ h)))) tyX4 tyX4_ok nmX4 rfl 1 (by decide) (nwu4 hN) (fun _ h9 => h9) rfl (by decide +kernel) rfl rfl (Nat.le_of_ble_eq_true rfl) rfl dX0_shore_28 (fun u3 H locs hu3 hP hD hS => ?_)
      refine lv_aload_n hx hb dX0_shore_31 rfl (lv_at hl 0 rfl) ?_
      refine g_get (κ := 2) (ci := 0) (v := .ref (ad (z + 1))) (C := RX0) (T := TX0) (N := 7) hx hb hts hown hK hP (k := z) hz (by decide) rfl (fun _ h => List.mem_cons_of_mem _ (List.mem_append_left _ (List.mem_append_right _ h))) rfl 0 (by decide) (hts _ (List.mem_of_getElem? (i := 1) rfl)) (fun _ h9 => h9) rfl dX0_shore_32 ?_
      refine lv_aload_n hx hb dX0_shore_35 rfl (lv_at hl 1 rfl) ?_
      refine g_getN (κ := 6) (ci := 4) (v := .int (u3 w 0)) (C := RX4) (T := TX4) (N := 8) hx hb hts hown hK hP (k := w) hw (by decide) rfl (fun _ h => List.mem_cons_of_mem _ (List.mem_append_left _ (List.mem_append_left _ (List.mem_append_right _ h)))) rfl 0 (by decide) (nwu2 hN) (fun _ h9 => h9) rfl dX0_shore_36 ?_
      refine g_callM (M := m_X3_setPost u3 (z + 1) (u3 w 0)) hD hS hA (va_runV (As := [.int (u3 w 0)]) (rest := []) ⟨hx, hb, hml, hown, hts⟩ (c_X3_setPost l D cs ad u3 H.size (z + 1) (kd_2_0 hz) (u3 w 0)) (cwV 1 hts gX0_shore_X3_setPost rfl rfl rfl (by decide +kernel) ⟨Nat.le_of_ble_eq_true rfl, Nat.le_of_ble_eq_true rfl⟩) (g_preV hP hD hK hN (k := (z + 1)) (kd_2_0 hz) (by decide) rfl rfl rfl rfl) rfl rfl hl.1 rfl (lv_room (Nat.le_of_ble_eq_true rfl)) dX0_shore_39 ⟨Nat.le_of_ble_eq_true rfl, Nat.le_of_ble_eq_true rfl⟩) (fun u4 H locs hu4 hP hD hS => ?_)
      exact g_vret hx hb hr hlocks hP hD hS (by subst hu3; subst hu4; simp only [m_X0_shore, if_neg c_1, if_pos c_2]) dX0_shore_42

theorem put_o {I : Mm} {k x : Nat} {a b : Int32} (h : x ≠ k + 1 ∧ x ≠ k + 2 ∧ x ≠ k + 3) : m_X3_put I k a b x = I x := by
  simp only [m_X3_put]
  repeat' split
  all_goals first | rfl | (rw [wr_n _ _ _ h.2.2, wr_n _ _ _ h.2.1, wr_n _ _ _ h.1])

def f_X0_welcome (I : Mm) (z : Nat) (a : Int32) (b : Int32) (c0 : Int32) (N : Nat) : Int32 := (if (nI N) < (nI 8) then (if (f_X3_isOpen I (z + 1) a) = 0 then nI ((N + 1) - 1) else nI ((N + 1) - 1)) else -1)
def m_X0_welcome (I : Mm) (z : Nat) (a : Int32) (b : Int32) (c0 : Int32) (N : Nat) : Mm := (if (nI N) < (nI 8) then (if (f_X3_isOpen I (z + 1) a) = 0 then (wr (wr (wr (wr (m_X3_put I (z + 1) a (nI 0)) (z + 8 + (1 + N)) 0 a) (z + 8 + (1 + N)) 1 b) (z + 8 + (1 + N)) 2 c0) z 3 (nI (N + 1))) else (wr (wr (wr (wr I (z + 8 + (1 + N)) 0 a) (z + 8 + (1 + N)) 1 b) (z + 8 + (1 + N)) 2 c0) z 3 (nI (N + 1)))) else I)
set_option maxHeartbeats 4000000 in
set_option maxRecDepth 100000 in
theorem c_X0_welcome (l : Launch) (D : va_G) (cs : Nat → ClassId) (ad : Nat → Nat) (I : Mm) (sz : Nat) (z : Nat) (hz : kC.getD z 0 = 2) (a : Int32) (b : Int32) (c0 : Int32) (N : Nat) (hN3 : I z 3 = nI N) (hN8 : N ≤ 8) : MetI l yX0_welcome wsX0_welcome ({ frames := 1, cells := 0, slots := 0, locals := 22 }) kC cs D ad I sz [.ref (ad z), .int a, .int b, .int c0] (fun r u => r = f_X0_welcome I z a b c0 N ∧ u = m_X0_welcome I z a b c0 N) 0 0 := by
  refine g_met (cc := cX0_welcome) (maxL := 5) (ret := (some .int)) (by decide) rfl (Nat.le_of_ble_eq_true rfl) ?_
  intro pg e s m args below meth c ls hx hb hr hml hts hown hlocks hsz hP hD hK hN hS hA hl
  have hown : s.vm.findClass RX0 = some m.cls := hown
  have hl : lv_has ls 5 [(0, .ref (ad z)), (1, .int a), (2, .int b), (3, .int c0)] := hl
  refine lv_aload_n hx hb dX0_welcome_0 rfl (lv_at hl 0 rfl) ?_
  refine g_get (κ := 2) (ci := 0) (v := .int (I z 3)) (C := RX0) (T := TX0) (N := 7) hx hb hts hown hK hP (k := z) hz (by decide) rfl (fun _ h => List.mem_cons_of_mem _ (List.mem_append_left _ (List.mem_append_left _ (List.mem_append_right _ h)))) rfl 3 (by decide) (hts _ (List.mem_of_getElem? (i := 1) rfl)) (fun _ h9 => h9) rfl dX0_welcome_1 ?_
  rw [show I z 3 = nI N from hN3]
  refine lv_bipush (v := nI 8) hx hb dX0_welcome_4 (by decide) ?_
  refine lv_icmp_lt (tgt := 11) hx hb dX0_welcome_6 (by decide) (fun c_1 => ?_) (fun c_1 => ?_)
  · skip
    have nc_1 : N < 8 := (nI_ltI (a := N) (b := 8) (by omega) (by omega)).mp c_1
    refine lv_aload_n hx hb dX0_welcome_11 rfl (lv_at hl 0 rfl) ?_
    refine g_get (κ := 2) (ci := 0) (v := .ref (ad (z + 1))) (C := RX0) (T := TX0) (N := 7) hx hb hts hown hK hP (k := z) hz (by decide) rfl (fun _ h => List.mem_cons_of_mem _ (List.mem_append_left _ (List.mem_append_left _ (List.mem_append_right _ h)))) rfl 0 (by decide) (hts _ (List.mem_of_getElem? (i := 2) rfl)) (fun _ h9 => h9) rfl dX0_welcome_12 ?_
    refine lv_iload_n hx hb dX0_welcome_15 rfl (lv_at hl 1 rfl) ?_
    refine g_callF (F := f_X3_isOpen I (z + 1) a) hD hS hA (va_runV (As := [.int a]) (rest := []) ⟨hx, hb, hml, hown, hts⟩ (c_X3_isOpen l D cs ad I s.heap.size (z + 1) (kd_2_0 hz) a) (cwV 1 hts gX0_welcome_X3_isOpen rfl rfl rfl (by decide +kernel) ⟨Nat.le_of_ble_eq_true rfl, Nat.le_of_ble_eq_true rfl⟩) (g_preV hP hD hK hN (k := (z + 1)) (kd_2_0 hz) (by decide) rfl rfl rfl rfl) rfl rfl hl.1 rfl (lv_room (Nat.le_of_ble_eq_true rfl)) dX0_welcome_16 ⟨Nat.le_of_ble_eq_true rfl, Nat.le_of_ble_eq_true rfl⟩) (fun H locs hP hD hS => ?_)
    refine lv_if_ne (tgt := 31) hx hb dX0_welcome_19 (by decide) (fun c_2 => ?_) (fun c_2 => ?_)
    · skip
      refine lv_aload_n hx hb dX0_welcome_31 rfl (lv_at hl 0 rfl) ?_
      refine g_get (κ := 2) (ci := 0) (v := .ref (ad (z + 8))) (C := RX0) (T := TX0) (N := 7) hx hb hts hown hK hP (k := z) hz (by decide) rfl (fun _ h => List.mem_cons_of_mem _ (List.mem_append_left _ (List.mem_append_left _ (List.mem_append_right _ h)))) rfl 2 (by decide) (hts _ (List.mem_of_getElem? (i := 3) rfl)) (fun _ h9 => h9) rfl dX0_welcome_32 ?_
      refine lv_aload_n hx hb dX0_welcome_35 rfl (lv_at hl 0 rfl) ?_
      refine g_get (κ := 2) (ci := 0) (v := .int (I z 3)) (C := RX0) (T := TX0) (N := 7) hx hb hts hown hK hP (k := z) hz (by decide) rfl (fun _ h => List.mem_cons_of_mem _ (List.mem_append_left _ (List.mem_append_left _ (List.mem_append_right _ h)))) rfl 3 (by decide) (hts _ (List.mem_of_getElem? (i := 1) rfl)) (fun _ h9 => h9) rfl dX0_welcome_36 ?_
      rw [show I z 3 = nI N from hN3]
      refine g_crew (i := N) hx hb hK hP (k := (z + 8)) (kd_2_2 hz) (by omega) dX0_welcome_39 ?_
      refine lv_astore (lv' := [(4, .ref (ad (z + 8 + (1 + N)))), (0, .ref (ad z)), (1, .int a), (2, .int b), (3, .int c0)]) hx hb dX0_welcome_40 hl (by decide) rfl (fun ls hl => ?_)
      refine lv_aload hx hb dX0_welcome_42 (lv_at hl 0 rfl) ?_
      refine lv_iload_n hx hb dX0_welcome_44 rfl (lv_at hl 2 rfl) ?_
      refine g_putN (κ := 6) (ci := 4) (v := a) (ty := .int) (C := RX4) (T := TX4) (N := 8) hx hb hts hown hK hP hD hS (k := (z + 8 + (1 + N))) (kd_crew (kd_2_2 hz) (show N < 8 from by omega)) (by decide) rfl (fun _ h => List.mem_cons_of_mem _ (List.mem_append_left _ (List.mem_append_right _ h))) tyX4 tyX4_ok nmX4 rfl 0 (by decide) (nwu2 hN) (fun _ h9 => h9) rfl (by decide +kernel) rfl rfl (Nat.le_of_ble_eq_true rfl) rfl dX0_welcome_45 (fun u3 H locs hu3 hP hD hS => ?_)
      refine lv_aload hx hb dX0_welcome_48 (lv_at hl 0 rfl) ?_
      refine lv_iload_n hx hb dX0_welcome_50 rfl (lv_at hl 3 rfl) ?_
      refine g_putN (κ := 6) (ci := 4) (v := b) (ty := .int) (C := RX4) (T := TX4) (N := 8) hx hb hts hown hK hP hD hS (k := (z + 8 + (1 + N))) (kd_crew (kd_2_2 hz) (show N < 8 from by omega)) (by decide) rfl (fun _ h => List.mem_cons_of_mem _ (List.mem_append_left _ (List.mem_append_right _ h))) tyX4 tyX4_ok nmX4 rfl 1 (by decide) (nwu4 hN) (fun _ h9 => h9) rfl (by decide +kernel) rfl rfl (Nat.le_of_ble_eq_true rfl) rfl dX0_welcome_51 (fun u4 H locs hu4 hP hD hS => ?_)
      refine lv_aload hx hb dX0_welcome_54 (lv_at hl 0 rfl) ?_
      refine lv_iload_n hx hb dX0_welcome_56 rfl (lv_at hl 4 rfl) ?_
      refine g_putN (κ := 6) (ci := 4) (v := c0) (ty := .int) (C := RX4) (T := TX4) (N := 8) hx hb hts hown hK hP hD hS (k := (z + 8 + (1 + N))) (kd_crew (kd_2_2 hz) (show N < 8 from by omega)) (by decide) rfl (fun _ h => List.mem_cons_of_mem _ (List.mem_append_left _ (List.mem_append_right _ h))) tyX4 tyX4_ok nmX4 rfl 2 (by decide) (nwu6 hN) (fun _ h9 => h9) rfl (by decide +kernel) rfl rfl (Nat.le_of_ble_eq_true rfl) rfl dX0_welcome_57 (fun u5 H locs hu5 hP hD hS => ?_)
      refine lv_aload_n hx hb dX0_welcome_60 rfl (lv_at hl 1 rfl) ?_
      refine lv_dup hx hb dX0_welcome_61 rfl ?_
      refine g_get (κ := 2) (ci := 0) (v := .int (u5 z 3)) (C := RX0) (T := TX0) (N := 7) hx hb hts hown hK hP (k := z) hz (by decide) rfl (fun _ h => List.mem_cons_of_mem _ (List.mem_append_left _ (List.mem_append_left _ (List.mem_append_right _ h)))) rfl 3 (by decide) (hts _ (List.mem_of_getElem? (i := 1) rfl)) (fun _ h9 => h9) rfl dX0_welcome_62 ?_
      rw [show u5 z 3 = nI N from (by rw [hu5, wr_n _ _ _ (by omega), hu4, wr_n _ _ _ (by omega), hu3, wr_n _ _ _ (by omega)]; exact hN3)]
      refine lv_iconst (v := nI 1) hx hb dX0_welcome_65 (by decide) ?_
      refine lv_iadd hx hb dX0_welcome_66 ?_
      rw [nI_add N 1]
      refine g_put (κ := 2) (ci := 0) (v := nI (N + 1)) (ty := .int) (C := RX0) (T := TX0) (N := 7) hx hb hts hown hK hP hD hS (k := z) hz (by decide) rfl (fun _ h => List.mem_cons_of_mem _ (List.mem_append_left _ (List.mem_append_left _ (List.mem_append_right _ h)))) tyX0 tyX0_ok nmX0 rfl 3 (by decide) (hts _ (List.mem_of_getElem? (i := 1) rfl)) (fun _ h9 => h9) rfl (by decide +kernel) rfl rfl (Nat.le_of_ble_eq_true rfl) rfl dX0_welcome_67 (fun u6 H locs hu6 hP hD hS => ?_)
      refine lv_aload_n hx hb dX0_welcome_70 rfl (lv_at hl 1 rfl) ?_
      refine g_get (κ := 2) (ci := 0) (v := .int (u6 z 3)) (C := RX0) (T := TX0) (N := 7) hx hb hts hown hK hP (k := z) hz (by decide) rfl (fun _ h => List.mem_cons_of_mem _ (List.mem_append_left _ (List.mem_append_left _ (List.mem_append_right _ h)))) rfl 3 (by decide) (hts _ (List.mem_of_getElem? (i := 1) rfl)) (fun _ h9 => h9) rfl dX0_welcome_71 ?_
      rw [show u6 z 3 = nI (N + 1) from (by rw [hu6]; exact wr_ss _ _ _ _)]
      refine lv_iconst (v := nI 1) hx hb dX0_welcome_74 (by decide) ?_
      refine lv_isub hx hb dX0_welcome_75 ?_
      rw [pk_sub (a := (N + 1)) (b := 1) (by omega)]
      exact g_iret (v := nI ((N + 1) - 1)) hx hb hr hlocks rfl hP hD hS ⟨(by subst hu3; subst hu4; subst hu5; subst hu6; simp only [f_X0_welcome, m_X0_welcome, if_pos c_1, if_neg c_2]), (by subst hu3; subst hu4; subst hu5; subst hu6; simp only [f_X0_welcome, m_X0_welcome, if_pos c_1, if_neg c_2])⟩ dX0_welcome_76
    · skip
      refine lv_aload_n hx hb dX0_welcome_22 rfl (lv_at hl 0 rfl) ?_
      refine g_get (κ := 2) (ci := 0) (v := .ref (ad (z + 1))) (C := RX0) (T := TX0) (N := 7) hx hb hts hown hK hP (k := z) hz (by decide) rfl (fun _ h => List.mem_cons_of_mem _ (List.mem_append_left _ (List.mem_append_left _ (List.mem_append_right _ h)))) rfl 0 (by decide) (hts _ (List.mem_of_getElem? (i := 2) rfl)) (fun _ h9 => h9) rfl dX0_welcome_23 ?_
      refine lv_iload_n hx hb dX0_welcome_26 rfl (lv_at hl 1 rfl) ?_
      refine lv_iconst (v := nI 0) hx hb dX0_welcome_27 (by decide) ?_
      refine g_callM (M := m_X3_put I (z + 1) a (nI 0)) hD hS hA (va_runV (As := [.int a, .int (nI 0)]) (rest := []) ⟨hx, hb, hml, hown, hts⟩ (c_X3_put l D cs ad I H.size (z + 1) (kd_2_0 hz) a (nI 0)) (cwV 2 hts gX0_welcome_X3_put rfl rfl rfl (by decide +kernel) ⟨Nat.le_of_ble_eq_true rfl, Nat.le_of_ble_eq_true rfl⟩) (g_preV hP hD hK hN (k := (z + 1)) (kd_2_0 hz) (by decide) rfl rfl rfl rfl) rfl rfl hl.1 rfl (lv_room (Nat.le_of_ble_eq_true rfl)) dX0_welcome_28 ⟨Nat.le_of_ble_eq_true rfl, Nat.le_of_ble_eq_true rfl⟩) (fun u7 H locs hu7 hP hD hS => ?_)
      refine lv_aload_n hx hb dX0_welcome_31 rfl (lv_at hl 0 rfl) ?_
      refine g_get (κ := 2) (ci := 0) (v := .ref (ad (z + 8))) (C := RX0) (T := TX0) (N := 7) hx hb hts hown hK hP (k := z) hz (by decide) rfl (fun _ h => List.mem_cons_of_mem _ (List.mem_append_left _ (List.mem_append_left _ (List.mem_append_right _ h)))) rfl 2 (by decide) (hts _ (List.mem_of_getElem? (i := 3) rfl)) (fun _ h9 => h9) rfl dX0_welcome_32 ?_
      refine lv_aload_n hx hb dX0_welcome_35 rfl (lv_at hl 0 rfl) ?_
      refine g_get (κ := 2) (ci := 0) (v := .int (u7 z 3)) (C := RX0) (T := TX0) (N := 7) hx hb hts hown hK hP (k := z) hz (by decide) rfl (fun _ h => List.mem_cons_of_mem _ (List.mem_append_left _ (List.mem_append_left _ (List.mem_append_right _ h)))) rfl 3 (by decide) (hts _ (List.mem_of_getElem? (i := 1) rfl)) (fun _ h9 => h9) rfl dX0_welcome_36 ?_
      rw [show u7 z 3 = nI N from (by rw [hu7, put_o (by omega)]; exact hN3)]
      refine g_crew (i := N) hx hb hK hP (k := (z + 8)) (kd_2_2 hz) (by omega) dX0_welcome_39 ?_
      refine lv_astore (lv' := [(4, .ref (ad (z + 8 + (1 + N)))), (0, .ref (ad z)), (1, .int a), (2, .int b), (3, .int c0)]) hx hb dX0_welcome_40 hl (by decide) rfl (fun ls hl => ?_)
      refine lv_aload hx hb dX0_welcome_42 (lv_at hl 0 rfl) ?_
      refine lv_iload_n hx hb dX0_welcome_44 rfl (lv_at hl 2 rfl) ?_
      refine g_putN (κ := 6) (ci := 4) (v := a) (ty := .int) (C := RX4) (T := TX4) (N := 8) hx hb hts hown hK hP hD hS (k := (z + 8 + (1 + N))) (kd_crew (kd_2_2 hz) (show N < 8 from by omega)) (by decide) rfl (fun _ h => List.mem_cons_of_mem _ (List.mem_append_left _ (List.mem_append_right _ h))) tyX4 tyX4_ok nmX4 rfl 0 (by decide) (nwu2 hN) (fun _ h9 => h9) rfl (by decide +kernel) rfl rfl (Nat.le_of_ble_eq_true rfl) rfl dX0_welcome_45 (fun u8 H locs hu8 hP hD hS => ?_)
      refine lv_aload hx hb dX0_welcome_48 (lv_at hl 0 rfl) ?_
      refine lv_iload_n hx hb dX0_welcome_50 rfl (lv_at hl 3 rfl) ?_
      refine g_putN (κ := 6) (ci := 4) (v := b) (ty := .int) (C := RX4) (T := TX4) (N := 8) hx hb hts hown hK hP hD hS (k := (z + 8 + (1 + N))) (kd_crew (kd_2_2 hz) (show N < 8 from by omega)) (by decide) rfl (fun _ h => List.mem_cons_of_mem _ (List.mem_append_left _ (List.mem_append_right _ h))) tyX4 tyX4_ok nmX4 rfl 1 (by decide) (nwu4 hN) (fun _ h9 => h9) rfl (by decide +kernel) rfl rfl (Nat.le_of_ble_eq_true rfl) rfl dX0_welcome_51 (fun u9 H locs hu9 hP hD hS => ?_)
      refine lv_aload hx hb dX0_welcome_54 (lv_at hl 0 rfl) ?_
      refine lv_iload_n hx hb dX0_welcome_56 rfl (lv_at hl 4 rfl) ?_
      refine g_putN (κ := 6) (ci := 4) (v := c0) (ty := .int) (C := RX4) (T := TX4) (N := 8) hx hb hts hown hK hP hD hS (k := (z + 8 + (1 + N))) (kd_crew (kd_2_2 hz) (show N < 8 from by omega)) (by decide) rfl (fun _ h => List.mem_cons_of_mem _ (List.mem_append_left _ (List.mem_append_right _ h))) tyX4 tyX4_ok nmX4 rfl 2 (by decide) (nwu6 hN) (fun _ h9 => h9) rfl (by decide +kernel) rfl rfl (Nat.le_of_ble_eq_true rfl) rfl dX0_welcome_57 (fun u10 H locs hu10 hP hD hS => ?_)
      refine lv_aload_n hx hb dX0_welcome_60 rfl (lv_at hl 1 rfl) ?_
      refine lv_dup hx hb dX0_welcome_61 rfl ?_
      refine g_get (κ := 2) (ci := 0) (v := .int (u10 z 3)) (C := RX0) (T := TX0) (N := 7) hx hb hts hown hK hP (k := z) hz (by decide) rfl (fun _ h => List.mem_cons_of_mem _ (List.mem_append_left _ (List.mem_append_left _ (List.mem_append_right _ h)))) rfl 3 (by decide) (hts _ (List.mem_of_getElem? (i := 1) rfl)) (fun _ h9 => h9) rfl dX0_welcome_62 ?_
      rw [show u10 z 3 = nI N from (by rw [hu10, wr_n _ _ _ (by omega), hu9, wr_n _ _ _ (by omega), hu8, wr_n _ _ _ (by omega), hu7, put_o (by omega)]; exact hN3)]
      refine lv_iconst (v := nI 1) hx hb dX0_welcome_65 (by decide) ?_
      refine lv_iadd hx hb dX0_welcome_66 ?_
      rw [nI_add N 1]
      refine g_put (κ := 2) (ci := 0) (v := nI (N + 1)) (ty := .int) (C := RX0) (T := TX0) (N := 7) hx hb hts hown hK hP hD hS (k := z) hz (by decide) rfl (fun _ h => List.mem_cons_of_mem _ (List.mem_append_left _ (List.mem_append_left _ (List.mem_append_right _ h)))) tyX0 tyX0_ok nmX0 rfl 3 (by decide) (hts _ (List.mem_of_getElem? (i := 1) rfl)) (fun _ h9 => h9) rfl (by decide +kernel) rfl rfl (Nat.le_of_ble_eq_true rfl) rfl dX0_welcome_67 (fun u11 H locs hu11 hP hD hS => ?_)
      refine lv_aload_n hx hb dX0_welcome_70 rfl (lv_at hl 1 rfl) ?_
      refine g_get (κ := 2) (ci := 0) (v := .int (u11 z 3)) (C := RX0) (T := TX0) (N := 7) hx hb hts hown hK hP (k := z) hz (by decide) rfl (fun _ h => List.mem_cons_of_mem _ (List.mem_append_left _ (List.mem_append_left _ (List.mem_append_right _ h)))) rfl 3 (by decide) (hts _ (List.mem_of_getElem? (i := 1) rfl)) (fun _ h9 => h9) rfl dX0_welcome_71 ?_
      rw [show u11 z 3 = nI (N + 1) from (by rw [hu11]; exact wr_ss _ _ _ _)]
      refine lv_iconst (v := nI 1) hx hb dX0_welcome_74 (by decide) ?_
      refine lv_isub hx hb dX0_welcome_75 ?_
      rw [pk_sub (a := (N + 1)) (b := 1) (by omega)]
      exact g_iret (v := nI ((N + 1) - 1)) hx hb hr hlocks rfl hP hD hS ⟨(by subst hu7; subst hu8; subst hu9; subst hu10; subst hu11; simp only [f_X0_welcome, m_X0_welcome, if_pos c_1, if_pos c_2]), (by subst hu7; subst hu8; subst hu9; subst hu10; subst hu11; simp only [f_X0_welcome, m_X0_welcome, if_pos c_1, if_pos c_2])⟩ dX0_welcome_76
  · skip
    have nc_1 : ¬ N < 8 := fun z9_ => c_1 ((nI_ltI (a := N) (b := 8) (by omega) (by omega)).mpr z9_)
    refine lv_iconst (v := -1) hx hb dX0_welcome_9 (by decide) ?_
    exact g_iret (v := -1) hx hb hr hlocks rfl hP hD hS ⟨(by simp only [f_X0_welcome, m_X0_welcome, if_neg c_1]), (by simp only [f_X0_welcome, m_X0_welcome, if_neg c_1])⟩ dX0_welcome_10
