def hB (I : Mm) (k : Nat) (a : Int32) : Bool := decide (¬ f_X1_holds I k a = 0)
theorem bi_of {x : Int32} (h : x = 0 ∨ x = 1) : x = bi (decide (¬ x = 0)) := by
  rcases h with rfl | rfl <;> rfl
theorem holds_01 (I : Mm) (k : Nat) (a : Int32) : f_X1_holds I k a = 0 ∨ f_X1_holds I k a = 1 := by
  simp only [f_X1_holds]
  by_cases h : f_X1_stepsTo I k a = -1
  · rw [if_pos h]; exact Or.inl rfl
  · rw [if_neg h]; exact Or.inr rfl
theorem holds_bi (I : Mm) (k : Nat) (a : Int32) : f_X1_holds I k a = bi (hB I k a) := bi_of (holds_01 I k a)
def shL (I : Mm) (z : Nat) (a : Int32) : Nat → Bool
  | 0 => hB I (z + 5) a
  | n + 1 => shL I z a n || hB I (z + 5) (f_X5_beside a (nI n))
theorem shL_t {I : Mm} {z : Nat} {a : Int32} {n : Nat} (h : shL I z a n = true) : shL I z a (n + 1) = true := by simp [shL, h]
theorem shL_c {I : Mm} {z : Nat} {a : Int32} {n : Nat} (h : shL I z a n = false) : shL I z a (n + 1) = hB I (z + 5) (f_X5_beside a (nI n)) := by simp [shL, h]
theorem hB_t {I : Mm} {k : Nat} {a : Int32} (h : ¬ f_X1_holds I k a = 0) : hB I k a = true := decide_eq_true h
theorem hB_f {I : Mm} {k : Nat} {a : Int32} (h : f_X1_holds I k a = 0) : hB I k a = false := decide_eq_false (fun z => z h)
def f_X0_shinesOn (I : Mm) (z : Nat) (a : Int32) : Int32 := if f_X3_sortAt I (z + 1) a = nI 10 then nI 0 else if f_X3_isOpen I (z + 1) a = 0 then bi (shL I z a 4) else bi (hB I (z + 5) a)
theorem shine_bo (I : Mm) (z : Nat) (a : Int32) : f_X0_shinesOn I z a = 0 ∨ f_X0_shinesOn I z a = 1 := by
  unfold f_X0_shinesOn
  split
  · exact Or.inl rfl
  · split
    · exact bi_bo _
    · exact bi_bo _
theorem holds_bo (I : Mm) (k : Nat) (a : Int32) : f_X1_holds I k a = 0 ∨ f_X1_holds I k a = 1 := by
  rw [holds_bi]; exact bi_bo _

set_option maxHeartbeats 4000000 in
set_option maxRecDepth 100000 in
theorem c_X0_shinesOn (l : Launch) (D : va_G) (cs : Nat → ClassId) (ad : Nat → Nat) (I : Mm) (sz : Nat) (z : Nat) (hz : kC.getD z 0 = 2) (a : Int32) : MetI l yX0_shinesOn wsX0_shinesOn ({ frames := 2, cells := 0, slots := 0, locals := 42 }) kC cs D ad I sz [.ref (ad z), .int a] (fun r u => r = f_X0_shinesOn I z a ∧ u = I) 0 0 := by
  refine g_met (cc := cX0_shinesOn) (maxL := 4) (ret := (some .boolean)) (by decide) rfl (Nat.le_of_ble_eq_true rfl) ?_
  intro pg e s m args below meth c ls hx hb hr hml hts hown hlocks hsz hP hD hK hN hS hA hl
  have hown : s.vm.findClass RX0 = some m.cls := hown
  have hl : lv_has ls 4 [(0, .ref (ad z)), (1, .int a)] := hl
  refine lv_aload_n hx hb dX0_shinesOn_0 rfl (lv_at hl 0 rfl) ?_
  refine g_get (κ := 2) (ci := 0) (v := .ref (ad (z + 1))) (C := RX0) (T := TX0) (N := 7) hx hb hts hown hK hP (k := z) hz (by decide) rfl (fun _ h => List.mem_cons_of_mem _ (List.mem_append_left _ (List.mem_append_left _ (List.mem_append_right _ h)))) rfl 0 (by decide) (hts _ (List.mem_of_getElem? (i := 1) rfl)) (fun _ h9 => h9) rfl dX0_shinesOn_1 ?_
  refine lv_iload_n hx hb dX0_shinesOn_4 rfl (lv_at hl 1 rfl) ?_
  refine g_callF (F := f_X3_sortAt I (z + 1) a) hD hS hA (va_runV (As := [.int a]) (rest := []) ⟨hx, hb, hml, hown, hts⟩ (c_X3_sortAt l D cs ad I s.heap.size (z + 1) (kd_2_0 hz) a) (cwV 1 hts gX0_shinesOn_X3_sortAt rfl rfl rfl (by decide +kernel) ⟨Nat.le_of_ble_eq_true rfl, Nat.le_of_ble_eq_true rfl⟩) (g_preV hP hD hK hN (k := (z + 1)) (kd_2_0 hz) (by decide) rfl rfl rfl rfl) rfl rfl hl.1 rfl (lv_room (Nat.le_of_ble_eq_true rfl)) dX0_shinesOn_5 ⟨Nat.le_of_ble_eq_true rfl, Nat.le_of_ble_eq_true rfl⟩) (fun H locs hP hD hS => ?_)
  refine lv_bipush (v := nI 10) hx hb dX0_shinesOn_8 (by decide) ?_
  refine lv_icmp_ne (tgt := 15) hx hb dX0_shinesOn_10 (by decide) (fun c_1 => ?_) (fun c_1 => ?_)
  · skip
    refine lv_aload_n hx hb dX0_shinesOn_15 rfl (lv_at hl 0 rfl) ?_
    refine g_get (κ := 2) (ci := 0) (v := .ref (ad (z + 5))) (C := RX0) (T := TX0) (N := 7) hx hb hts hown hK hP (k := z) hz (by decide) rfl (fun _ h => List.mem_cons_of_mem _ (List.mem_append_left _ (List.mem_append_left _ (List.mem_append_right _ h)))) rfl 1 (by decide) (hts _ (List.mem_of_getElem? (i := 2) rfl)) (fun _ h9 => h9) rfl dX0_shinesOn_16 ?_
    refine lv_iload_n hx hb dX0_shinesOn_19 rfl (lv_at hl 1 rfl) ?_
    refine g_callF (F := f_X1_holds I (z + 5) a) hD hS hA (va_runV (As := [.int a]) (rest := []) ⟨hx, hb, hml, hown, hts⟩ (c_X1_holds l D cs ad I H.size (z + 5) (kd_2_1 hz) a) (cwV 1 hts gX0_shinesOn_X1_holds rfl rfl rfl (by decide +kernel) ⟨Nat.le_of_ble_eq_true rfl, Nat.le_of_ble_eq_true rfl⟩) (g_preV hP hD hK hN (k := (z + 5)) (kd_2_1 hz) (by decide) rfl rfl rfl rfl) rfl rfl hl.1 rfl (lv_room (Nat.le_of_ble_eq_true rfl)) dX0_shinesOn_20 ⟨Nat.le_of_ble_eq_true rfl, Nat.le_of_ble_eq_true rfl⟩) (fun H locs hP hD hS => ?_)
    refine lv_istore_n (lv' := [(2, .int (f_X1_holds I (z + 5) a)), (0, .ref (ad z)), (1, .int a)]) hx hb dX0_shinesOn_23 rfl hl (by decide) rfl (fun ls hl => ?_)
    refine lv_aload_n hx hb dX0_shinesOn_24 rfl (lv_at hl 1 rfl) ?_
    refine g_get (κ := 2) (ci := 0) (v := .ref (ad (z + 1))) (C := RX0) (T := TX0) (N := 7) hx hb hts hown hK hP (k := z) hz (by decide) rfl (fun _ h => List.mem_cons_of_mem _ (List.mem_append_left _ (List.mem_append_left _ (List.mem_append_right _ h)))) rfl 0 (by decide) (hts _ (List.mem_of_getElem? (i := 1) rfl)) (fun _ h9 => h9) rfl dX0_shinesOn_25 ?_
    refine lv_iload_n hx hb dX0_shinesOn_28 rfl (lv_at hl 2 rfl) ?_
    refine g_callF (F := f_X3_isOpen I (z + 1) a) hD hS hA (va_runV (As := [.int a]) (rest := []) ⟨hx, hb, hml, hown, hts⟩ (c_X3_isOpen l D cs ad I H.size (z + 1) (kd_2_0 hz) a) (cwV 1 hts gX0_shinesOn_X3_isOpen rfl rfl rfl (by decide +kernel) ⟨Nat.le_of_ble_eq_true rfl, Nat.le_of_ble_eq_true rfl⟩) (g_preV hP hD hK hN (k := (z + 1)) (kd_2_0 hz) (by decide) rfl rfl rfl rfl) rfl rfl hl.1 rfl (lv_room (Nat.le_of_ble_eq_true rfl)) dX0_shinesOn_29 ⟨Nat.le_of_ble_eq_true rfl, Nat.le_of_ble_eq_true rfl⟩) (fun H locs hP hD hS => ?_)
    refine lv_if_ne (tgt := 73) hx hb dX0_shinesOn_32 (by decide) (fun c_2 => ?_) (fun c_2 => ?_)
    · skip
      refine lv_iload_n hx hb dX0_shinesOn_73 rfl (lv_at hl 0 rfl) ?_
      exact g_iret (v := f_X1_holds I (z + 5) a) hx hb hr hlocks (bo_nar (holds_bo _ _ _)) hP hD hS ⟨by simp only [f_X0_shinesOn]; rw [if_neg c_1, if_neg c_2]; exact holds_bi _ _ _, rfl⟩ dX0_shinesOn_74
    · skip
      refine lv_iconst (v := nI 0) hx hb dX0_shinesOn_35 (by decide) ?_
      refine lv_istore_n (lv' := [(3, .int (nI 0)), (2, .int (f_X1_holds I (z + 5) a)), (0, .ref (ad z)), (1, .int a)]) hx hb dX0_shinesOn_36 rfl hl (by decide) rfl (fun ls hl => ?_)
      suffices KL37 : ∀ (fuel : Nat) (i : Nat) (f : Int32) (H : Heap) (locs : List Loc) (ls : Array Slot), (i ≤ 4) → (f = bi (shL I z a i)) → 4 - i < fuel → va_P D vwCl (gw kC cs ad I) H → va_D (gA kC ad sz) (gw kC cs ad I) → va_S (gA kC ad sz) s.heap H locs → lv_has ls 4 [(3, .int (nI i)), (2, .int f), (0, .ref (ad z)), (1, .int a)] → W pg l e ({ frames := 2, cells := 0, slots := 0, locals := 42 }) s m args below meth c H locs 0 0 (MQ below (va_Qi (fun r u => r = f_X0_shinesOn I z a ∧ u = I) (wat kC cs D ad (gA kC ad sz)) (gA kC ad sz)) args s 0 0 (gA kC ad sz)) (F0 m 37 ls []) from KL37 _ 0 (f_X1_holds I (z + 5) a) _ _ _ (by omega) (holds_bi _ _ _) (Nat.lt_succ_self _) hP hD hS (lv_sub hl [0, 1, 2, 3] rfl)
      intro fuel37
      induction fuel37 with
      | zero => intro _ _ _ _ _ _ _ hm; exact absurd hm (Nat.not_lt_zero _)
      | succ fuel37 ih37 =>
        intro i f H locs ls hi hf hm37 hP hD hS hl
        refine lv_iload_n hx hb dX0_shinesOn_37 rfl (lv_at hl 0 rfl) ?_
        refine lv_iconst (v := nI 4) hx hb dX0_shinesOn_38 (by decide) ?_
        refine lv_icmp_ge (tgt := 73) hx hb dX0_shinesOn_39 (by decide) (fun c_3 => ?_) (fun c_3 => ?_)
        · skip
          have nc_3 : 4 ≤ i := (nI_leI (a := 4) (b := i) (by omega) (by omega)).mp c_3
          refine lv_iload_n hx hb dX0_shinesOn_73 rfl (lv_at hl 1 rfl) ?_
          exact g_iret (v := f) hx hb hr hlocks (by rw [hf]; exact bi_nar _) hP hD hS ⟨by simp only [f_X0_shinesOn]; rw [if_neg c_1, if_pos c_2, hf, show i = 4 from by omega], rfl⟩ dX0_shinesOn_74
        · skip
          have nc_3 : ¬ 4 ≤ i := fun z9_ => c_3 ((nI_leI (a := 4) (b := i) (by omega) (by omega)).mpr z9_)
          refine lv_iload_n hx hb dX0_shinesOn_42 rfl (lv_at hl 1 rfl) ?_
          refine lv_if_ne (tgt := 61) hx hb dX0_shinesOn_43 (by decide) (fun c_4 => ?_) (fun c_4 => ?_)
          · skip
            refine lv_iconst (v := nI 1) hx hb dX0_shinesOn_61 (by decide) ?_
            refine lv_goto (tgt := 66) hx hb dX0_shinesOn_62 (by decide) ?_
            refine lv_istore_n (lv' := [(2, .int (nI 1)), (3, .int (nI i)), (0, .ref (ad z)), (1, .int a)]) hx hb dX0_shinesOn_66 rfl hl (by decide) rfl (fun ls hl => ?_)
            refine lv_iinc (v := nI (i + 1)) (lv' := [(3, .int (nI (i + 1))), (2, .int (nI 1)), (0, .ref (ad z)), (1, .int a)]) hx hb dX0_shinesOn_67 hl (k := 1) rfl (nI_1 i) (by decide) rfl (fun ls hl => ?_)
            refine lv_goto (tgt := 37) hx hb dX0_shinesOn_70 (by decide) ?_
            exact ih37 (i + 1) (nI 1) _ _ _ (by omega) (by rw [shL_t (bi_ne (by rw [← hf]; exact c_4))]; rfl) (by omega) hP hD hS (lv_sub hl [0, 1, 2, 3] rfl)
          · skip
            refine lv_aload_n hx hb dX0_shinesOn_46 rfl (lv_at hl 2 rfl) ?_
            refine g_get (κ := 2) (ci := 0) (v := .ref (ad (z + 5))) (C := RX0) (T := TX0) (N := 7) hx hb hts hown hK hP (k := z) hz (by decide) rfl (fun _ h => List.mem_cons_of_mem _ (List.mem_append_left _ (List.mem_append_left _ (List.mem_append_right _ h)))) rfl 1 (by decide) (hts _ (List.mem_of_getElem? (i := 2) rfl)) (fun _ h9 => h9) rfl dX0_shinesOn_47 ?_
            refine lv_iload_n hx hb dX0_shinesOn_50 rfl (lv_at hl 3 rfl) ?_
            refine lv_iload_n hx hb dX0_shinesOn_51 rfl (lv_at hl 0 rfl) ?_
            refine g_callF (F := f_X5_beside a (nI i)) hD hS hA (va_runSN (As := [.int a, .int (nI i)]) (rest := [.ref (ad (z + 5))]) ⟨hx, hb, hml, hown, hts⟩ (c_X5_beside l D cs ad I H.size a (nI i)) ⟨va_cnB 2 hts gX0_shinesOn_X5_beside_n100 rfl rfl rfl (nwv23 hN) (hts _ (List.mem_of_getElem? (i := 24) rfl)) (by decide +kernel) ⟨Nat.le_of_ble_eq_true rfl, Nat.le_of_ble_eq_true rfl⟩, (hts _ (List.mem_of_getElem? (i := 23) rfl)), trivial⟩ (g_preS hP hD hK hN) rfl rfl hl.1 rfl (lv_room (Nat.le_of_ble_eq_true rfl)) dX0_shinesOn_52 ⟨Nat.le_of_ble_eq_true rfl, Nat.le_of_ble_eq_true rfl⟩) (fun H locs hP hD hS => ?_)
            refine g_callF (F := f_X1_holds I (z + 5) (f_X5_beside a (nI i))) hD hS hA (va_runV (As := [.int (f_X5_beside a (nI i))]) (rest := []) ⟨hx, hb, hml, hown, hts⟩ (c_X1_holds l D cs ad I H.size (z + 5) (kd_2_1 hz) (f_X5_beside a (nI i))) (cwV 1 hts gX0_shinesOn_X1_holds rfl rfl rfl (by decide +kernel) ⟨Nat.le_of_ble_eq_true rfl, Nat.le_of_ble_eq_true rfl⟩) (g_preV hP hD hK hN (k := (z + 5)) (kd_2_1 hz) (by decide) rfl rfl rfl rfl) rfl rfl hl.1 rfl (lv_room (Nat.le_of_ble_eq_true rfl)) dX0_shinesOn_55 ⟨Nat.le_of_ble_eq_true rfl, Nat.le_of_ble_eq_true rfl⟩) (fun H locs hP hD hS => ?_)
            refine lv_if_eq (tgt := 65) hx hb dX0_shinesOn_58 (by decide) (fun c_5 => ?_) (fun c_5 => ?_)
            · skip
              refine lv_iconst (v := nI 0) hx hb dX0_shinesOn_65 (by decide) ?_
              refine lv_istore_n (lv' := [(2, .int (nI 0)), (3, .int (nI i)), (0, .ref (ad z)), (1, .int a)]) hx hb dX0_shinesOn_66 rfl hl (by decide) rfl (fun ls hl => ?_)
              refine lv_iinc (v := nI (i + 1)) (lv' := [(3, .int (nI (i + 1))), (2, .int (nI 0)), (0, .ref (ad z)), (1, .int a)]) hx hb dX0_shinesOn_67 hl (k := 1) rfl (nI_1 i) (by decide) rfl (fun ls hl => ?_)
              refine lv_goto (tgt := 37) hx hb dX0_shinesOn_70 (by decide) ?_
              exact ih37 (i + 1) (nI 0) _ _ _ (by omega) (by rw [shL_c (bi_eq (by rw [← hf]; exact c_4)), hB_f c_5]; rfl) (by omega) hP hD hS (lv_sub hl [0, 1, 2, 3] rfl)
            · skip
              refine lv_iconst (v := nI 1) hx hb dX0_shinesOn_61 (by decide) ?_
              refine lv_goto (tgt := 66) hx hb dX0_shinesOn_62 (by decide) ?_
              refine lv_istore_n (lv' := [(2, .int (nI 1)), (3, .int (nI i)), (0, .ref (ad z)), (1, .int a)]) hx hb dX0_shinesOn_66 rfl hl (by decide) rfl (fun ls hl => ?_)
              refine lv_iinc (v := nI (i + 1)) (lv' := [(3, .int (nI (i + 1))), (2, .int (nI 1)), (0, .ref (ad z)), (1, .int a)]) hx hb dX0_shinesOn_67 hl (k := 1) rfl (nI_1 i) (by decide) rfl (fun ls hl => ?_)
              refine lv_goto (tgt := 37) hx hb dX0_shinesOn_70 (by decide) ?_
              exact ih37 (i + 1) (nI 1) _ _ _ (by omega) (by rw [shL_c (bi_eq (by rw [← hf]; exact c_4)), hB_t c_5]; rfl) (by omega) hP hD hS (lv_sub hl [0, 1, 2, 3] rfl)
  · skip
    refine lv_iconst (v := nI 0) hx hb dX0_shinesOn_13 (by decide) ?_
    exact g_iret (v := nI 0) hx hb hr hlocks rfl hP hD hS ⟨by simp only [f_X0_shinesOn]; rw [if_pos c_1], rfl⟩ dX0_shinesOn_14

set_option maxHeartbeats 4000000 in
set_option maxRecDepth 100000 in
theorem c_X0_isHeld (l : Launch) (D : va_G) (cs : Nat → ClassId) (ad : Nat → Nat) (I : Mm) (sz : Nat) (z : Nat) (hz : kC.getD z 0 = 2) (a : Int32) (n0 : Nat) (q0 : Nat → Nat) (hq0 : RQ I (z + 5) n0 q0) : MetI l yX0_isHeld wsX0_isHeld ({ frames := 3, cells := 0, slots := 0, locals := 70 }) kC cs D ad I sz [.ref (ad z), .int a] (fun r u => HdP I z u ∧ r = f_X1_holds u (z + 5) a) 0 0 := by
  refine g_met (cc := cX0_isHeld) (maxL := 2) (ret := (some .boolean)) (by decide) rfl (Nat.le_of_ble_eq_true rfl) ?_
  intro pg e s m args below meth c ls hx hb hr hml hts hown hlocks hsz hP hD hK hN hS hA hl
  have hown : s.vm.findClass RX0 = some m.cls := hown
  have hl : lv_has ls 2 [(0, .ref (ad z)), (1, .int a)] := hl
  refine lv_aload_n hx hb dX0_isHeld_0 rfl (lv_at hl 0 rfl) ?_
  refine g_callv hD hS hA (va_runV (As := []) (rest := []) ⟨hx, hb, hml, hown, hts⟩ (c_X0_findHeld l D cs ad I s.heap.size z hz n0 q0 hq0) (cwV 0 hts gX0_isHeld_X0_findHeld rfl rfl rfl (by decide +kernel) ⟨Nat.le_of_ble_eq_true rfl, Nat.le_of_ble_eq_true rfl⟩) (g_preV hP hD hK hN (k := z) hz (by decide) rfl rfl rfl rfl) rfl rfl hl.1 rfl (lv_room (Nat.le_of_ble_eq_true rfl)) dX0_isHeld_1 ⟨Nat.le_of_ble_eq_true rfl, Nat.le_of_ble_eq_true rfl⟩) (fun u1 H locs hu1 hP hD hS => ?_)
  refine lv_aload_n hx hb dX0_isHeld_4 rfl (lv_at hl 0 rfl) ?_
  refine g_get (κ := 2) (ci := 0) (v := .ref (ad (z + 5))) (C := RX0) (T := TX0) (N := 7) hx hb hts hown hK hP (k := z) hz (by decide) rfl (fun _ h => List.mem_cons_of_mem _ (List.mem_append_left _ (List.mem_append_left _ (List.mem_append_right _ h)))) rfl 1 (by decide) (hts _ (List.mem_of_getElem? (i := 1) rfl)) (fun _ h9 => h9) rfl dX0_isHeld_5 ?_
  refine lv_iload_n hx hb dX0_isHeld_8 rfl (lv_at hl 1 rfl) ?_
  refine g_callF (F := f_X1_holds u1 (z + 5) a) hD hS hA (va_runV (As := [.int a]) (rest := []) ⟨hx, hb, hml, hown, hts⟩ (c_X1_holds l D cs ad u1 H.size (z + 5) (kd_2_1 hz) a) (cwV 1 hts gX0_isHeld_X1_holds rfl rfl rfl (by decide +kernel) ⟨Nat.le_of_ble_eq_true rfl, Nat.le_of_ble_eq_true rfl⟩) (g_preV hP hD hK hN (k := (z + 5)) (kd_2_1 hz) (by decide) rfl rfl rfl rfl) rfl rfl hl.1 rfl (lv_room (Nat.le_of_ble_eq_true rfl)) dX0_isHeld_9 ⟨Nat.le_of_ble_eq_true rfl, Nat.le_of_ble_eq_true rfl⟩) (fun H locs hP hD hS => ?_)
  exact g_iret (v := f_X1_holds u1 (z + 5) a) hx hb hr hlocks (bo_nar (holds_bo _ _ _)) hP hD hS ⟨hu1, rfl⟩ dX0_isHeld_12

set_option maxHeartbeats 4000000 in
set_option maxRecDepth 100000 in
theorem c_X0_looseCells (l : Launch) (D : va_G) (cs : Nat → ClassId) (ad : Nat → Nat) (I : Mm) (sz : Nat) (z : Nat) (hz : kC.getD z 0 = 2) (n0 : Nat) (q0 : Nat → Nat) (hq0 : RQ I (z + 5) n0 q0) : MetI l yX0_looseCells wsX0_looseCells ({ frames := 3, cells := 0, slots := 0, locals := 70 }) kC cs D ad I sz [.ref (ad z)] (fun r u => HdP I z u ∧ r = f_X3_openCells u (z + 1) - u (z + 5) 2) 0 0 := by
  refine g_met (cc := cX0_looseCells) (maxL := 1) (ret := (some .int)) (by decide) rfl (Nat.le_of_ble_eq_true rfl) ?_
  intro pg e s m args below meth c ls hx hb hr hml hts hown hlocks hsz hP hD hK hN hS hA hl
  have hown : s.vm.findClass RX0 = some m.cls := hown
  have hl : lv_has ls 1 [(0, .ref (ad z))] := hl
  refine lv_aload_n hx hb dX0_looseCells_0 rfl (lv_at hl 0 rfl) ?_
  refine g_callv hD hS hA (va_runV (As := []) (rest := []) ⟨hx, hb, hml, hown, hts⟩ (c_X0_findHeld l D cs ad I s.heap.size z hz n0 q0 hq0) (cwV 0 hts gX0_looseCells_X0_findHeld rfl rfl rfl (by decide +kernel) ⟨Nat.le_of_ble_eq_true rfl, Nat.le_of_ble_eq_true rfl⟩) (g_preV hP hD hK hN (k := z) hz (by decide) rfl rfl rfl rfl) rfl rfl hl.1 rfl (lv_room (Nat.le_of_ble_eq_true rfl)) dX0_looseCells_1 ⟨Nat.le_of_ble_eq_true rfl, Nat.le_of_ble_eq_true rfl⟩) (fun u1 H locs hu1 hP hD hS => ?_)
  refine lv_aload_n hx hb dX0_looseCells_4 rfl (lv_at hl 0 rfl) ?_
  refine g_get (κ := 2) (ci := 0) (v := .ref (ad (z + 1))) (C := RX0) (T := TX0) (N := 7) hx hb hts hown hK hP (k := z) hz (by decide) rfl (fun _ h => List.mem_cons_of_mem _ (List.mem_append_left _ (List.mem_append_left _ (List.mem_append_right _ h)))) rfl 0 (by decide) (hts _ (List.mem_of_getElem? (i := 1) rfl)) (fun _ h9 => h9) rfl dX0_looseCells_5 ?_
  refine g_callF (F := f_X3_openCells u1 (z + 1)) hD hS hA (va_runV (As := []) (rest := []) ⟨hx, hb, hml, hown, hts⟩ (c_X3_openCells l D cs ad u1 H.size (z + 1) (kd_2_0 hz)) (cwV 0 hts gX0_looseCells_X3_openCells rfl rfl rfl (by decide +kernel) ⟨Nat.le_of_ble_eq_true rfl, Nat.le_of_ble_eq_true rfl⟩) (g_preV hP hD hK hN (k := (z + 1)) (kd_2_0 hz) (by decide) rfl rfl rfl rfl) rfl rfl hl.1 rfl (lv_room (Nat.le_of_ble_eq_true rfl)) dX0_looseCells_8 ⟨Nat.le_of_ble_eq_true rfl, Nat.le_of_ble_eq_true rfl⟩) (fun H locs hP hD hS => ?_)
  refine lv_aload_n hx hb dX0_looseCells_11 rfl (lv_at hl 0 rfl) ?_
  refine g_get (κ := 2) (ci := 0) (v := .ref (ad (z + 5))) (C := RX0) (T := TX0) (N := 7) hx hb hts hown hK hP (k := z) hz (by decide) rfl (fun _ h => List.mem_cons_of_mem _ (List.mem_append_left _ (List.mem_append_left _ (List.mem_append_right _ h)))) rfl 1 (by decide) (hts _ (List.mem_of_getElem? (i := 2) rfl)) (fun _ h9 => h9) rfl dX0_looseCells_12 ?_
  refine g_getN (κ := 4) (ci := 1) (v := .int (u1 (z + 5) 2)) (C := RX1) (T := TX1) (N := 4) hx hb hts hown hK hP (k := (z + 5)) (kd_2_1 hz) (by decide) rfl (fun _ h => List.mem_cons_of_mem _ (List.mem_append_left _ (List.mem_append_right _ h))) rfl 2 (by decide) (nwu0 hN) (fun _ h9 => h9) rfl dX0_looseCells_15 ?_
  refine lv_isub hx hb dX0_looseCells_18 ?_
  exact g_iret (v := (f_X3_openCells u1 (z + 1)) - (u1 (z + 5) 2)) hx hb hr hlocks rfl hP hD hS ⟨hu1, rfl⟩ dX0_looseCells_19

set_option maxHeartbeats 4000000 in
set_option maxRecDepth 100000 in
theorem c_X0_isLit (l : Launch) (D : va_G) (cs : Nat → ClassId) (ad : Nat → Nat) (I : Mm) (sz : Nat) (z : Nat) (hz : kC.getD z 0 = 2) (a : Int32) (N : Nat) (hw : WZ I z N) : MetI l yX0_isLit wsX0_isLit ({ frames := 3, cells := 0, slots := 0, locals := 70 }) kC cs D ad I sz [.ref (ad z), .int a] (fun r u => LtP I z N u ∧ r = f_X0_shinesOn u z a) 0 0 := by
  refine g_met (cc := cX0_isLit) (maxL := 2) (ret := (some .boolean)) (by decide) rfl (Nat.le_of_ble_eq_true rfl) ?_
  intro pg e s m args below meth c ls hx hb hr hml hts hown hlocks hsz hP hD hK hN hS hA hl
  have hown : s.vm.findClass RX0 = some m.cls := hown
  have hl : lv_has ls 2 [(0, .ref (ad z)), (1, .int a)] := hl
  refine lv_aload_n hx hb dX0_isLit_0 rfl (lv_at hl 0 rfl) ?_
  refine g_callv hD hS hA (va_runV (As := []) (rest := []) ⟨hx, hb, hml, hown, hts⟩ (c_X0_findLight l D cs ad I s.heap.size z hz N hw) (cwV 0 hts gX0_isLit_X0_findLight rfl rfl rfl (by decide +kernel) ⟨Nat.le_of_ble_eq_true rfl, Nat.le_of_ble_eq_true rfl⟩) (g_preV hP hD hK hN (k := z) hz (by decide) rfl rfl rfl rfl) rfl rfl hl.1 rfl (lv_room (Nat.le_of_ble_eq_true rfl)) dX0_isLit_1 ⟨Nat.le_of_ble_eq_true rfl, Nat.le_of_ble_eq_true rfl⟩) (fun u1 H locs hu1 hP hD hS => ?_)
  refine lv_aload_n hx hb dX0_isLit_4 rfl (lv_at hl 0 rfl) ?_
  refine lv_iload_n hx hb dX0_isLit_5 rfl (lv_at hl 1 rfl) ?_
  refine g_callF (F := f_X0_shinesOn u1 z a) hD hS hA (va_runV (As := [.int a]) (rest := []) ⟨hx, hb, hml, hown, hts⟩ (c_X0_shinesOn l D cs ad u1 H.size z hz a) (cwV 1 hts gX0_isLit_X0_shinesOn rfl rfl rfl (by decide +kernel) ⟨Nat.le_of_ble_eq_true rfl, Nat.le_of_ble_eq_true rfl⟩) (g_preV hP hD hK hN (k := z) hz (by decide) rfl rfl rfl rfl) rfl rfl hl.1 rfl (lv_room (Nat.le_of_ble_eq_true rfl)) dX0_isLit_6 ⟨Nat.le_of_ble_eq_true rfl, Nat.le_of_ble_eq_true rfl⟩) (fun H locs hP hD hS => ?_)
  exact g_iret (v := f_X0_shinesOn u1 z a) hx hb hr hlocks (bo_nar (shine_bo _ _ _)) hP hD hS ⟨hu1, rfl⟩ dX0_isLit_9

set_option maxHeartbeats 4000000 in
set_option maxRecDepth 100000 in
theorem c_X0_litOpenCells (l : Launch) (D : va_G) (cs : Nat → ClassId) (ad : Nat → Nat) (I : Mm) (sz : Nat) (z : Nat) (hz : kC.getD z 0 = 2) (N : Nat) (hw : WZ I z N) : MetI l yX0_litOpenCells wsX0_litOpenCells ({ frames := 3, cells := 0, slots := 0, locals := 70 }) kC cs D ad I sz [.ref (ad z)] (fun r u => LtP I z N u ∧ r = u (z + 5) 2) 0 0 := by
  refine g_met (cc := cX0_litOpenCells) (maxL := 1) (ret := (some .int)) (by decide) rfl (Nat.le_of_ble_eq_true rfl) ?_
  intro pg e s m args below meth c ls hx hb hr hml hts hown hlocks hsz hP hD hK hN hS hA hl
  have hown : s.vm.findClass RX0 = some m.cls := hown
  have hl : lv_has ls 1 [(0, .ref (ad z))] := hl
  refine lv_aload_n hx hb dX0_litOpenCells_0 rfl (lv_at hl 0 rfl) ?_
  refine g_callv hD hS hA (va_runV (As := []) (rest := []) ⟨hx, hb, hml, hown, hts⟩ (c_X0_findLight l D cs ad I s.heap.size z hz N hw) (cwV 0 hts gX0_litOpenCells_X0_findLight rfl rfl rfl (by decide +kernel) ⟨Nat.le_of_ble_eq_true rfl, Nat.le_of_ble_eq_true rfl⟩) (g_preV hP hD hK hN (k := z) hz (by decide) rfl rfl rfl rfl) rfl rfl hl.1 rfl (lv_room (Nat.le_of_ble_eq_true rfl)) dX0_litOpenCells_1 ⟨Nat.le_of_ble_eq_true rfl, Nat.le_of_ble_eq_true rfl⟩) (fun u1 H locs hu1 hP hD hS => ?_)
  refine lv_aload_n hx hb dX0_litOpenCells_4 rfl (lv_at hl 0 rfl) ?_
  refine g_get (κ := 2) (ci := 0) (v := .ref (ad (z + 5))) (C := RX0) (T := TX0) (N := 7) hx hb hts hown hK hP (k := z) hz (by decide) rfl (fun _ h => List.mem_cons_of_mem _ (List.mem_append_left _ (List.mem_append_left _ (List.mem_append_left _ (List.mem_append_right _ h))))) rfl 1 (by decide) (hts _ (List.mem_of_getElem? (i := 1) rfl)) (fun _ h9 => h9) rfl dX0_litOpenCells_5 ?_
  refine g_getN (κ := 4) (ci := 1) (v := .int (u1 (z + 5) 2)) (C := RX1) (T := TX1) (N := 4) hx hb hts hown hK hP (k := (z + 5)) (kd_2_1 hz) (by decide) rfl (fun _ h => List.mem_cons_of_mem _ (List.mem_append_left _ (List.mem_append_left _ (List.mem_append_right _ h)))) rfl 2 (by decide) (nwu0 hN) (fun _ h9 => h9) rfl dX0_litOpenCells_8 ?_
  exact g_iret (v := u1 (z + 5) 2) hx hb hr hlocks rfl hP hD hS ⟨hu1, rfl⟩ dX0_litOpenCells_11

set_option maxHeartbeats 4000000 in
set_option maxRecDepth 100000 in
theorem c_X0_litCells (l : Launch) (D : va_G) (cs : Nat → ClassId) (ad : Nat → Nat) (I : Mm) (sz : Nat) (z : Nat) (hz : kC.getD z 0 = 2) (N : Nat) (hw : WZ I z N) : MetI l yX0_litCells wsX0_litCells ({ frames := 3, cells := 0, slots := 0, locals := 70 }) kC cs D ad I sz [.ref (ad z)] (fun r u => LtP I z N u ∧ r = nI (cn (fun c => decide (¬ f_X0_shinesOn u z (nI c) = 0)) 256)) 0 0 := by
  refine g_met (cc := cX0_litCells) (maxL := 3) (ret := (some .int)) (by decide) rfl (Nat.le_of_ble_eq_true rfl) ?_
  intro pg e s m args below meth c ls hx hb hr hml hts hown hlocks hsz hP hD hK hN hS hA hl
  have hown : s.vm.findClass RX0 = some m.cls := hown
  have hl : lv_has ls 3 [(0, .ref (ad z))] := hl
  refine lv_aload_n hx hb dX0_litCells_0 rfl (lv_at hl 0 rfl) ?_
  refine g_callv hD hS hA (va_runV (As := []) (rest := []) ⟨hx, hb, hml, hown, hts⟩ (c_X0_findLight l D cs ad I s.heap.size z hz N hw) (cwV 0 hts gX0_litCells_X0_findLight rfl rfl rfl (by decide +kernel) ⟨Nat.le_of_ble_eq_true rfl, Nat.le_of_ble_eq_true rfl⟩) (g_preV hP hD hK hN (k := z) hz (by decide) rfl rfl rfl rfl) rfl rfl hl.1 rfl (lv_room (Nat.le_of_ble_eq_true rfl)) dX0_litCells_1 ⟨Nat.le_of_ble_eq_true rfl, Nat.le_of_ble_eq_true rfl⟩) (fun u1 H locs hu1 hP hD hS => ?_)
  refine lv_iconst (v := nI 0) hx hb dX0_litCells_4 (by decide) ?_
  refine lv_istore_n (lv' := [(1, .int (nI 0)), (0, .ref (ad z))]) hx hb dX0_litCells_5 rfl hl (by decide) rfl (fun ls hl => ?_)
  refine lv_iconst (v := nI 0) hx hb dX0_litCells_6 (by decide) ?_
  refine lv_istore_n (lv' := [(2, .int (nI 0)), (1, .int (nI 0)), (0, .ref (ad z))]) hx hb dX0_litCells_7 rfl hl (by decide) rfl (fun ls hl => ?_)
  suffices KL8 : ∀ (fuel : Nat) (i : Nat) (f : Int32) (H : Heap) (locs : List Loc) (ls : Array Slot), (i ≤ 256) → (f = nI (cn (fun c => decide (¬ f_X0_shinesOn u1 z (nI c) = 0)) i)) → 256 - i < fuel → va_P D vwCl (gw kC cs ad u1) H → va_D (gA kC ad sz) (gw kC cs ad u1) → va_S (gA kC ad sz) s.heap H locs → lv_has ls 3 [(2, .int (nI i)), (1, .int f), (0, .ref (ad z))] → W pg l e ({ frames := 3, cells := 0, slots := 0, locals := 70 }) s m args below meth c H locs 0 0 (MQ below (va_Qi (fun r u => LtP I z N u ∧ r = nI (cn (fun c => decide (¬ f_X0_shinesOn u z (nI c) = 0)) 256)) (wat kC cs D ad (gA kC ad sz)) (gA kC ad sz)) args s 0 0 (gA kC ad sz)) (F0 m 8 ls []) from KL8 _ 0 (nI 0) _ _ _ (by omega) rfl (Nat.lt_succ_self _) hP hD hS (lv_sub hl [0, 1, 2] rfl)
  intro fuel8
  induction fuel8 with
  | zero => intro _ _ _ _ _ _ _ hm; exact absurd hm (Nat.not_lt_zero _)
  | succ fuel8 ih8 =>
    intro i f H locs ls hi hf hm8 hP hD hS hl
    refine lv_iload_n hx hb dX0_litCells_8 rfl (lv_at hl 0 rfl) ?_
    refine lv_sipush (v := nI 256) hx hb dX0_litCells_9 (by decide) ?_
    refine lv_icmp_ge (tgt := 32) hx hb dX0_litCells_12 (by decide) (fun c_2 => ?_) (fun c_2 => ?_)
    · skip
      have nc_2 : 256 ≤ i := (nI_leI (a := 256) (b := i) (by omega) (by omega)).mp c_2
      refine lv_iload_n hx hb dX0_litCells_32 rfl (lv_at hl 1 rfl) ?_
      exact g_iret (v := f) hx hb hr hlocks rfl hP hD hS ⟨hu1, by rw [hf, show i = 256 from by omega]⟩ dX0_litCells_33
    · skip
      have nc_2 : ¬ 256 ≤ i := fun z9_ => c_2 ((nI_leI (a := 256) (b := i) (by omega) (by omega)).mpr z9_)
      refine lv_aload_n hx hb dX0_litCells_15 rfl (lv_at hl 2 rfl) ?_
      refine lv_iload_n hx hb dX0_litCells_16 rfl (lv_at hl 0 rfl) ?_
      refine g_callF (F := f_X0_shinesOn u1 z (nI i)) hD hS hA (va_runV (As := [.int (nI i)]) (rest := []) ⟨hx, hb, hml, hown, hts⟩ (c_X0_shinesOn l D cs ad u1 H.size z hz (nI i)) (cwV 1 hts gX0_litCells_X0_shinesOn rfl rfl rfl (by decide +kernel) ⟨Nat.le_of_ble_eq_true rfl, Nat.le_of_ble_eq_true rfl⟩) (g_preV hP hD hK hN (k := z) hz (by decide) rfl rfl rfl rfl) rfl rfl hl.1 rfl (lv_room (Nat.le_of_ble_eq_true rfl)) dX0_litCells_17 ⟨Nat.le_of_ble_eq_true rfl, Nat.le_of_ble_eq_true rfl⟩) (fun H locs hP hD hS => ?_)
      refine lv_if_eq (tgt := 26) hx hb dX0_litCells_20 (by decide) (fun c_3 => ?_) (fun c_3 => ?_)
      · skip
        refine lv_iinc (v := nI (i + 1)) (lv' := [(2, .int (nI (i + 1))), (1, .int f), (0, .ref (ad z))]) hx hb dX0_litCells_26 hl (k := 0) rfl (nI_1 i) (by decide) rfl (fun ls hl => ?_)
        refine lv_goto (tgt := 8) hx hb dX0_litCells_29 (by decide) ?_
        exact ih8 (i + 1) f _ _ _ (by omega) (by rw [hf, cn_f (decide_eq_false (fun y => y c_3))]) (by omega) hP hD hS (lv_sub hl [0, 1, 2] rfl)
      · skip
        refine lv_iinc (v := f + 1) (lv' := [(1, .int (f + 1)), (2, .int (nI i)), (0, .ref (ad z))]) hx hb dX0_litCells_23 hl (k := 1) rfl rfl (by decide) rfl (fun ls hl => ?_)
        refine lv_iinc (v := nI (i + 1)) (lv' := [(2, .int (nI (i + 1))), (1, .int (f + 1)), (0, .ref (ad z))]) hx hb dX0_litCells_26 hl (k := 1) rfl (nI_1 i) (by decide) rfl (fun ls hl => ?_)
        refine lv_goto (tgt := 8) hx hb dX0_litCells_29 (by decide) ?_
        exact ih8 (i + 1) (f + 1) _ _ _ (by omega) (by rw [hf, cn_t (decide_eq_true c_3)]; exact nI_1 _) (by omega) hP hD hS (lv_sub hl [0, 1, 2] rfl)

theorem open_in {I : Mm} {k c : Nat} (hc : c < 256) : f_X3_isOpen I k (nI c) = bi (decide (I (k + 1) c = 0)) := by
  simp only [f_X3_isOpen]
  rw [if_neg (nI_pos (by omega)), if_neg (fun z => absurd ((nI_leI (by decide) (by omega)).mp z) (by omega)), nI_clamp (by omega)]
  by_cases h : I (k + 1) c = 0
  · rw [if_pos h, decide_eq_true h]; rfl
  · rw [if_neg h, decide_eq_false h]; rfl
theorem open_y {I : Mm} {z c : Nat} (hc : c < 256) (h : ¬ f_X3_isOpen I (z + 1) (nI c) = 0) : opn I z c := by
  rw [open_in hc] at h
  show I (z + 1 + 1) c = 0
  exact of_decide_eq_true (bi_ne h)
theorem open_n {I : Mm} {z c : Nat} (hc : c < 256) (h : f_X3_isOpen I (z + 1) (nI c) = 0) : ¬ opn I z c := by
  rw [open_in hc] at h
  show ¬ I (z + 1 + 1) c = 0
  exact of_decide_eq_false (bi_eq h)
theorem steps_in {I : Mm} {k c : Nat} (hc : c < 256) : f_X1_stepsTo I k (nI c) = I (k + 1) c := by
  simp only [f_X1_stepsTo]
  rw [if_neg (nI_pos (by omega)), if_neg (fun z => absurd ((nI_leI (by decide) (by omega)).mp z) (by omega)), nI_clamp (by omega)]
def wayF (I : Mm) (z a b : Nat) (r : Int32) : Prop := (¬ opn I z a ∧ r = -1) ∨ (opn I z a ∧ DI (opn I z) (fun c => c = a) 256 b r)
theorem way_n {I : Mm} {z b : Nat} (hb : b < 256) : f_X1_stepsTo (m_X1_clear I (z + 5)) (z + 5) (nI b) = -1 := by
  rw [steps_in hb]
  simp only [m_X1_clear]
  rw [wr_n _ _ _ (by omega), wr_n _ _ _ (by omega), wrA_s, if_pos hb]

set_option maxHeartbeats 4000000 in
set_option maxRecDepth 100000 in
theorem c_X0_stepsBetween (l : Launch) (D : va_G) (cs : Nat → ClassId) (ad : Nat → Nat) (I : Mm) (sz : Nat) (z : Nat) (hz : kC.getD z 0 = 2) (a : Nat) (ha : a < 256) (b : Nat) (hb_ : b < 256) (n0 : Nat) (q0 : Nat → Nat) (hq0 : RQ I (z + 5) n0 q0) : MetI l yX0_stepsBetween wsX0_stepsBetween ({ frames := 2, cells := 0, slots := 0, locals := 49 }) kC cs D ad I sz [.ref (ad z), .int (nI a), .int (nI b)] (fun r u => EqX z u I ∧ (∃ n q, RQ u (z + 5) n q) ∧ wayF I z a b r) 0 0 := by
  refine g_met (cc := cX0_stepsBetween) (maxL := 3) (ret := (some .int)) (by decide) rfl (Nat.le_of_ble_eq_true rfl) ?_
  intro pg e s m args below meth c ls hx hb hr hml hts hown hlocks hsz hP hD hK hN hS hA hl
  have hown : s.vm.findClass RX0 = some m.cls := hown
  have hl : lv_has ls 3 [(0, .ref (ad z)), (1, .int (nI a)), (2, .int (nI b))] := hl
  refine lv_aload_n hx hb dX0_stepsBetween_0 rfl (lv_at hl 0 rfl) ?_
  refine g_get (κ := 2) (ci := 0) (v := .ref (ad (z + 5))) (C := RX0) (T := TX0) (N := 7) hx hb hts hown hK hP (k := z) hz (by decide) rfl (fun _ h => List.mem_cons_of_mem _ (List.mem_append_left _ (List.mem_append_left _ (List.mem_append_right _ h)))) rfl 1 (by decide) (hts _ (List.mem_of_getElem? (i := 1) rfl)) (fun _ h9 => h9) rfl dX0_stepsBetween_1 ?_
  refine g_callM (M := m_X1_clear I (z + 5)) hD hS hA (va_runV (As := []) (rest := []) ⟨hx, hb, hml, hown, hts⟩ (c_X1_clear l D cs ad I s.heap.size (z + 5) (kd_2_1 hz) n0 q0 hq0) (cwV 0 hts gX0_stepsBetween_X1_clear rfl rfl rfl (by decide +kernel) ⟨Nat.le_of_ble_eq_true rfl, Nat.le_of_ble_eq_true rfl⟩) (g_preV hP hD hK hN (k := (z + 5)) (kd_2_1 hz) (by decide) rfl rfl rfl rfl) rfl rfl hl.1 rfl (lv_room (Nat.le_of_ble_eq_true rfl)) dX0_stepsBetween_4 ⟨Nat.le_of_ble_eq_true rfl, Nat.le_of_ble_eq_true rfl⟩) (fun u1 H locs hu1 hP hD hS => ?_)
  have hs0 := si_0 I z q0 (S := fun _ => False) (fun _ y => y)
  rw [← hu1] at hs0
  refine lv_aload_n hx hb dX0_stepsBetween_7 rfl (lv_at hl 0 rfl) ?_
  refine g_get (κ := 2) (ci := 0) (v := .ref (ad (z + 1))) (C := RX0) (T := TX0) (N := 7) hx hb hts hown hK hP (k := z) hz (by decide) rfl (fun _ h => List.mem_cons_of_mem _ (List.mem_append_left _ (List.mem_append_left _ (List.mem_append_right _ h)))) rfl 0 (by decide) (hts _ (List.mem_of_getElem? (i := 2) rfl)) (fun _ h9 => h9) rfl dX0_stepsBetween_8 ?_
  refine lv_iload_n hx hb dX0_stepsBetween_11 rfl (lv_at hl 1 rfl) ?_
  refine g_callF (F := f_X3_isOpen u1 (z + 1) (nI a)) hD hS hA (va_runV (As := [.int (nI a)]) (rest := []) ⟨hx, hb, hml, hown, hts⟩ (c_X3_isOpen l D cs ad u1 H.size (z + 1) (kd_2_0 hz) (nI a)) (cwV 1 hts gX0_stepsBetween_X3_isOpen rfl rfl rfl (by decide +kernel) ⟨Nat.le_of_ble_eq_true rfl, Nat.le_of_ble_eq_true rfl⟩) (g_preV hP hD hK hN (k := (z + 1)) (kd_2_0 hz) (by decide) rfl rfl rfl rfl) rfl rfl hl.1 rfl (lv_room (Nat.le_of_ble_eq_true rfl)) dX0_stepsBetween_12 ⟨Nat.le_of_ble_eq_true rfl, Nat.le_of_ble_eq_true rfl⟩) (fun H locs hP hD hS => ?_)
  refine lv_if_eq (tgt := 41) hx hb dX0_stepsBetween_15 (by decide) (fun c_2 => ?_) (fun c_2 => ?_)
  · skip
    refine lv_aload_n hx hb dX0_stepsBetween_41 rfl (lv_at hl 0 rfl) ?_
    refine g_get (κ := 2) (ci := 0) (v := .ref (ad (z + 5))) (C := RX0) (T := TX0) (N := 7) hx hb hts hown hK hP (k := z) hz (by decide) rfl (fun _ h => List.mem_cons_of_mem _ (List.mem_append_left _ (List.mem_append_left _ (List.mem_append_right _ h)))) rfl 1 (by decide) (hts _ (List.mem_of_getElem? (i := 1) rfl)) (fun _ h9 => h9) rfl dX0_stepsBetween_42 ?_
    refine lv_iload_n hx hb dX0_stepsBetween_45 rfl (lv_at hl 2 rfl) ?_
    refine g_callF (F := f_X1_stepsTo u1 (z + 5) (nI b)) hD hS hA (va_runV (As := [.int (nI b)]) (rest := []) ⟨hx, hb, hml, hown, hts⟩ (c_X1_stepsTo l D cs ad u1 H.size (z + 5) (kd_2_1 hz) (nI b)) (cwV 1 hts gX0_stepsBetween_X1_stepsTo rfl rfl rfl (by decide +kernel) ⟨Nat.le_of_ble_eq_true rfl, Nat.le_of_ble_eq_true rfl⟩) (g_preV hP hD hK hN (k := (z + 5)) (kd_2_1 hz) (by decide) rfl rfl rfl rfl) rfl rfl hl.1 rfl (lv_room (Nat.le_of_ble_eq_true rfl)) dX0_stepsBetween_46 ⟨Nat.le_of_ble_eq_true rfl, Nat.le_of_ble_eq_true rfl⟩) (fun H locs hP hD hS => ?_)
    exact g_iret (v := f_X1_stepsTo u1 (z + 5) (nI b)) hx hb hr hlocks rfl hP hD hS ⟨by rw [hu1]; exact clear_eqx I z, ⟨0, q0, by rw [hu1]; exact clear_RQ I (z + 5) q0⟩, Or.inl ⟨fun y => open_n ha c_2 (by rw [opn, hu1, clear_eqx I z _ (by omega) (by omega) (by omega)]; exact y), by rw [hu1]; exact way_n hb_⟩⟩ dX0_stepsBetween_49
  · skip
    refine lv_aload_n hx hb dX0_stepsBetween_18 rfl (lv_at hl 0 rfl) ?_
    refine g_get (κ := 2) (ci := 0) (v := .ref (ad (z + 5))) (C := RX0) (T := TX0) (N := 7) hx hb hts hown hK hP (k := z) hz (by decide) rfl (fun _ h => List.mem_cons_of_mem _ (List.mem_append_left _ (List.mem_append_left _ (List.mem_append_right _ h)))) rfl 1 (by decide) (hts _ (List.mem_of_getElem? (i := 1) rfl)) (fun _ h9 => h9) rfl dX0_stepsBetween_19 ?_
    refine lv_iload_n hx hb dX0_stepsBetween_22 rfl (lv_at hl 1 rfl) ?_
    refine lv_iconst (v := nI 0) hx hb dX0_stepsBetween_23 (by decide) ?_
    refine g_callM (M := m_X1_add u1 (z + 5) (nI a) (nI 0) 0) hD hS hA (va_runV (As := [.int (nI a), .int (nI 0)]) (rest := []) ⟨hx, hb, hml, hown, hts⟩ (c_X1_add l D cs ad u1 H.size (z + 5) (kd_2_1 hz) (nI a) (nI 0) 0 hs0.1.2.1 (by decide)) (cwV 2 hts gX0_stepsBetween_X1_add rfl rfl rfl (by decide +kernel) ⟨Nat.le_of_ble_eq_true rfl, Nat.le_of_ble_eq_true rfl⟩) (g_preV hP hD hK hN (k := (z + 5)) (kd_2_1 hz) (by decide) rfl rfl rfl rfl) rfl rfl hl.1 rfl (lv_room (Nat.le_of_ble_eq_true rfl)) dX0_stepsBetween_24 ⟨Nat.le_of_ble_eq_true rfl, Nat.le_of_ble_eq_true rfl⟩) (fun u3 H locs hu3 hP hD hS => ?_)
    obtain ⟨n, q, hsi⟩ := si_add (S' := fun c => c = a) hs0 ha (fun x => ⟨fun y => Or.inr y, fun y => y.elim False.elim id⟩)
    rw [← hu3] at hsi
    refine lv_aload_n hx hb dX0_stepsBetween_27 rfl (lv_at hl 0 rfl) ?_
    refine g_get (κ := 2) (ci := 0) (v := .ref (ad (z + 5))) (C := RX0) (T := TX0) (N := 7) hx hb hts hown hK hP (k := z) hz (by decide) rfl (fun _ h => List.mem_cons_of_mem _ (List.mem_append_left _ (List.mem_append_left _ (List.mem_append_right _ h)))) rfl 1 (by decide) (hts _ (List.mem_of_getElem? (i := 1) rfl)) (fun _ h9 => h9) rfl dX0_stepsBetween_28 ?_
    refine lv_aload_n hx hb dX0_stepsBetween_31 rfl (lv_at hl 0 rfl) ?_
    refine g_get (κ := 2) (ci := 0) (v := .ref (ad (z + 1))) (C := RX0) (T := TX0) (N := 7) hx hb hts hown hK hP (k := z) hz (by decide) rfl (fun _ h => List.mem_cons_of_mem _ (List.mem_append_left _ (List.mem_append_left _ (List.mem_append_right _ h)))) rfl 0 (by decide) (hts _ (List.mem_of_getElem? (i := 2) rfl)) (fun _ h9 => h9) rfl dX0_stepsBetween_32 ?_
    refine lv_sipush (v := nI 256) hx hb dX0_stepsBetween_35 (by decide) ?_
    refine g_callv hD hS hA (va_runV (As := [.ref (ad (z + 1)), .int (nI 256)]) (rest := []) ⟨hx, hb, hml, hown, hts⟩ (c_X1_spread l D cs ad u3 H.size 256 z hz (by decide) 0 n q (si_sp hsi)) (cwV 2 hts gX0_stepsBetween_X1_spread rfl rfl rfl (by decide +kernel) ⟨Nat.le_of_ble_eq_true rfl, Nat.le_of_ble_eq_true rfl⟩) (g_preV hP hD hK hN (k := (z + 5)) (kd_2_1 hz) (by decide) rfl rfl rfl rfl) rfl rfl hl.1 rfl (lv_room (Nat.le_of_ble_eq_true rfl)) dX0_stepsBetween_38 ⟨Nat.le_of_ble_eq_true rfl, Nat.le_of_ble_eq_true rfl⟩) (fun u4 H locs hsp hP hD hS => ?_)
    obtain ⟨n9, q9, dv9, hsp⟩ := hsp
    refine lv_aload_n hx hb dX0_stepsBetween_41 rfl (lv_at hl 0 rfl) ?_
    refine g_get (κ := 2) (ci := 0) (v := .ref (ad (z + 5))) (C := RX0) (T := TX0) (N := 7) hx hb hts hown hK hP (k := z) hz (by decide) rfl (fun _ h => List.mem_cons_of_mem _ (List.mem_append_left _ (List.mem_append_left _ (List.mem_append_right _ h)))) rfl 1 (by decide) (hts _ (List.mem_of_getElem? (i := 1) rfl)) (fun _ h9 => h9) rfl dX0_stepsBetween_42 ?_
    refine lv_iload_n hx hb dX0_stepsBetween_45 rfl (lv_at hl 2 rfl) ?_
    refine g_callF (F := f_X1_stepsTo u4 (z + 5) (nI b)) hD hS hA (va_runV (As := [.int (nI b)]) (rest := []) ⟨hx, hb, hml, hown, hts⟩ (c_X1_stepsTo l D cs ad u4 H.size (z + 5) (kd_2_1 hz) (nI b)) (cwV 1 hts gX0_stepsBetween_X1_stepsTo rfl rfl rfl (by decide +kernel) ⟨Nat.le_of_ble_eq_true rfl, Nat.le_of_ble_eq_true rfl⟩) (g_preV hP hD hK hN (k := (z + 5)) (kd_2_1 hz) (by decide) rfl rfl rfl rfl) rfl rfl hl.1 rfl (lv_room (Nat.le_of_ble_eq_true rfl)) dX0_stepsBetween_46 ⟨Nat.le_of_ble_eq_true rfl, Nat.le_of_ble_eq_true rfl⟩) (fun H locs hP hD hS => ?_)
    exact g_iret (v := f_X1_stepsTo u4 (z + 5) (nI b)) hx hb hr hlocks rfl hP hD hS ⟨(si_di hsi hsp).1, (si_di hsi hsp).2.1, Or.inr ⟨(by have y := open_y ha c_2; rw [opn, hu1, clear_eqx I z _ (by omega) (by omega) (by omega)] at y; exact y), by rw [steps_in hb_]; exact (si_di hsi hsp).2.2 b hb_⟩⟩ dX0_stepsBetween_49
