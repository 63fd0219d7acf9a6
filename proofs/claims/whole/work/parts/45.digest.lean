theorem pstep {P : Nat → Prop} (h : P 0) : P 0 := h
theorem digT_s (J : Mm) (z : Nat) (d : Int64) (n : Nat) : digT J z d (n + 1) = digC (fun w => tunF J (z + 8 + (1 + n)) (nI w)) (digT J z d n) 9 := rfl

set_option maxHeartbeats 4000000 in
set_option maxRecDepth 100000 in
theorem c_X6_light (l : Launch) (D : va_G) (cs : Nat → ClassId) (ad : Nat → Nat) (I : Mm) (sz : Nat) (k : Nat) (hk : kM.getD k 0 = 10) (z : Nat) (J : Mm) (N : Nat) (hRl : Rl z J k I N) (hIV : IV J z N) : MetF l yX6_light wsX6_light ({ frames := 4, cells := 0, slots := 0, locals := 91 }) kM cs D ad I sz [.ref (ad k)] (fun r u => Rl z J k u N ∧ u k 0 = nI 0 ∧ r = lightF J z N) 0 0 := by
  refine g_met (cc := cX6_light) (maxL := 2) (ret := (some .double)) (by decide) rfl (Nat.le_of_ble_eq_true rfl) ?_
  intro pg e s m args below meth c ls hx hb hr hml hts hown hlocks hsz hP hD hK hN hS hA hl
  have hown : s.vm.findClass RX6 = some m.cls := hown
  have hl : lv_has ls 2 [(0, .ref (ad k))] := hl
  have hN8 := hIV.1.2.1
  refine lv_aload_n hx hb dX6_light_0 rfl (lv_at hl 0 rfl) ?_
  refine lv_iconst (v := nI 0) hx hb dX6_light_1 (by decide) ?_
  refine g_put (κ := 10) (ci := 6) (v := nI 0) (ty := .int) (C := RX6) (T := TX6) (N := 8) hx hb hts hown hK hP hD hS (k := k) hk (by decide) rfl (fun _ h => List.mem_cons_of_mem _ (List.mem_append_right _ h)) tyX6 tyX6_ok nmX6 rfl 0 (by decide) (hts _ (List.mem_of_getElem? (i := 1) rfl)) (fun _ h9 => h9) rfl (by decide +kernel) rfl rfl (Nat.le_of_ble_eq_true rfl) rfl dX6_light_2 (fun u1 H locs hu1 hP hD hS => ?_)
  have hR1 : Rl z J k u1 N := by rw [hu1]; exact hRl.th _
  have hT1 : u1 k 0 = nI 0 := by rw [hu1]; exact wr_ss _ _ _ _
  skip
  refine lv_aload_n hx hb dX6_light_5 rfl (lv_at hl 0 rfl) ?_
  refine g_callF (F := nI (opN J z)) hD hS hA (va_runV (As := []) (rest := []) ⟨hx, hb, hml, hown, hts⟩ (c_X6_manyOpen l D cs ad u1 H.size k hk z J N hR1 hIV) (cwV 0 hts gX6_light_X6_manyOpen rfl rfl rfl (by decide +kernel) ⟨Nat.le_of_ble_eq_true rfl, Nat.le_of_ble_eq_true rfl⟩) (g_preV hP hD hK hN (k := k) hk (by decide) rfl rfl rfl rfl) rfl rfl hl.1 rfl (lv_room (Nat.le_of_ble_eq_true rfl)) dX6_light_6 ⟨Nat.le_of_ble_eq_true rfl, Nat.le_of_ble_eq_true rfl⟩) (fun H locs hP hD hS => ?_)
  have hop := opN_le J z
  refine lv_istore_n (lv' := [(1, .int (nI (opN J z))), (0, .ref (ad k))]) hx hb dX6_light_9 rfl hl (by decide) rfl (fun ls hl => ?_)
  refine lv_iload_n hx hb dX6_light_10 rfl (lv_at hl 0 rfl) ?_
  refine lv_if_ne (tgt := 18) hx hb dX6_light_11 (by decide) (fun c_2 => ?_) (fun c_2 => ?_)
  · skip
    have nc_2 : ¬ (opN J z) = 0 := fun z9_ => c_2 ((nI_eq (a := (opN J z)) (b := 0) (by omega) (by omega)).mpr z9_)
    refine lv_aload_n hx hb dX6_light_18 rfl (lv_at hl 1 rfl) ?_
    refine lv_iconst (v := nI 1) hx hb dX6_light_19 (by decide) ?_
    refine g_calli hD hS hA (va_runV (As := [.int (nI 1)]) (rest := []) ⟨hx, hb, hml, hown, hts⟩ (c_X6_manyLit l D cs ad u1 H.size k hk (nI 1) (by decide) z J N hR1 hIV) (cwV 1 hts gX6_light_X6_manyLit rfl rfl rfl (by decide +kernel) ⟨Nat.le_of_ble_eq_true rfl, Nat.le_of_ble_eq_true rfl⟩) (g_preV hP hD hK hN (k := k) hk (by decide) rfl rfl rfl rfl) rfl rfl hl.1 rfl (lv_room (Nat.le_of_ble_eq_true rfl)) dX6_light_20 ⟨Nat.le_of_ble_eq_true rfl, Nat.le_of_ble_eq_true rfl⟩) (fun ru3 u3 H locs hu3 hP hD hS => ?_)
    obtain ⟨hu3, hru3⟩ := hu3
    rw [hru3, ml1 hIV]
    refine lv_i2d hx hb dX6_light_23 ?_
    refine lv_iload_n hx hb dX6_light_24 rfl (lv_at hl 0 rfl) ?_
    refine lv_i2d hx hb dX6_light_25 ?_
    refine lv_ddiv hx hb dX6_light_26 (dvd_ok (liN_le _ _ _) (opN_le _ _) nc_2) ?_
    exact g_dret (v := FP.ddiv (FP.i2d (nI (liN J z N))) (FP.i2d (nI (opN J z)))) hx hb hr hlocks hP hD hS ⟨hR1.eqw hu3, (congrFun (hu3 k (by omega)) 0).trans hT1, by simp only [lightF]; rw [if_neg nc_2]; rfl⟩ dX6_light_27
  · skip
    have nc_2 : (opN J z) = 0 := (nI_eq (a := (opN J z)) (b := 0) (by omega) (by omega)).mp c_2
    refine lv_dconst0 hx hb dX6_light_14 ?_
    refine lv_goto (tgt := 27) hx hb dX6_light_15 (by decide) ?_
    exact g_dret (v := FP.dconst0) hx hb hr hlocks hP hD hS ⟨hR1, hT1, by simp only [lightF]; rw [if_pos nc_2]⟩ dX6_light_27

set_option maxHeartbeats 4000000 in
set_option maxRecDepth 100000 in
theorem c_X6_digest (l : Launch) (D : va_G) (cs : Nat → ClassId) (ad : Nat → Nat) (I : Mm) (sz : Nat) (k : Nat) (hk : kM.getD k 0 = 10) (z : Nat) (J : Mm) (N : Nat) (hRl : Rl z J k I N) (hIV : IV J z N) : MetL l yX6_digest wsX6_digest ({ frames := 5, cells := 0, slots := 0, locals := 114 }) kM cs D ad I sz [.ref (ad k)] (fun r u => Rl z J k u N ∧ u k 0 = nI 0 ∧ r = digF J z N) 0 0 := by
  refine g_met (cc := cX6_digest) (maxL := 5) (ret := (some .long)) (by decide) rfl (Nat.le_of_ble_eq_true rfl) ?_
  intro pg e s m args below meth c ls hx hb hr hml hts hown hlocks hsz hP hD hK hN hS hA hl
  have hown : s.vm.findClass RX6 = some m.cls := hown
  have hl : lv_has ls 5 [(0, .ref (ad k))] := hl
  have hN8 := hIV.1.2.1
  refine lv_aload_n hx hb dX6_digest_0 rfl (lv_at hl 0 rfl) ?_
  refine lv_iconst (v := nI 0) hx hb dX6_digest_1 (by decide) ?_
  refine g_put (κ := 10) (ci := 6) (v := nI 0) (ty := .int) (C := RX6) (T := TX6) (N := 8) hx hb hts hown hK hP hD hS (k := k) hk (by decide) rfl (fun _ h => List.mem_cons_of_mem _ (List.mem_append_right _ h)) tyX6 tyX6_ok nmX6 rfl 0 (by decide) (hts _ (List.mem_of_getElem? (i := 1) rfl)) (fun _ h9 => h9) rfl (by decide +kernel) rfl rfl (Nat.le_of_ble_eq_true rfl) rfl dX6_digest_2 (fun u1 H locs hu1 hP hD hS => ?_)
  have hR1 : Rl z J k u1 N := by rw [hu1]; exact hRl.th _
  have hT1 : u1 k 0 = nI 0 := by rw [hu1]; exact wr_ss _ _ _ _
  skip
  refine lv_ldc2 (v := 509) hx hb hown (hts _ (List.mem_of_getElem? (i := 2) rfl)) dX6_digest_5 ?_
  refine lv_lstore_n (lv' := [(1, .long 509), (0, .ref (ad k))]) hx hb dX6_digest_8 rfl hl (by decide) rfl (fun ls hl => ?_)
  refine lv_iconst (v := nI 0) hx hb dX6_digest_9 (by decide) ?_
  refine lv_istore_n (lv' := [(3, .int (nI 0)), (1, .long 509), (0, .ref (ad k))]) hx hb dX6_digest_10 rfl hl (by decide) rfl (fun ls hl => ?_)
  suffices KL11 : ∀ (fuel : Nat) (i : Nat) (x : Int64) (v : Mm) (H : Heap) (locs : List Loc) (ls : Array Slot), (i ≤ 9) → (EqW k v u1) → (x = digC (fun w => countF J z N (nI w)) 509 i) → 9 - i < fuel → va_P D vwCl (gw kM cs ad v) H → va_D (gA kM ad sz) (gw kM cs ad v) → va_S (gA kM ad sz) s.heap H locs → lv_has ls 5 [(3, .int (nI i)), (1, .long x), (0, .ref (ad k))] → W pg l e ({ frames := 5, cells := 0, slots := 0, locals := 114 }) s m args below meth c H locs 0 0 (MQ below (va_Ql (fun r u => Rl z J k u N ∧ u k 0 = nI 0 ∧ r = digF J z N) (wat kM cs D ad (gA kM ad sz)) (gA kM ad sz)) args s 0 0 (gA kM ad sz)) (F0 m 11 ls []) from KL11 _ 0 509 u1 _ _ _ (by omega) (EqW.rf _ _) rfl (Nat.lt_succ_self _) hP hD hS (lv_sub hl [0, 1, 2] rfl)
  intro fuel11
  induction fuel11 with
  | zero => intro _ _ _ _ _ _ _ _ _ hm; exact absurd hm (Nat.not_lt_zero _)
  | succ fuel11 ih11 =>
    intro i x v H locs ls hi hv hd_ hm11 hP hD hS hl
    refine lv_iload_n hx hb dX6_digest_11 rfl (lv_at hl 0 rfl) ?_
    refine lv_bipush (v := nI 9) hx hb dX6_digest_12 (by decide) ?_
    refine lv_icmp_ge (tgt := 36) hx hb dX6_digest_14 (by decide) (fun c_2 => ?_) (fun c_2 => ?_)
    · skip
      have nc_2 : 9 ≤ i := (nI_leI (a := 9) (b := i) (by omega) (by omega)).mp c_2
      refine lv_iconst (v := nI 0) hx hb dX6_digest_36 (by decide) ?_
      refine lv_istore_n (lv' := [(3, .int (nI 0)), (1, .long x), (0, .ref (ad k))]) hx hb dX6_digest_37 rfl hl (by decide) rfl (fun ls hl => ?_)
      suffices KL38 : ∀ (fuel : Nat) (i : Nat) (x : Int64) (H : Heap) (locs : List Loc) (ls : Array Slot), (i ≤ 256) → (x = digS J z (digC (fun w => countF J z N (nI w)) 509 9) i) → 256 - i < fuel → va_P D vwCl (gw kM cs ad v) H → va_D (gA kM ad sz) (gw kM cs ad v) → va_S (gA kM ad sz) s.heap H locs → lv_has ls 5 [(3, .int (nI i)), (1, .long x), (0, .ref (ad k))] → W pg l e ({ frames := 5, cells := 0, slots := 0, locals := 114 }) s m args below meth c H locs 0 0 (MQ below (va_Ql (fun r u => Rl z J k u N ∧ u k 0 = nI 0 ∧ r = digF J z N) (wat kM cs D ad (gA kM ad sz)) (gA kM ad sz)) args s 0 0 (gA kM ad sz)) (F0 m 38 ls []) from KL38 _ 0 x _ _ _ (by omega) (by rw [hd_, show i = 9 from by omega]; rfl) (Nat.lt_succ_self _) hP hD hS (lv_sub hl [0, 1, 2] rfl)
      intro fuel38
      induction fuel38 with
      | zero => intro _ _ _ _ _ _ _ hm; exact absurd hm (Nat.not_lt_zero _)
      | succ fuel38 ih38 =>
        intro i x H locs ls hi hd_ hm38 hP hD hS hl
        refine lv_iload_n hx hb dX6_digest_38 rfl (lv_at hl 0 rfl) ?_
        refine lv_sipush (v := nI 256) hx hb dX6_digest_39 (by decide) ?_
        refine lv_icmp_ge (tgt := 89) hx hb dX6_digest_42 (by decide) (fun c_3 => ?_) (fun c_3 => ?_)
        · skip
          have nc_3 : 256 ≤ i := (nI_leI (a := 256) (b := i) (by omega) (by omega)).mp c_3
          refine lv_iconst (v := nI 0) hx hb dX6_digest_89 (by decide) ?_
          refine lv_istore_n (lv' := [(3, .int (nI 0)), (1, .long x), (0, .ref (ad k))]) hx hb dX6_digest_90 rfl hl (by decide) rfl (fun ls hl => ?_)
          suffices KL91 : ∀ (fuel : Nat) (j : Nat) (x : Int64) (H : Heap) (locs : List Loc) (ls : Array Slot), (j ≤ N) → (x = digT J z (digS J z (digC (fun w => countF J z N (nI w)) 509 9) 256) j) → N - j < fuel → va_P D vwCl (gw kM cs ad v) H → va_D (gA kM ad sz) (gw kM cs ad v) → va_S (gA kM ad sz) s.heap H locs → lv_has ls 5 [(3, .int (nI j)), (1, .long x), (0, .ref (ad k))] → W pg l e ({ frames := 5, cells := 0, slots := 0, locals := 114 }) s m args below meth c H locs 0 0 (MQ below (va_Ql (fun r u => Rl z J k u N ∧ u k 0 = nI 0 ∧ r = digF J z N) (wat kM cs D ad (gA kM ad sz)) (gA kM ad sz)) args s 0 0 (gA kM ad sz)) (F0 m 91 ls []) from KL91 _ 0 x _ _ _ (by omega) (by rw [hd_, show i = 256 from by omega]; rfl) (Nat.lt_succ_self _) hP hD hS (lv_sub hl [0, 1, 2] rfl)
          intro fuel91
          induction fuel91 with
          | zero => intro _ _ _ _ _ _ _ hm; exact absurd hm (Nat.not_lt_zero _)
          | succ fuel91 ih91 =>
            intro j x H locs ls hj hd_ hm91 hP hD hS hl
            refine lv_iload_n hx hb dX6_digest_91 rfl (lv_at hl 0 rfl) ?_
            refine lv_aload_n hx hb dX6_digest_92 rfl (lv_at hl 2 rfl) ?_
            refine g_get (κ := 10) (ci := 6) (v := .int (v k 6)) (C := RX6) (T := TX6) (N := 8) hx hb hts hown hK hP (k := k) hk (by decide) rfl (fun _ h => List.mem_cons_of_mem _ (List.mem_append_right _ h)) rfl 6 (by decide) (hts _ (List.mem_of_getElem? (i := 7) rfl)) (fun _ h9 => h9) rfl dX6_digest_93 ?_
            rw [show v k 6 = nI N from (hR1.eqw hv).n]
            refine lv_icmp_ge (tgt := 136) hx hb dX6_digest_96 (by decide) (fun c_4 => ?_) (fun c_4 => ?_)
            · skip
              have nc_4 : N ≤ j := (nI_leI (a := N) (b := j) (by omega) (by omega)).mp c_4
              refine lv_lload_n hx hb dX6_digest_136 rfl (lv_at hl 1 rfl) ?_
              exact g_lret (v := x) hx hb hr hlocks hP hD hS ⟨hR1.eqw hv, (congrFun (hv k (by omega)) 0).trans hT1, by rw [hd_, show j = N from by omega]; rfl⟩ dX6_digest_137
            · skip
              have nc_4 : ¬ N ≤ j := fun z9_ => c_4 ((nI_leI (a := N) (b := j) (by omega) (by omega)).mpr z9_)
              refine lv_iconst (v := nI 0) hx hb dX6_digest_99 (by decide) ?_
              refine lv_istore (lv' := [(4, .int (nI 0)), (3, .int (nI j)), (1, .long x), (0, .ref (ad k))]) hx hb dX6_digest_100 hl (by decide) rfl (fun ls hl => ?_)
              suffices KL102 : ∀ (fuel : Nat) (w : Nat) (x : Int64) (H : Heap) (locs : List Loc) (ls : Array Slot), (w ≤ 9) → (x = digC (fun w => tunF J (z + 8 + (1 + j)) (nI w)) (digT J z (digS J z (digC (fun w => countF J z N (nI w)) 509 9) 256) j) w) → 9 - w < fuel → va_P D vwCl (gw kM cs ad v) H → va_D (gA kM ad sz) (gw kM cs ad v) → va_S (gA kM ad sz) s.heap H locs → lv_has ls 5 [(4, .int (nI w)), (3, .int (nI j)), (1, .long x), (0, .ref (ad k))] → W pg l e ({ frames := 5, cells := 0, slots := 0, locals := 114 }) s m args below meth c H locs 0 0 (MQ below (va_Ql (fun r u => Rl z J k u N ∧ u k 0 = nI 0 ∧ r = digF J z N) (wat kM cs D ad (gA kM ad sz)) (gA kM ad sz)) args s 0 0 (gA kM ad sz)) (F0 m 102 ls []) from KL102 _ 0 x _ _ _ (by omega) (by rw [hd_]; rfl) (Nat.lt_succ_self _) hP hD hS (lv_sub hl [0, 1, 2, 3] rfl)
              intro fuel102
              induction fuel102 with
              | zero => intro _ _ _ _ _ _ _ hm; exact absurd hm (Nat.not_lt_zero _)
              | succ fuel102 ih102 =>
                intro w x H locs ls hw9 hd2 hm102 hP hD hS hl
                refine lv_iload hx hb dX6_digest_102 (lv_at hl 0 rfl) ?_
                refine lv_bipush (v := nI 9) hx hb dX6_digest_104 (by decide) ?_
                refine lv_icmp_ge (tgt := 130) hx hb dX6_digest_106 (by decide) (fun c_5 => ?_) (fun c_5 => ?_)
                · skip
                  have nc_5 : 9 ≤ w := (nI_leI (a := 9) (b := w) (by omega) (by omega)).mp c_5
                  refine lv_iinc (v := nI (j + 1)) (lv' := [(3, .int (nI (j + 1))), (4, .int (nI w)), (1, .long x), (0, .ref (ad k))]) hx hb dX6_digest_130 hl (k := 1) rfl (nI_1 j) (by decide) rfl (fun ls hl => ?_)
                  refine lv_goto (tgt := 91) hx hb dX6_digest_133 (by decide) ?_
                  exact ih91 (j + 1) x _ _ _ (by omega) (by rw [hd2, show w = 9 from by omega]; rfl) (by omega) hP hD hS (lv_sub hl [0, 2, 3] rfl)
                · skip
                  have nc_5 : ¬ 9 ≤ w := fun z9_ => c_5 ((nI_leI (a := 9) (b := w) (by omega) (by omega)).mpr z9_)
                  refine lv_lload_n hx hb dX6_digest_109 rfl (lv_at hl 2 rfl) ?_
                  refine lv_ldc2 (v := 31) hx hb hown (hts _ (List.mem_of_getElem? (i := 3) rfl)) dX6_digest_110 ?_
                  refine lv_lmul hx hb dX6_digest_113 ?_
                  refine lv_aload_n hx hb dX6_digest_114 rfl (lv_at hl 3 rfl) ?_
                  refine lv_iload_n hx hb dX6_digest_115 rfl (lv_at hl 1 rfl) ?_
                  refine lv_iload hx hb dX6_digest_116 (lv_at hl 0 rfl) ?_
                  refine g_callF (F := tunF J (z + 8 + (1 + j)) (nI w)) hD hS hA (va_runV (As := [.int (nI j), .int (nI w)]) (rest := [.long (x * 31)]) ⟨hx, hb, hml, hown, hts⟩ (c_X6_manTold l D cs ad v H.size k hk j (by omega) w (by omega) z J N (hR1.eqw hv) hIV (by omega)) (cwV 2 hts gX6_digest_X6_manTold rfl rfl rfl (by decide +kernel) ⟨Nat.le_of_ble_eq_true rfl, Nat.le_of_ble_eq_true rfl⟩) (g_preV hP hD hK hN (k := k) hk (by decide) rfl rfl rfl rfl) rfl rfl hl.1 rfl (lv_room (Nat.le_of_ble_eq_true rfl)) dX6_digest_118 ⟨Nat.le_of_ble_eq_true rfl, Nat.le_of_ble_eq_true rfl⟩) (fun H locs hP hD hS => ?_)
                  refine lv_i2l (v := (tunF J (z + 8 + (1 + j)) (nI w)).toInt64) hx hb dX6_digest_121 rfl ?_
                  refine lv_ladd hx hb dX6_digest_122 ?_
                  refine lv_lstore_n (lv' := [(1, .long ((x * 31) + ((tunF J (z + 8 + (1 + j)) (nI w)).toInt64))), (4, .int (nI w)), (3, .int (nI j)), (0, .ref (ad k))]) hx hb dX6_digest_123 rfl hl (by decide) rfl (fun ls hl => ?_)
                  refine lv_iinc (v := nI (w + 1)) (lv' := [(4, .int (nI (w + 1))), (1, .long ((x * 31) + ((tunF J (z + 8 + (1 + j)) (nI w)).toInt64))), (3, .int (nI j)), (0, .ref (ad k))]) hx hb dX6_digest_124 hl (k := 1) rfl (nI_1 w) (by decide) rfl (fun ls hl => ?_)
                  refine lv_goto (tgt := 102) hx hb dX6_digest_127 (by decide) ?_
                  exact ih102 (w + 1) ((x * 31) + ((tunF J (z + 8 + (1 + j)) (nI w)).toInt64)) _ _ _ (by omega) (by rw [hd2]; rfl) (by omega) hP hD hS (lv_sub hl [0, 2, 1, 3] rfl)
        · skip
          have nc_3 : ¬ 256 ≤ i := fun z9_ => c_3 ((nI_leI (a := 256) (b := i) (by omega) (by omega)).mpr z9_)
          refine lv_lload_n hx hb dX6_digest_45 rfl (lv_at hl 1 rfl) ?_
          refine lv_ldc2 (v := 31) hx hb hown (hts _ (List.mem_of_getElem? (i := 3) rfl)) dX6_digest_46 ?_
          refine lv_lmul hx hb dX6_digest_49 ?_
          refine lv_aload_n hx hb dX6_digest_50 rfl (lv_at hl 2 rfl) ?_
          refine g_get (κ := 10) (ci := 6) (v := .ref (ad (k + 1))) (C := RX6) (T := TX6) (N := 8) hx hb hts hown hK hP (k := k) hk (by decide) rfl (fun _ h => List.mem_cons_of_mem _ (List.mem_append_right _ h)) rfl 1 (by decide) (hts _ (List.mem_of_getElem? (i := 4) rfl)) (fun _ h9 => h9) rfl dX6_digest_51 ?_
          refine lv_iload_n hx hb dX6_digest_54 rfl (lv_at hl 0 rfl) ?_
          refine g_ialdn (n := 256) (i := i) hx hb hK hP (k := (k + 1)) (kd_10_1 hk) (by decide) rfl (by omega) (by decide) dX6_digest_55 ?_
          rw [show v (k + 1) i = J (z + 1 + 1) i from ((hR1.eqw hv).c1 (by omega))]
          refine lv_i2l (v := (J (z + 1 + 1) i).toInt64) hx hb dX6_digest_56 rfl ?_
          refine lv_ladd hx hb dX6_digest_57 ?_
          refine lv_ldc2 (v := 31) hx hb hown (hts _ (List.mem_of_getElem? (i := 3) rfl)) dX6_digest_58 ?_
          refine lv_lmul hx hb dX6_digest_61 ?_
          refine lv_aload_n hx hb dX6_digest_62 rfl (lv_at hl 2 rfl) ?_
          refine g_get (κ := 10) (ci := 6) (v := .ref (ad (k + 2))) (C := RX6) (T := TX6) (N := 8) hx hb hts hown hK hP (k := k) hk (by decide) rfl (fun _ h => List.mem_cons_of_mem _ (List.mem_append_right _ h)) rfl 2 (by decide) (hts _ (List.mem_of_getElem? (i := 5) rfl)) (fun _ h9 => h9) rfl dX6_digest_63 ?_
          refine lv_iload_n hx hb dX6_digest_66 rfl (lv_at hl 0 rfl) ?_
          refine g_ialdn (n := 256) (i := i) hx hb hK hP (k := (k + 2)) (kd_10_2 hk) (by decide) rfl (by omega) (by decide) dX6_digest_67 ?_
          rw [show v (k + 2) i = J (z + 1 + 2) i from ((hR1.eqw hv).c2 (by omega))]
          refine lv_i2l (v := (J (z + 1 + 2) i).toInt64) hx hb dX6_digest_68 rfl ?_
          refine lv_ladd hx hb dX6_digest_69 ?_
          refine lv_ldc2 (v := 31) hx hb hown (hts _ (List.mem_of_getElem? (i := 3) rfl)) dX6_digest_70 ?_
          refine lv_lmul hx hb dX6_digest_73 ?_
          refine lv_aload_n hx hb dX6_digest_74 rfl (lv_at hl 2 rfl) ?_
          refine g_get (κ := 10) (ci := 6) (v := .ref (ad (k + 3))) (C := RX6) (T := TX6) (N := 8) hx hb hts hown hK hP (k := k) hk (by decide) rfl (fun _ h => List.mem_cons_of_mem _ (List.mem_append_right _ h)) rfl 3 (by decide) (hts _ (List.mem_of_getElem? (i := 6) rfl)) (fun _ h9 => h9) rfl dX6_digest_75 ?_
          refine lv_iload_n hx hb dX6_digest_78 rfl (lv_at hl 0 rfl) ?_
          refine g_ialdn (n := 256) (i := i) hx hb hK hP (k := (k + 3)) (kd_10_3 hk) (by decide) rfl (by omega) (by decide) dX6_digest_79 ?_
          rw [show v (k + 3) i = J (z + 1 + 3) i from ((hR1.eqw hv).c3 (by omega))]
          refine lv_i2l (v := (J (z + 1 + 3) i).toInt64) hx hb dX6_digest_80 rfl ?_
          refine lv_ladd hx hb dX6_digest_81 ?_
          refine lv_lstore_n (lv' := [(1, .long ((((((x * 31) + ((J (z + 1 + 1) i).toInt64)) * 31) + ((J (z + 1 + 2) i).toInt64)) * 31) + ((J (z + 1 + 3) i).toInt64))), (3, .int (nI i)), (0, .ref (ad k))]) hx hb dX6_digest_82 rfl hl (by decide) rfl (fun ls hl => ?_)
          refine lv_iinc (v := nI (i + 1)) (lv' := [(3, .int (nI (i + 1))), (1, .long ((((((x * 31) + ((J (z + 1 + 1) i).toInt64)) * 31) + ((J (z + 1 + 2) i).toInt64)) * 31) + ((J (z + 1 + 3) i).toInt64))), (0, .ref (ad k))]) hx hb dX6_digest_83 hl (k := 1) rfl (nI_1 i) (by decide) rfl (fun ls hl => ?_)
          refine lv_goto (tgt := 38) hx hb dX6_digest_86 (by decide) ?_
          exact ih38 (i + 1) ((((((x * 31) + ((J (z + 1 + 1) i).toInt64)) * 31) + ((J (z + 1 + 2) i).toInt64)) * 31) + ((J (z + 1 + 3) i).toInt64)) _ _ _ (by omega) (by rw [hd_]; rfl) (by omega) hP hD hS (lv_sub hl [0, 1, 2] rfl)
    · skip
      have nc_2 : ¬ 9 ≤ i := fun z9_ => c_2 ((nI_leI (a := 9) (b := i) (by omega) (by omega)).mpr z9_)
      refine lv_lload_n hx hb dX6_digest_17 rfl (lv_at hl 1 rfl) ?_
      refine lv_ldc2 (v := 31) hx hb hown (hts _ (List.mem_of_getElem? (i := 3) rfl)) dX6_digest_18 ?_
      refine lv_lmul hx hb dX6_digest_21 ?_
      refine lv_aload_n hx hb dX6_digest_22 rfl (lv_at hl 2 rfl) ?_
      refine lv_iload_n hx hb dX6_digest_23 rfl (lv_at hl 0 rfl) ?_
      refine g_calli hD hS hA (va_runV (As := [.int (nI i)]) (rest := [.long (x * 31)]) ⟨hx, hb, hml, hown, hts⟩ (c_X6_counted l D cs ad v H.size k hk i (by omega) z J N (hR1.eqw hv) hIV) (cwV 1 hts gX6_digest_X6_counted rfl rfl rfl (by decide +kernel) ⟨Nat.le_of_ble_eq_true rfl, Nat.le_of_ble_eq_true rfl⟩) (g_preV hP hD hK hN (k := k) hk (by decide) rfl rfl rfl rfl) rfl rfl hl.1 rfl (lv_room (Nat.le_of_ble_eq_true rfl)) dX6_digest_24 ⟨Nat.le_of_ble_eq_true rfl, Nat.le_of_ble_eq_true rfl⟩) (fun ru6 u6 H locs hu6 hP hD hS => ?_)
      obtain ⟨hu6, hru6⟩ := hu6
      rw [hru6]
      refine lv_i2l (v := (countF J z N (nI i)).toInt64) hx hb dX6_digest_27 rfl ?_
      refine lv_ladd hx hb dX6_digest_28 ?_
      refine lv_lstore_n (lv' := [(1, .long ((x * 31) + ((countF J z N (nI i)).toInt64))), (3, .int (nI i)), (0, .ref (ad k))]) hx hb dX6_digest_29 rfl hl (by decide) rfl (fun ls hl => ?_)
      refine lv_iinc (v := nI (i + 1)) (lv' := [(3, .int (nI (i + 1))), (1, .long ((x * 31) + ((countF J z N (nI i)).toInt64))), (0, .ref (ad k))]) hx hb dX6_digest_30 hl (k := 1) rfl (nI_1 i) (by decide) rfl (fun ls hl => ?_)
      refine lv_goto (tgt := 11) hx hb dX6_digest_33 (by decide) ?_
      exact ih11 (i + 1) ((x * 31) + ((countF J z N (nI i)).toInt64)) u6 _ _ _ (by omega) (hu6.tr hv) (by rw [hd_]; rfl) (by omega) hP hD hS (lv_sub hl [0, 1, 2] rfl)
