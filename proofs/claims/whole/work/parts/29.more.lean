theorem g_acmp_ne {p : Program} {l : Launch} {e : Env} {R : Room} {s : State} {m : MethodId} {args : Array Value} {below : List Frame} {meth : Method} {c : Code} {H : Heap} {locs : List Loc} {cells slots : Nat} {Q : State → Prop} {cc : ByteArray} {pc : Nat} {ls : Array Slot} {rest : List Value} {K : List Nat} {cs : Nat → ClassId} {ad : Nat → Nat} {I : Mm} {A : Nat → Prop} {k1 k2 : Nat} {off : Int} {tgt : Nat} (hx : p.tables.exec = Jvm.exec) (hb : c.code = cc) (hD : va_D A (gw K cs ad I)) (h1 : k1 < K.length) (h2 : k2 < K.length) (hdg : decode cc pc = .ok (.if_acmp .ne off, 3)) (ht : (pc : Int) + off = (tgt : Int))
    (kt : ¬ k1 = k2 → W p l e R s m args below meth c H locs cells slots Q (F0 m tgt ls rest)) (kf : k1 = k2 → W p l e R s m args below meth c H locs cells slots Q (F0 m (pc + 3) ls rest)) : W p l e R s m args below meth c H locs cells slots Q (F0 m pc ls (.ref (ad k2) :: .ref (ad k1) :: rest)) :=
  lv_acmp_ne (rx := some (ad k1)) (ry := some (ad k2)) hx hb hdg ht (fun z => kt (fun y => z (by rw [y]))) (fun z => kf (hD.1 k1 k2 _ _ (gw_get h1) (gw_get h2) (Option.some.inj z)))
def th_X5_member (k : Nat) (a : Int32) (N : Nat) : Nat := if (mbr N a).isNone = true then 1 else 0
theorem mb_c {k : Nat} {a : Int32} {N : Nat} (hN : N ≤ 8) (h : th_X5_member k a N = 0) : mbr N a = some a.toNatClampNeg ∧ a.toNatClampNeg < N ∧ a = nI a.toNatClampNeg := by
  rw [th_X5_member] at h
  cases e : mbr N a with
  | none => rw [e] at h; simp at h
  | some j =>
    obtain ⟨h1, h2⟩ := mbr_lt hN e
    have h3 : a.toNatClampNeg = j := by rw [h2, nI_clamp (by omega)]
    rw [h3]; exact ⟨rfl, h1, h2⟩
theorem th_mem {k : Nat} {a : Int32} {N : Nat} (hN : N ≤ 8) : th_X5_member k a N = if a < 0 then 1 else if nI N ≤ a then 1 else 0 := by
  rw [th_X5_member, mbr]
  split
  · rfl
  · split <;> rfl
theorem i_ge1 {x : Int32} {n : Nat} (hn : n < 2 ^ 31) (h1 : ¬ x < nI 1) (h2 : x ≤ nI n) : x = nI x.toNatClampNeg ∧ 1 ≤ x.toNatClampNeg ∧ x.toNatClampNeg ≤ n := by
  have h0 : ¬ x < 0 := fun y => h1 (Int32.lt_trans y (by decide))
  obtain ⟨j, hj, e⟩ := nI_of h0
  subst e
  rw [nI_clamp hj]
  refine ⟨rfl, ?_, ?_⟩
  · have := Int32.not_lt.mp h1; exact (nI_leI (by decide) hj).mp this
  · exact (nI_leI hj hn).mp h2
theorem tk_c {a : Int32} (h : th_X5_requireTicks a = 0) : a = nI a.toNatClampNeg ∧ 1 ≤ a.toNatClampNeg ∧ a.toNatClampNeg ≤ 100 := by
  simp only [th_X5_requireTicks] at h
  by_cases h1 : a < nI 1
  · rw [if_pos h1] at h; cases h
  · by_cases h2 : a ≤ nI 100
    · exact i_ge1 (by decide) h1 h2
    · rw [if_neg h1, if_neg h2] at h; cases h
theorem WT.left7 {I : Mm} {z N i : Nat} (h : WT I z N) (hi : i < N) : I (z + 8 + (1 + i)) 7 = nI (I (z + 8 + (1 + i)) 7).toNatClampNeg ∧ (I (z + 8 + (1 + i)) 7).toNatClampNeg ≤ 24 := by
  obtain ⟨w, hw, e⟩ := h.2.2.2.2 i hi
  have e2 : (I (z + 8 + (1 + i)) 7).toNatClampNeg = w := by rw [e, nI_clamp (by omega)]
  rw [e2]; exact ⟨e, hw⟩

 set_option maxHeartbeats 4000000 in
set_option maxRecDepth 100000 in
theorem c_X5_member (l : Launch) (hst : l.stackTraces = false) (D : va_G) (cs : Nat → ClassId) (ad : Nat → Nat) (I : Mm) (sz : Nat) (k : Nat) (hk : kC.getD k 0 = 1) (a : Int32) (N : Nat) (hw : WT I (k + 1) N) : MetXQ l yX5_member wsX5_member ({ frames := 6, cells := 1, slots := 6, locals := 82 }) kC cs D ad I sz [.ref (ad k), .int a] (fun r u => th_X5_member k a N = 0 ∧ u = I ∧ r = (mbr N a).map (fun j => ad (k + 1 + 8 + (1 + j)))) (thrE (th_X5_member k a N)) 1 6 := by
  refine g_xmet (cc := cX5_member) (maxL := 3) (ret := (some (.object "SnowMaze$Tunneller"))) (by decide) rfl (Nat.le_of_ble_eq_true rfl) ?_
  intro pg e s m args below meth c ls hx hb hr hml hts hown hlocks hsz hP hD hK hN hS hA hl hX ht
  have hown : s.vm.findClass RX5 = some m.cls := hown
  have hl : lv_has ls 3 [(0, .ref (ad k)), (1, .int a)] := hl
  have hN3 := hw.1
  have hN8 := hw.2.1
  refine lv_aload_n hx hb dX5_member_0 rfl (lv_at hl 0 rfl) ?_
  refine g_get (κ := 1) (ci := 5) (v := .ref (ad (k + 1))) (C := RX5) (T := TX5) (N := 3) hx hb hts hown hK hP (k := k) hk (by decide) rfl (fun _ h => List.mem_cons_of_mem _ (List.mem_append_left _ (List.mem_append_left _ (List.mem_append_right _ h)))) rfl 0 (by decide) (hts _ (List.mem_of_getElem? (i := 3) rfl)) (fun _ h9 => h9) rfl dX5_member_1 ?_
  refine lv_iload_n hx hb dX5_member_4 rfl (lv_at hl 1 rfl) ?_
  refine g_callq hD hS hA (va_runV (As := [.int a]) (rest := []) ⟨hx, hb, hml, hown, hts⟩ (c_X0_member l D cs ad I s.heap.size (k + 1) (kd_1_0 hk) a N hN3 hN8) (cwV 1 hts gX5_member_X0_member rfl rfl rfl (by decide +kernel) ⟨Nat.le_of_ble_eq_true rfl, Nat.le_of_ble_eq_true rfl⟩) (g_preV hP hD hK hN (k := (k + 1)) (kd_1_0 hk) (by decide) rfl rfl rfl rfl) rfl rfl hl.1 rfl (lv_room (Nat.le_of_ble_eq_true rfl)) dX5_member_5 ⟨Nat.le_of_ble_eq_true rfl, Nat.le_of_ble_eq_true rfl⟩) (fun rq1 u1 H locs hq1 hP hD hS => ?_)
  obtain ⟨hv1, hr1⟩ := hq1
  rw [hv1] at hP hD
  rw [hr1]
  rcases hp1 : mbr N a with _ | j1
  · skip
    refine lv_astore_nN (lv' := [(2, .null), (0, .ref (ad k)), (1, .int a)]) hx hb dX5_member_8 rfl hl (by decide) rfl (fun ls hl => ?_)
    refine lv_aload_nN hx hb dX5_member_9 rfl (lv_at hl 0 rfl) ?_
    refine lv_ifnonnullN hx hb dX5_member_10 ?_
    exact g_throw (own := RX5) (cls := "java/lang/IndexOutOfBoundsException") (text := "no such tunneller") (names := ["java/lang/RuntimeException", "java/lang/Exception"]) (ik := 76) (is := 236) (ic := 80) hx hb hst hown (by decide +kernel) (by decide +kernel) (hts _ (List.mem_of_getElem? (i := 1) rfl)) (hts _ (List.mem_of_getElem? (i := 2) rfl)) rfl (by decide) hN (fun w h => hts w (List.mem_cons_of_mem _ (List.mem_append_right _ h))) xb_80 xg_80 hX hS hP hD (hl.1.trans hml.symm) dX5_member_13 dX5_member_16 dX5_member_17 dX5_member_19 dX5_member_22 ht (Nat.le_of_ble_eq_true rfl) (Nat.le_of_ble_eq_true rfl) (Nat.le_of_ble_eq_true rfl) (Nat.le_of_ble_eq_true rfl) hlocks (Nat.le_of_ble_eq_true rfl) (Nat.le_of_ble_eq_true rfl) (by rw [th_X5_member, hp1]; exact thr_1)
  · skip
    have hj1 := mbr_lt hN8 hp1
    refine lv_astore_n (lv' := [(2, .ref (ad (k + 1 + 8 + (1 + j1)))), (0, .ref (ad k)), (1, .int a)]) hx hb dX5_member_8 rfl hl (by decide) rfl (fun ls hl => ?_)
    refine lv_aload_n hx hb dX5_member_9 rfl (lv_at hl 0 rfl) ?_
    refine lv_ifnonnull (tgt := 23) hx hb dX5_member_10 (by decide) ?_
    refine lv_aload_n hx hb dX5_member_23 rfl (lv_at hl 0 rfl) ?_
    refine W.widen (k := 1) (n := 6) (Nat.le_of_ble_eq_true rfl) (Nat.le_of_ble_eq_true rfl) ?_
    refine vx_ret ?_
    exact g_qret (r := (some (ad (k + 1 + 8 + (1 + j1))))) hx hb hr hlocks hP hD hS ⟨(by rw [th_X5_member, hp1]; rfl), ⟨rfl, rfl⟩⟩ dX5_member_24

def ordW (I : Mm) (k : Nat) (a : Int32) : Nat := (I (k + 1 + 8 + (1 + a.toNatClampNeg)) 7).toNatClampNeg
def orderR (I : Mm) (k : Nat) (a c0 : Int32) : Int32 := nI (ordW I k a + c0.toNatClampNeg)
def orderM (I : Mm) (k : Nat) (a b c0 : Int32) : Mm := addO I (k + 1 + 8 + (1 + a.toNatClampNeg)) (ordW I k a) b c0.toNatClampNeg

def th_X5_order (I : Mm) (k : Nat) (a : Int32) (b : Int32) (c0 : Int32) (N : Nat) : Nat := if th_X5_member k a N = 0 then (if b < 0 then 2 else (if b ≤ nI 6 then (if c0 < nI 1 then 2 else (if c0 ≤ nI 9 then (if nI ((I (k + 1 + 8 + (1 + a.toNatClampNeg)) 7).toNatClampNeg + c0.toNatClampNeg) ≤ nI 24 then 0 else 3) else 2)) else 2)) else th_X5_member k a N
set_option maxHeartbeats 4000000 in
set_option maxRecDepth 100000 in
theorem c_X5_order (l : Launch) (hst : l.stackTraces = false) (D : va_G) (cs : Nat → ClassId) (ad : Nat → Nat) (I : Mm) (sz : Nat) (k : Nat) (hk : kC.getD k 0 = 1) (a : Int32) (b : Int32) (c0 : Int32) (N : Nat) (hw : WT I (k + 1) N) : MetXI l yX5_order wsX5_order ({ frames := 7, cells := 2, slots := 12, locals := 104 }) kC cs D ad I sz [.ref (ad k), .int a, .int b, .int c0] (fun r u => th_X5_order I k a b c0 N = 0 ∧ u = orderM I k a b c0 ∧ r = orderR I k a c0) (thrE (th_X5_order I k a b c0 N)) 2 12 := by
  refine g_xmet (cc := cX5_order) (maxL := 5) (ret := (some .int)) (by decide) rfl (Nat.le_of_ble_eq_true rfl) ?_
  intro pg e s m args below meth c ls hx hb hr hml hts hown hlocks hsz hP hD hK hN hS hA hl hX ht
  have hown : s.vm.findClass RX5 = some m.cls := hown
  have hl : lv_has ls 5 [(0, .ref (ad k)), (1, .int a), (2, .int b), (3, .int c0)] := hl
  have hN3 := hw.1
  have hN8 := hw.2.1
  refine lv_aload_n hx hb dX5_order_0 rfl (lv_at hl 0 rfl) ?_
  refine lv_iload_n hx hb dX5_order_1 rfl (lv_at hl 1 rfl) ?_
  refine g_xcallq hD hS hA (vx_runV (As := [.int a]) (rest := []) ⟨hx, hb, hml, hown, hts⟩ (c_X5_member l hst D cs ad I s.heap.size k hk a N hw) (cwV 1 hts gX5_order_X5_member rfl rfl rfl (by decide +kernel) ⟨Nat.le_of_ble_eq_true rfl, Nat.le_of_ble_eq_true rfl⟩) (g_xpreV hP hD hK hN hX hS hsz (k := k) hk (by decide) rfl rfl rfl rfl) rfl rfl hl.1 rfl (lv_room (Nat.le_of_ble_eq_true rfl)) dX5_order_2 ⟨Nat.le_of_ble_eq_true rfl, Nat.le_of_ble_eq_true rfl⟩) (fun E ce q9 H locs hth9 hP hD hS hce hcv hcl => ?_) (fun r1 u1 H locs hw1 hP hD hS => ?_)
  · skip
    have c_1 := thrE_ne hth9
    exact g_xout ht hlocks hce hcv hcl hP hD hS (by simp only [th_X5_order, if_neg c_1]; exact hth9) (Nat.le_of_ble_eq_true rfl) (Nat.le_of_ble_eq_true rfl)
  · skip
    obtain ⟨c_1, hv1, hr1⟩ := hw1
    rw [hv1] at hP hD
    rw [hr1]
    obtain ⟨hm1, hj1, he1⟩ := mb_c hN8 c_1
    rw [hm1]
    have hl1 := hw.left7 hj1
    refine lv_astore (lv' := [(4, .ref (ad (k + 1 + 8 + (1 + a.toNatClampNeg)))), (0, .ref (ad k)), (1, .int a), (2, .int b), (3, .int c0)]) hx hb dX5_order_5 hl (by decide) rfl (fun ls hl => ?_)
    refine lv_iload_n hx hb dX5_order_7 rfl (lv_at hl 3 rfl) ?_
    refine lv_if_lt (tgt := 17) hx hb dX5_order_8 (by decide) (fun c_2 => ?_) (fun c_2 => ?_)
    · skip
      exact g_throw (own := RX5) (cls := "java/lang/IllegalArgumentException") (text := "orders are 0 to 6") (names := ["java/lang/RuntimeException", "java/lang/Exception"]) (ik := 30) (is := 104) (ic := 34) hx hb hst hown (by decide +kernel) (by decide +kernel) (hts _ (List.mem_of_getElem? (i := 1) rfl)) (hts _ (List.mem_of_getElem? (i := 2) rfl)) rfl (by decide) hN (fun w h => hts w (List.mem_cons_of_mem _ (List.mem_append_left _ (List.mem_append_left _ (List.mem_append_right _ h))))) xb_34 xg_34 hX hS hP hD (hl.1.trans hml.symm) dX5_order_17 dX5_order_20 dX5_order_21 dX5_order_23 dX5_order_26 ht (Nat.le_of_ble_eq_true rfl) (Nat.le_of_ble_eq_true rfl) (Nat.le_of_ble_eq_true rfl) (Nat.le_of_ble_eq_true rfl) hlocks (Nat.le_of_ble_eq_true rfl) (Nat.le_of_ble_eq_true rfl) (by simp only [th_X5_order, if_pos c_1, if_pos c_2]; exact thr_2)
    · skip
      refine lv_iload_n hx hb dX5_order_11 rfl (lv_at hl 3 rfl) ?_
      refine lv_bipush (v := nI 6) hx hb dX5_order_12 (by decide) ?_
      refine lv_icmp_le (tgt := 27) hx hb dX5_order_14 (by decide) (fun c_3 => ?_) (fun c_3 => ?_)
      · skip
        refine lv_iload_n hx hb dX5_order_27 rfl (lv_at hl 4 rfl) ?_
        refine lv_iconst (v := nI 1) hx hb dX5_order_28 (by decide) ?_
        refine lv_icmp_lt (tgt := 38) hx hb dX5_order_29 (by decide) (fun c_4 => ?_) (fun c_4 => ?_)
        · skip
          exact g_throw (own := RX5) (cls := "java/lang/IllegalArgumentException") (text := "times are 1 to 9") (names := ["java/lang/RuntimeException", "java/lang/Exception"]) (ik := 30) (is := 106) (ic := 34) hx hb hst hown (by decide +kernel) (by decide +kernel) (hts _ (List.mem_of_getElem? (i := 1) rfl)) (hts _ (List.mem_of_getElem? (i := 2) rfl)) rfl (by decide) hN (fun w h => hts w (List.mem_cons_of_mem _ (List.mem_append_left _ (List.mem_append_left _ (List.mem_append_right _ h))))) xb_34 xg_34 hX hS hP hD (hl.1.trans hml.symm) dX5_order_38 dX5_order_41 dX5_order_42 dX5_order_44 dX5_order_47 ht (Nat.le_of_ble_eq_true rfl) (Nat.le_of_ble_eq_true rfl) (Nat.le_of_ble_eq_true rfl) (Nat.le_of_ble_eq_true rfl) hlocks (Nat.le_of_ble_eq_true rfl) (Nat.le_of_ble_eq_true rfl) (by simp only [th_X5_order, if_pos c_1, if_neg c_2, if_pos c_3, if_pos c_4]; exact thr_2)
        · skip
          refine lv_iload_n hx hb dX5_order_32 rfl (lv_at hl 4 rfl) ?_
          refine lv_bipush (v := nI 9) hx hb dX5_order_33 (by decide) ?_
          refine lv_icmp_le (tgt := 48) hx hb dX5_order_35 (by decide) (fun c_5 => ?_) (fun c_5 => ?_)
          · skip
            refine lv_aload hx hb dX5_order_48 (lv_at hl 0 rfl) ?_
            refine g_getN (κ := 6) (ci := 4) (v := .int (I (k + 1 + 8 + (1 + a.toNatClampNeg)) 7)) (C := RX4) (T := TX4) (N := 8) hx hb hts hown hK hP (k := (k + 1 + 8 + (1 + a.toNatClampNeg))) (kd_crew (kd_2_2 (kd_1_0 hk)) (show a.toNatClampNeg < 8 from by omega)) (by decide) rfl (fun _ h => List.mem_cons_of_mem _ (List.mem_append_left _ (List.mem_append_left _ (List.mem_append_left _ (List.mem_append_left _ (List.mem_append_left _ (List.mem_append_right _ h))))))) rfl 7 (by decide) (nwu14 hN) (fun _ h9 => h9) rfl dX5_order_50 ?_
            rw [show I (k + 1 + 8 + (1 + a.toNatClampNeg)) 7 = nI ((I (k + 1 + 8 + (1 + a.toNatClampNeg)) 7).toNatClampNeg) from (hw.left7 (mb_c hN8 c_1).2.1).1]
            refine lv_iload_n hx hb dX5_order_53 rfl (lv_at hl 4 rfl) ?_
            have ht9 := i_ge1 (n := 9) (by decide) c_4 c_5
            refine lv_topi (fun y9 ey9 => ?_)
            obtain rfl := ey9.trans ht9.1
            refine lv_iadd hx hb dX5_order_54 ?_
            rw [nI_add ((I (k + 1 + 8 + (1 + a.toNatClampNeg)) 7).toNatClampNeg) c0.toNatClampNeg]
            refine lv_bipush (v := nI 24) hx hb dX5_order_55 (by decide) ?_
            refine lv_icmp_le (tgt := 70) hx hb dX5_order_57 (by decide) (fun c_6 => ?_) (fun c_6 => ?_)
            · skip
              have nc_6 : ((I (k + 1 + 8 + (1 + a.toNatClampNeg)) 7).toNatClampNeg + c0.toNatClampNeg) ≤ 24 := (nI_leI (a := ((I (k + 1 + 8 + (1 + a.toNatClampNeg)) 7).toNatClampNeg + c0.toNatClampNeg)) (b := 24) (by omega) (by omega)).mp c_6
              refine lv_aload hx hb dX5_order_70 (lv_at hl 0 rfl) ?_
              refine lv_iload_n hx hb dX5_order_72 rfl (lv_at hl 3 rfl) ?_
              refine lv_iload_n hx hb dX5_order_73 rfl (lv_at hl 4 rfl) ?_
              refine lv_topi (fun y9 ey9 => ?_)
              obtain rfl := ey9.trans ht9.1
              refine g_callM (M := addO I (k + 1 + 8 + (1 + a.toNatClampNeg)) ((I (k + 1 + 8 + (1 + a.toNatClampNeg)) 7).toNatClampNeg) b c0.toNatClampNeg) hD hS hA (va_runV (As := [.int b, .int (nI c0.toNatClampNeg)]) (rest := []) ⟨hx, hb, hml, hown, hts⟩ (c_X4_addOrders l D cs ad I H.size (k + 1 + 8 + (1 + a.toNatClampNeg)) (kd_crew (kd_2_2 (kd_1_0 hk)) (show a.toNatClampNeg < 8 from by omega)) b c0.toNatClampNeg ((I (k + 1 + 8 + (1 + a.toNatClampNeg)) 7).toNatClampNeg) hl1.1 (by omega)) (cwV 2 hts gX5_order_X4_addOrders rfl rfl rfl (by decide +kernel) ⟨Nat.le_of_ble_eq_true rfl, Nat.le_of_ble_eq_true rfl⟩) (g_preV hP hD hK hN (k := (k + 1 + 8 + (1 + a.toNatClampNeg))) (kd_crew (kd_2_2 (kd_1_0 hk)) (show a.toNatClampNeg < 8 from by omega)) (by decide) rfl rfl rfl rfl) rfl rfl hl.1 rfl (lv_room (Nat.le_of_ble_eq_true rfl)) dX5_order_74 ⟨Nat.le_of_ble_eq_true rfl, Nat.le_of_ble_eq_true rfl⟩) (fun u7 H locs hu7 hP hD hS => ?_)
              refine lv_aload hx hb dX5_order_77 (lv_at hl 0 rfl) ?_
              refine g_getN (κ := 6) (ci := 4) (v := .int (u7 (k + 1 + 8 + (1 + a.toNatClampNeg)) 7)) (C := RX4) (T := TX4) (N := 8) hx hb hts hown hK hP (k := (k + 1 + 8 + (1 + a.toNatClampNeg))) (kd_crew (kd_2_2 (kd_1_0 hk)) (show a.toNatClampNeg < 8 from by omega)) (by decide) rfl (fun _ h => List.mem_cons_of_mem _ (List.mem_append_left _ (List.mem_append_left _ (List.mem_append_left _ (List.mem_append_left _ (List.mem_append_left _ (List.mem_append_right _ h))))))) rfl 7 (by decide) (nwu14 hN) (fun _ h9 => h9) rfl dX5_order_79 ?_
              rw [show u7 (k + 1 + 8 + (1 + a.toNatClampNeg)) 7 = nI ((I (k + 1 + 8 + (1 + a.toNatClampNeg)) 7).toNatClampNeg + c0.toNatClampNeg) from (by rw [hu7]; exact addO_7 (hw.left7 (mb_c hN8 c_1).2.1).1 _)]
              refine W.widen (k := 2) (n := 12) (Nat.le_of_ble_eq_true rfl) (Nat.le_of_ble_eq_true rfl) ?_
              refine vx_ret ?_
              exact g_iret (v := nI ((I (k + 1 + 8 + (1 + a.toNatClampNeg)) 7).toNatClampNeg + c0.toNatClampNeg)) hx hb hr hlocks rfl hP hD hS ⟨(by simp only [th_X5_order, if_pos c_1, if_neg c_2, if_pos c_3, if_neg c_4, if_pos c_5, if_pos c_6]), ⟨hu7, rfl⟩⟩ dX5_order_82
            · skip
              have nc_6 : ¬ ((I (k + 1 + 8 + (1 + a.toNatClampNeg)) 7).toNatClampNeg + c0.toNatClampNeg) ≤ 24 := fun z9_ => c_6 ((nI_leI (a := ((I (k + 1 + 8 + (1 + a.toNatClampNeg)) 7).toNatClampNeg + c0.toNatClampNeg)) (b := 24) (by omega) (by omega)).mpr z9_)
              exact g_throw (own := RX5) (cls := "java/lang/IllegalStateException") (text := "there would be more than 24 orders") (names := ["java/lang/RuntimeException", "java/lang/Exception"]) (ik := 41) (is := 113) (ic := 45) hx hb hst hown (by decide +kernel) (by decide +kernel) (hts _ (List.mem_of_getElem? (i := 3) rfl)) (hts _ (List.mem_of_getElem? (i := 4) rfl)) rfl (by decide) hN (fun w h => hts w (List.mem_cons_of_mem _ (List.mem_append_left _ (List.mem_append_right _ h)))) xb_45 xg_45 hX hS hP hD (hl.1.trans hml.symm) dX5_order_60 dX5_order_63 dX5_order_64 dX5_order_66 dX5_order_69 ht (Nat.le_of_ble_eq_true rfl) (Nat.le_of_ble_eq_true rfl) (Nat.le_of_ble_eq_true rfl) (Nat.le_of_ble_eq_true rfl) hlocks (Nat.le_of_ble_eq_true rfl) (Nat.le_of_ble_eq_true rfl) (by simp only [th_X5_order, if_pos c_1, if_neg c_2, if_pos c_3, if_neg c_4, if_pos c_5, if_neg c_6]; exact thr_3)
          · skip
            exact g_throw (own := RX5) (cls := "java/lang/IllegalArgumentException") (text := "times are 1 to 9") (names := ["java/lang/RuntimeException", "java/lang/Exception"]) (ik := 30) (is := 106) (ic := 34) hx hb hst hown (by decide +kernel) (by decide +kernel) (hts _ (List.mem_of_getElem? (i := 1) rfl)) (hts _ (List.mem_of_getElem? (i := 2) rfl)) rfl (by decide) hN (fun w h => hts w (List.mem_cons_of_mem _ (List.mem_append_left _ (List.mem_append_left _ (List.mem_append_right _ h))))) xb_34 xg_34 hX hS hP hD (hl.1.trans hml.symm) dX5_order_38 dX5_order_41 dX5_order_42 dX5_order_44 dX5_order_47 ht (Nat.le_of_ble_eq_true rfl) (Nat.le_of_ble_eq_true rfl) (Nat.le_of_ble_eq_true rfl) (Nat.le_of_ble_eq_true rfl) hlocks (Nat.le_of_ble_eq_true rfl) (Nat.le_of_ble_eq_true rfl) (by simp only [th_X5_order, if_pos c_1, if_neg c_2, if_pos c_3, if_neg c_4, if_neg c_5]; exact thr_2)
      · skip
        exact g_throw (own := RX5) (cls := "java/lang/IllegalArgumentException") (text := "orders are 0 to 6") (names := ["java/lang/RuntimeException", "java/lang/Exception"]) (ik := 30) (is := 104) (ic := 34) hx hb hst hown (by decide +kernel) (by decide +kernel) (hts _ (List.mem_of_getElem? (i := 1) rfl)) (hts _ (List.mem_of_getElem? (i := 2) rfl)) rfl (by decide) hN (fun w h => hts w (List.mem_cons_of_mem _ (List.mem_append_left _ (List.mem_append_left _ (List.mem_append_right _ h))))) xb_34 xg_34 hX hS hP hD (hl.1.trans hml.symm) dX5_order_17 dX5_order_20 dX5_order_21 dX5_order_23 dX5_order_26 ht (Nat.le_of_ble_eq_true rfl) (Nat.le_of_ble_eq_true rfl) (Nat.le_of_ble_eq_true rfl) (Nat.le_of_ble_eq_true rfl) hlocks (Nat.le_of_ble_eq_true rfl) (Nat.le_of_ble_eq_true rfl) (by simp only [th_X5_order, if_pos c_1, if_neg c_2, if_neg c_3]; exact thr_2)

def th_X5_call (I : Mm) (k : Nat) (a : Int32) (N : Nat) : Nat := (if th_X5_member k a N = 0 then 0 else (th_X5_member k a N))
set_option maxHeartbeats 4000000 in
set_option maxRecDepth 100000 in
theorem c_X5_call (l : Launch) (hst : l.stackTraces = false) (D : va_G) (cs : Nat → ClassId) (ad : Nat → Nat) (I : Mm) (sz : Nat) (k : Nat) (hk : kC.getD k 0 = 1) (a : Int32) (N : Nat) (hw : WT I (k + 1) N) : MetXI l yX5_call wsX5_call ({ frames := 7, cells := 1, slots := 6, locals := 104 }) kC cs D ad I sz [.ref (ad k), .int a] (fun r u => th_X5_call I k a N = 0 ∧ u = wr I (k + 1 + 8 + (1 + a.toNatClampNeg)) 7 (nI 0) ∧ r = I (k + 1 + 8 + (1 + a.toNatClampNeg)) 7) (thrE (th_X5_call I k a N)) 1 6 := by
  refine g_xmet (cc := cX5_call) (maxL := 4) (ret := (some .int)) (by decide) rfl (Nat.le_of_ble_eq_true rfl) ?_
  intro pg e s m args below meth c ls hx hb hr hml hts hown hlocks hsz hP hD hK hN hS hA hl hX ht
  have hown : s.vm.findClass RX5 = some m.cls := hown
  have hl : lv_has ls 4 [(0, .ref (ad k)), (1, .int a)] := hl
  have hN3 := hw.1
  have hN8 := hw.2.1
  refine lv_aload_n hx hb dX5_call_0 rfl (lv_at hl 0 rfl) ?_
  refine lv_iload_n hx hb dX5_call_1 rfl (lv_at hl 1 rfl) ?_
  refine g_xcallq hD hS hA (vx_runV (As := [.int a]) (rest := []) ⟨hx, hb, hml, hown, hts⟩ (c_X5_member l hst D cs ad I s.heap.size k hk a N hw) (cwV 1 hts gX5_call_X5_member rfl rfl rfl (by decide +kernel) ⟨Nat.le_of_ble_eq_true rfl, Nat.le_of_ble_eq_true rfl⟩) (g_xpreV hP hD hK hN hX hS hsz (k := k) hk (by decide) rfl rfl rfl rfl) rfl rfl hl.1 rfl (lv_room (Nat.le_of_ble_eq_true rfl)) dX5_call_2 ⟨Nat.le_of_ble_eq_true rfl, Nat.le_of_ble_eq_true rfl⟩) (fun E ce q9 H locs hth9 hP hD hS hce hcv hcl => ?_) (fun r1 u1 H locs hw1 hP hD hS => ?_)
  · skip
    have c_1 := thrE_ne hth9
    exact g_xout ht hlocks hce hcv hcl hP hD hS (by simp only [th_X5_call, if_neg c_1]; exact hth9) (Nat.le_of_ble_eq_true rfl) (Nat.le_of_ble_eq_true rfl)
  · skip
    obtain ⟨c_1, hv1, hr1⟩ := hw1
    rw [hv1] at hP hD
    rw [hr1]
    obtain ⟨hm1, hj1, he1⟩ := mb_c hN8 c_1
    rw [hm1]
    have hl1 := hw.left7 hj1
    refine lv_astore_n (lv' := [(2, .ref (ad (k + 1 + 8 + (1 + a.toNatClampNeg)))), (0, .ref (ad k)), (1, .int a)]) hx hb dX5_call_5 rfl hl (by decide) rfl (fun ls hl => ?_)
    refine lv_aload_n hx hb dX5_call_6 rfl (lv_at hl 0 rfl) ?_
    refine g_getN (κ := 6) (ci := 4) (v := .int (I (k + 1 + 8 + (1 + a.toNatClampNeg)) 7)) (C := RX4) (T := TX4) (N := 8) hx hb hts hown hK hP (k := (k + 1 + 8 + (1 + a.toNatClampNeg))) (kd_crew (kd_2_2 (kd_1_0 hk)) (show a.toNatClampNeg < 8 from by omega)) (by decide) rfl (fun _ h => List.mem_cons_of_mem _ (List.mem_append_left _ (List.mem_append_left _ (List.mem_append_left _ (List.mem_append_right _ h))))) rfl 7 (by decide) (nwu14 hN) (fun _ h9 => h9) rfl dX5_call_7 ?_
    refine lv_istore_n (lv' := [(3, .int (I (k + 1 + 8 + (1 + a.toNatClampNeg)) 7)), (2, .ref (ad (k + 1 + 8 + (1 + a.toNatClampNeg)))), (0, .ref (ad k)), (1, .int a)]) hx hb dX5_call_10 rfl hl (by decide) rfl (fun ls hl => ?_)
    refine lv_aload_n hx hb dX5_call_11 rfl (lv_at hl 1 rfl) ?_
    refine lv_iconst (v := nI 0) hx hb dX5_call_12 (by decide) ?_
    refine g_putN (κ := 6) (ci := 4) (v := nI 0) (ty := .int) (C := RX4) (T := TX4) (N := 8) hx hb hts hown hK hP hD hS (k := (k + 1 + 8 + (1 + a.toNatClampNeg))) (kd_crew (kd_2_2 (kd_1_0 hk)) (show a.toNatClampNeg < 8 from by omega)) (by decide) rfl (fun _ h => List.mem_cons_of_mem _ (List.mem_append_left _ (List.mem_append_left _ (List.mem_append_left _ (List.mem_append_right _ h))))) tyX4 tyX4_ok nmX4 rfl 7 (by decide) (nwu14 hN) (fun _ h9 => h9) rfl (by decide +kernel) rfl rfl (Nat.le_of_ble_eq_true rfl) rfl dX5_call_13 (fun u2 H locs hu2 hP hD hS => ?_)
    refine lv_iload_n hx hb dX5_call_16 rfl (lv_at hl 0 rfl) ?_
    refine W.widen (k := 1) (n := 6) (Nat.le_of_ble_eq_true rfl) (Nat.le_of_ble_eq_true rfl) ?_
    refine vx_ret ?_
    exact g_iret (v := I (k + 1 + 8 + (1 + a.toNatClampNeg)) 7) hx hb hr hlocks rfl hP hD hS ⟨(by simp only [th_X5_call, if_pos c_1]), ⟨hu2, rfl⟩⟩ dX5_call_17

def tunF (I : Mm) (w : Nat) (b : Int32) : Int32 := if b = nI 0 then I w 0 - I w 0 / nI 16 * nI 16 else if b = nI 1 then I w 0 / nI 16 else if b = nI 2 then I w 1 else if b = nI 3 then I w 2 else if b = nI 4 then I w 3 else if b = nI 5 then I w 7 else if b = nI 6 then f_X4_firstOrder I w else if b = nI 7 then f_X5_oneIf (I w 4) else I w 5

def th_X5_tunneller (I : Mm) (k : Nat) (a : Int32) (b : Int32) (N : Nat) : Nat := (if th_X5_member k a N = 0 then (if b = nI 0 then 0 else (if b = nI 1 then 0 else (if b = nI 2 then 0 else (if b = nI 3 then 0 else (if b = nI 4 then 0 else (if b = nI 5 then 0 else (if b = nI 6 then 0 else (if b = nI 7 then 0 else (if b = nI 8 then 0 else 1))))))))) else (th_X5_member k a N))
set_option maxHeartbeats 4000000 in
set_option maxRecDepth 100000 in
theorem c_X5_tunneller (l : Launch) (hst : l.stackTraces = false) (D : va_G) (cs : Nat → ClassId) (ad : Nat → Nat) (I : Mm) (sz : Nat) (k : Nat) (hk : kC.getD k 0 = 1) (a : Int32) (b : Int32) (N : Nat) (hw : WT I (k + 1) N) : MetXI l yX5_tunneller wsX5_tunneller ({ frames := 7, cells := 2, slots := 12, locals := 104 }) kC cs D ad I sz [.ref (ad k), .int a, .int b] (fun r u => th_X5_tunneller I k a b N = 0 ∧ u = I ∧ r = tunF I (k + 1 + 8 + (1 + a.toNatClampNeg)) b) (thrE (th_X5_tunneller I k a b N)) 2 12 := by
  refine g_xmet (cc := cX5_tunneller) (maxL := 4) (ret := (some .int)) (by decide) rfl (Nat.le_of_ble_eq_true rfl) ?_
  intro pg e s m args below meth c ls hx hb hr hml hts hown hlocks hsz hP hD hK hN hS hA hl hX ht
  have hown : s.vm.findClass RX5 = some m.cls := hown
  have hl : lv_has ls 4 [(0, .ref (ad k)), (1, .int a), (2, .int b)] := hl
  have hN3 := hw.1
  have hN8 := hw.2.1
  refine lv_aload_n hx hb dX5_tunneller_0 rfl (lv_at hl 0 rfl) ?_
  refine lv_iload_n hx hb dX5_tunneller_1 rfl (lv_at hl 1 rfl) ?_
  refine g_xcallq hD hS hA (vx_runV (As := [.int a]) (rest := []) ⟨hx, hb, hml, hown, hts⟩ (c_X5_member l hst D cs ad I s.heap.size k hk a N hw) (cwV 1 hts gX5_tunneller_X5_member rfl rfl rfl (by decide +kernel) ⟨Nat.le_of_ble_eq_true rfl, Nat.le_of_ble_eq_true rfl⟩) (g_xpreV hP hD hK hN hX hS hsz (k := k) hk (by decide) rfl rfl rfl rfl) rfl rfl hl.1 rfl (lv_room (Nat.le_of_ble_eq_true rfl)) dX5_tunneller_2 ⟨Nat.le_of_ble_eq_true rfl, Nat.le_of_ble_eq_true rfl⟩) (fun E ce q9 H locs hth9 hP hD hS hce hcv hcl => ?_) (fun r1 u1 H locs hw1 hP hD hS => ?_)
  · skip
    have c_1 := thrE_ne hth9
    exact g_xout ht hlocks hce hcv hcl hP hD hS (by simp only [th_X5_tunneller, if_neg c_1]; exact hth9) (Nat.le_of_ble_eq_true rfl) (Nat.le_of_ble_eq_true rfl)
  · skip
    obtain ⟨c_1, hv1, hr1⟩ := hw1
    rw [hv1] at hP hD
    rw [hr1]
    obtain ⟨hm1, hj1, he1⟩ := mb_c hN8 c_1
    rw [hm1]
    have hl1 := hw.left7 hj1
    refine lv_astore_n (lv' := [(3, .ref (ad (k + 1 + 8 + (1 + a.toNatClampNeg)))), (0, .ref (ad k)), (1, .int a), (2, .int b)]) hx hb dX5_tunneller_5 rfl hl (by decide) rfl (fun ls hl => ?_)
    refine lv_iload_n hx hb dX5_tunneller_6 rfl (lv_at hl 3 rfl) ?_
    by_cases c_2 : b = nI 0
    · skip
      refine lv_tableIn (tgt := 56) (off := 49) hx hb dX5_tunneller_7 (by rw [c_2]; decide) (by rw [c_2]; decide) (by rw [c_2]; decide) (by decide) ?_
      refine lv_aload_n hx hb dX5_tunneller_56 rfl (lv_at hl 0 rfl) ?_
      refine g_getN (κ := 6) (ci := 4) (v := .int (I (k + 1 + 8 + (1 + a.toNatClampNeg)) 0)) (C := RX4) (T := TX4) (N := 8) hx hb hts hown hK hP (k := (k + 1 + 8 + (1 + a.toNatClampNeg))) (kd_crew (kd_2_2 (kd_1_0 hk)) (show a.toNatClampNeg < 8 from by omega)) (by decide) rfl (fun _ h => List.mem_cons_of_mem _ (List.mem_append_left _ (List.mem_append_left _ (List.mem_append_left _ (List.mem_append_right _ h))))) rfl 0 (by decide) (nwu3 hN) (fun _ h9 => h9) rfl dX5_tunneller_57 ?_
      refine lv_bipush (v := nI 16) hx hb dX5_tunneller_60 (by decide) ?_
      refine lv_irem hx hb dX5_tunneller_62 (by decide) ?_
      refine W.widen (k := 2) (n := 12) (Nat.le_of_ble_eq_true rfl) (Nat.le_of_ble_eq_true rfl) ?_
      refine vx_ret ?_
      exact g_iret (v := (I (k + 1 + 8 + (1 + a.toNatClampNeg)) 0) - (I (k + 1 + 8 + (1 + a.toNatClampNeg)) 0) / (nI 16) * (nI 16)) hx hb hr hlocks rfl hP hD hS ⟨(by simp only [th_X5_tunneller, if_pos c_1, if_pos c_2]), ⟨rfl, by simp only [tunF]; rw [if_pos c_2]⟩⟩ dX5_tunneller_63
    · skip
      by_cases c_3 : b = nI 1
      · skip
        refine lv_tableIn (tgt := 64) (off := 57) hx hb dX5_tunneller_7 (by rw [c_3]; decide) (by rw [c_3]; decide) (by rw [c_3]; decide) (by decide) ?_
        refine lv_aload_n hx hb dX5_tunneller_64 rfl (lv_at hl 0 rfl) ?_
        refine g_getN (κ := 6) (ci := 4) (v := .int (I (k + 1 + 8 + (1 + a.toNatClampNeg)) 0)) (C := RX4) (T := TX4) (N := 8) hx hb hts hown hK hP (k := (k + 1 + 8 + (1 + a.toNatClampNeg))) (kd_crew (kd_2_2 (kd_1_0 hk)) (show a.toNatClampNeg < 8 from by omega)) (by decide) rfl (fun _ h => List.mem_cons_of_mem _ (List.mem_append_left _ (List.mem_append_left _ (List.mem_append_left _ (List.mem_append_right _ h))))) rfl 0 (by decide) (nwu3 hN) (fun _ h9 => h9) rfl dX5_tunneller_65 ?_
        refine lv_bipush (v := nI 16) hx hb dX5_tunneller_68 (by decide) ?_
        refine lv_idiv hx hb dX5_tunneller_70 (by decide) ?_
        refine W.widen (k := 2) (n := 12) (Nat.le_of_ble_eq_true rfl) (Nat.le_of_ble_eq_true rfl) ?_
        refine vx_ret ?_
        exact g_iret (v := (I (k + 1 + 8 + (1 + a.toNatClampNeg)) 0) / (nI 16)) hx hb hr hlocks rfl hP hD hS ⟨(by simp only [th_X5_tunneller, if_pos c_1, if_neg c_2, if_pos c_3]), ⟨rfl, by simp only [tunF]; rw [if_neg c_2, if_pos c_3]⟩⟩ dX5_tunneller_71
      · skip
        by_cases c_4 : b = nI 2
        · skip
          refine lv_tableIn (tgt := 72) (off := 65) hx hb dX5_tunneller_7 (by rw [c_4]; decide) (by rw [c_4]; decide) (by rw [c_4]; decide) (by decide) ?_
          refine lv_aload_n hx hb dX5_tunneller_72 rfl (lv_at hl 0 rfl) ?_
          refine g_getN (κ := 6) (ci := 4) (v := .int (I (k + 1 + 8 + (1 + a.toNatClampNeg)) 1)) (C := RX4) (T := TX4) (N := 8) hx hb hts hown hK hP (k := (k + 1 + 8 + (1 + a.toNatClampNeg))) (kd_crew (kd_2_2 (kd_1_0 hk)) (show a.toNatClampNeg < 8 from by omega)) (by decide) rfl (fun _ h => List.mem_cons_of_mem _ (List.mem_append_left _ (List.mem_append_left _ (List.mem_append_left _ (List.mem_append_right _ h))))) rfl 1 (by decide) (nwu5 hN) (fun _ h9 => h9) rfl dX5_tunneller_73 ?_
          refine W.widen (k := 2) (n := 12) (Nat.le_of_ble_eq_true rfl) (Nat.le_of_ble_eq_true rfl) ?_
          refine vx_ret ?_
          exact g_iret (v := I (k + 1 + 8 + (1 + a.toNatClampNeg)) 1) hx hb hr hlocks rfl hP hD hS ⟨(by simp only [th_X5_tunneller, if_pos c_1, if_neg c_2, if_neg c_3, if_pos c_4]), ⟨rfl, by simp only [tunF]; rw [if_neg c_2, if_neg c_3, if_pos c_4]⟩⟩ dX5_tunneller_76
        · skip
          by_cases c_5 : b = nI 3
          · skip
            refine lv_tableIn (tgt := 77) (off := 70) hx hb dX5_tunneller_7 (by rw [c_5]; decide) (by rw [c_5]; decide) (by rw [c_5]; decide) (by decide) ?_
            refine lv_aload_n hx hb dX5_tunneller_77 rfl (lv_at hl 0 rfl) ?_
            refine g_getN (κ := 6) (ci := 4) (v := .int (I (k + 1 + 8 + (1 + a.toNatClampNeg)) 2)) (C := RX4) (T := TX4) (N := 8) hx hb hts hown hK hP (k := (k + 1 + 8 + (1 + a.toNatClampNeg))) (kd_crew (kd_2_2 (kd_1_0 hk)) (show a.toNatClampNeg < 8 from by omega)) (by decide) rfl (fun _ h => List.mem_cons_of_mem _ (List.mem_append_left _ (List.mem_append_left _ (List.mem_append_left _ (List.mem_append_right _ h))))) rfl 2 (by decide) (nwu7 hN) (fun _ h9 => h9) rfl dX5_tunneller_78 ?_
            refine W.widen (k := 2) (n := 12) (Nat.le_of_ble_eq_true rfl) (Nat.le_of_ble_eq_true rfl) ?_
            refine vx_ret ?_
            exact g_iret (v := I (k + 1 + 8 + (1 + a.toNatClampNeg)) 2) hx hb hr hlocks rfl hP hD hS ⟨(by simp only [th_X5_tunneller, if_pos c_1, if_neg c_2, if_neg c_3, if_neg c_4, if_pos c_5]), ⟨rfl, by simp only [tunF]; rw [if_neg c_2, if_neg c_3, if_neg c_4, if_pos c_5]⟩⟩ dX5_tunneller_81
          · skip
            by_cases c_6 : b = nI 4
            · skip
              refine lv_tableIn (tgt := 82) (off := 75) hx hb dX5_tunneller_7 (by rw [c_6]; decide) (by rw [c_6]; decide) (by rw [c_6]; decide) (by decide) ?_
              refine lv_aload_n hx hb dX5_tunneller_82 rfl (lv_at hl 0 rfl) ?_
              refine g_getN (κ := 6) (ci := 4) (v := .int (I (k + 1 + 8 + (1 + a.toNatClampNeg)) 3)) (C := RX4) (T := TX4) (N := 8) hx hb hts hown hK hP (k := (k + 1 + 8 + (1 + a.toNatClampNeg))) (kd_crew (kd_2_2 (kd_1_0 hk)) (show a.toNatClampNeg < 8 from by omega)) (by decide) rfl (fun _ h => List.mem_cons_of_mem _ (List.mem_append_left _ (List.mem_append_left _ (List.mem_append_left _ (List.mem_append_right _ h))))) rfl 3 (by decide) (nwu8 hN) (fun _ h9 => h9) rfl dX5_tunneller_83 ?_
              refine W.widen (k := 2) (n := 12) (Nat.le_of_ble_eq_true rfl) (Nat.le_of_ble_eq_true rfl) ?_
              refine vx_ret ?_
              exact g_iret (v := I (k + 1 + 8 + (1 + a.toNatClampNeg)) 3) hx hb hr hlocks rfl hP hD hS ⟨(by simp only [th_X5_tunneller, if_pos c_1, if_neg c_2, if_neg c_3, if_neg c_4, if_neg c_5, if_pos c_6]), ⟨rfl, by simp only [tunF]; rw [if_neg c_2, if_neg c_3, if_neg c_4, if_neg c_5, if_pos c_6]⟩⟩ dX5_tunneller_86
            · skip
              by_cases c_7 : b = nI 5
              · skip
                refine lv_tableIn (tgt := 87) (off := 80) hx hb dX5_tunneller_7 (by rw [c_7]; decide) (by rw [c_7]; decide) (by rw [c_7]; decide) (by decide) ?_
                refine lv_aload_n hx hb dX5_tunneller_87 rfl (lv_at hl 0 rfl) ?_
                refine g_getN (κ := 6) (ci := 4) (v := .int (I (k + 1 + 8 + (1 + a.toNatClampNeg)) 7)) (C := RX4) (T := TX4) (N := 8) hx hb hts hown hK hP (k := (k + 1 + 8 + (1 + a.toNatClampNeg))) (kd_crew (kd_2_2 (kd_1_0 hk)) (show a.toNatClampNeg < 8 from by omega)) (by decide) rfl (fun _ h => List.mem_cons_of_mem _ (List.mem_append_left _ (List.mem_append_left _ (List.mem_append_left _ (List.mem_append_right _ h))))) rfl 7 (by decide) (nwu14 hN) (fun _ h9 => h9) rfl dX5_tunneller_88 ?_
                refine W.widen (k := 2) (n := 12) (Nat.le_of_ble_eq_true rfl) (Nat.le_of_ble_eq_true rfl) ?_
                refine vx_ret ?_
                exact g_iret (v := I (k + 1 + 8 + (1 + a.toNatClampNeg)) 7) hx hb hr hlocks rfl hP hD hS ⟨(by simp only [th_X5_tunneller, if_pos c_1, if_neg c_2, if_neg c_3, if_neg c_4, if_neg c_5, if_neg c_6, if_pos c_7]), ⟨rfl, by simp only [tunF]; rw [if_neg c_2, if_neg c_3, if_neg c_4, if_neg c_5, if_neg c_6, if_pos c_7]⟩⟩ dX5_tunneller_91
              · skip
                by_cases c_8 : b = nI 6
                · skip
                  refine lv_tableIn (tgt := 92) (off := 85) hx hb dX5_tunneller_7 (by rw [c_8]; decide) (by rw [c_8]; decide) (by rw [c_8]; decide) (by decide) ?_
                  refine lv_aload_n hx hb dX5_tunneller_92 rfl (lv_at hl 0 rfl) ?_
                  refine g_callF (F := f_X4_firstOrder I (k + 1 + 8 + (1 + a.toNatClampNeg))) hD hS hA (va_runV (As := []) (rest := []) ⟨hx, hb, hml, hown, hts⟩ (c_X4_firstOrder l D cs ad I H.size (k + 1 + 8 + (1 + a.toNatClampNeg)) (kd_crew (kd_2_2 (kd_1_0 hk)) (show a.toNatClampNeg < 8 from by omega))) (cwV 0 hts gX5_tunneller_X4_firstOrder rfl rfl rfl (by decide +kernel) ⟨Nat.le_of_ble_eq_true rfl, Nat.le_of_ble_eq_true rfl⟩) (g_preV hP hD hK hN (k := (k + 1 + 8 + (1 + a.toNatClampNeg))) (kd_crew (kd_2_2 (kd_1_0 hk)) (show a.toNatClampNeg < 8 from by omega)) (by decide) rfl rfl rfl rfl) rfl rfl hl.1 rfl (lv_room (Nat.le_of_ble_eq_true rfl)) dX5_tunneller_93 ⟨Nat.le_of_ble_eq_true rfl, Nat.le_of_ble_eq_true rfl⟩) (fun H locs hP hD hS => ?_)
                  refine W.widen (k := 2) (n := 12) (Nat.le_of_ble_eq_true rfl) (Nat.le_of_ble_eq_true rfl) ?_
                  refine vx_ret ?_
                  exact g_iret (v := f_X4_firstOrder I (k + 1 + 8 + (1 + a.toNatClampNeg))) hx hb hr hlocks rfl hP hD hS ⟨(by simp only [th_X5_tunneller, if_pos c_1, if_neg c_2, if_neg c_3, if_neg c_4, if_neg c_5, if_neg c_6, if_neg c_7, if_pos c_8]), ⟨rfl, by simp only [tunF]; rw [if_neg c_2, if_neg c_3, if_neg c_4, if_neg c_5, if_neg c_6, if_neg c_7, if_pos c_8]⟩⟩ dX5_tunneller_96
                · skip
                  by_cases c_9 : b = nI 7
                  · skip
                    refine lv_tableIn (tgt := 97) (off := 90) hx hb dX5_tunneller_7 (by rw [c_9]; decide) (by rw [c_9]; decide) (by rw [c_9]; decide) (by decide) ?_
                    refine lv_aload_n hx hb dX5_tunneller_97 rfl (lv_at hl 0 rfl) ?_
                    refine g_getN (κ := 6) (ci := 4) (v := .int (I (k + 1 + 8 + (1 + a.toNatClampNeg)) 4)) (C := RX4) (T := TX4) (N := 8) hx hb hts hown hK hP (k := (k + 1 + 8 + (1 + a.toNatClampNeg))) (kd_crew (kd_2_2 (kd_1_0 hk)) (show a.toNatClampNeg < 8 from by omega)) (by decide) rfl (fun _ h => List.mem_cons_of_mem _ (List.mem_append_left _ (List.mem_append_left _ (List.mem_append_left _ (List.mem_append_right _ h))))) rfl 4 (by decide) (nwu11 hN) (fun _ h9 => h9) rfl dX5_tunneller_98 ?_
                    skip
                    refine g_callF (F := f_X5_oneIf (I (k + 1 + 8 + (1 + a.toNatClampNeg)) 4)) hD hS hA (va_runS (As := [.int (I (k + 1 + 8 + (1 + a.toNatClampNeg)) 4)]) (rest := []) ⟨hx, hb, hml, hown, hts⟩ (c_X5_oneIf l D cs ad I H.size (I (k + 1 + 8 + (1 + a.toNatClampNeg)) 4) (hw.2.2.2.1 _ (by omega))) (va_cwS 1 hts gX5_tunneller_X5_oneIf rfl rfl rfl (by decide +kernel) ⟨Nat.le_of_ble_eq_true rfl, Nat.le_of_ble_eq_true rfl⟩) (g_preS hP hD hK hN) rfl rfl hl.1 rfl (lv_room (Nat.le_of_ble_eq_true rfl)) dX5_tunneller_101 ⟨Nat.le_of_ble_eq_true rfl, Nat.le_of_ble_eq_true rfl⟩) (fun H locs hP hD hS => ?_)
                    refine W.widen (k := 2) (n := 12) (Nat.le_of_ble_eq_true rfl) (Nat.le_of_ble_eq_true rfl) ?_
                    refine vx_ret ?_
                    exact g_iret (v := f_X5_oneIf (I (k + 1 + 8 + (1 + a.toNatClampNeg)) 4)) hx hb hr hlocks rfl hP hD hS ⟨(by simp only [th_X5_tunneller, if_pos c_1, if_neg c_2, if_neg c_3, if_neg c_4, if_neg c_5, if_neg c_6, if_neg c_7, if_neg c_8, if_pos c_9]), ⟨rfl, by simp only [tunF]; rw [if_neg c_2, if_neg c_3, if_neg c_4, if_neg c_5, if_neg c_6, if_neg c_7, if_neg c_8, if_pos c_9]⟩⟩ dX5_tunneller_104
                  · skip
                    by_cases c_10 : b = nI 8
                    · skip
                      refine lv_tableIn (tgt := 105) (off := 98) hx hb dX5_tunneller_7 (by rw [c_10]; decide) (by rw [c_10]; decide) (by rw [c_10]; decide) (by decide) ?_
                      refine lv_aload_n hx hb dX5_tunneller_105 rfl (lv_at hl 0 rfl) ?_
                      refine g_getN (κ := 6) (ci := 4) (v := .int (I (k + 1 + 8 + (1 + a.toNatClampNeg)) 5)) (C := RX4) (T := TX4) (N := 8) hx hb hts hown hK hP (k := (k + 1 + 8 + (1 + a.toNatClampNeg))) (kd_crew (kd_2_2 (kd_1_0 hk)) (show a.toNatClampNeg < 8 from by omega)) (by decide) rfl (fun _ h => List.mem_cons_of_mem _ (List.mem_append_left _ (List.mem_append_left _ (List.mem_append_left _ (List.mem_append_right _ h))))) rfl 5 (by decide) (nwu13 hN) (fun _ h9 => h9) rfl dX5_tunneller_106 ?_
                      refine W.widen (k := 2) (n := 12) (Nat.le_of_ble_eq_true rfl) (Nat.le_of_ble_eq_true rfl) ?_
                      refine vx_ret ?_
                      exact g_iret (v := I (k + 1 + 8 + (1 + a.toNatClampNeg)) 5) hx hb hr hlocks rfl hP hD hS ⟨(by simp only [th_X5_tunneller, if_pos c_1, if_neg c_2, if_neg c_3, if_neg c_4, if_neg c_5, if_neg c_6, if_neg c_7, if_neg c_8, if_neg c_9, if_pos c_10]), ⟨rfl, by simp only [tunF]; rw [if_neg c_2, if_neg c_3, if_neg c_4, if_neg c_5, if_neg c_6, if_neg c_7, if_neg c_8, if_neg c_9]⟩⟩ dX5_tunneller_109
                    · skip
                      have ho : ∀ j : Nat, j ≤ 8 → b ≠ nI j := by
                        intro j hj
                        rcases (show j = 0 ∨ j = 1 ∨ j = 2 ∨ j = 3 ∨ j = 4 ∨ j = 5 ∨ j = 6 ∨ j = 7 ∨ j = 8 from by omega) with rfl | rfl | rfl | rfl | rfl | rfl | rfl | rfl | rfl
                        · exact c_2
                        · exact c_3
                        · exact c_4
                        · exact c_5
                        · exact c_6
                        · exact c_7
                        · exact c_8
                        · exact c_9
                        · exact c_10
                      refine lv_tableOut (tgt := 110) hx hb dX5_tunneller_7 (tsw (n := 8) (by decide) ho) (by decide) ?_
                      exact g_throw (own := RX5) (cls := "java/lang/IndexOutOfBoundsException") (text := "a tunneller tells 0 to 8") (names := ["java/lang/RuntimeException", "java/lang/Exception"]) (ik := 76) (is := 141) (ic := 80) hx hb hst hown (by decide +kernel) (by decide +kernel) (hts _ (List.mem_of_getElem? (i := 1) rfl)) (hts _ (List.mem_of_getElem? (i := 2) rfl)) rfl (by decide) hN (fun w h => hts w (List.mem_cons_of_mem _ (List.mem_append_right _ h))) xb_80 xg_80 hX hS hP hD (hl.1.trans hml.symm) dX5_tunneller_110 dX5_tunneller_113 dX5_tunneller_114 dX5_tunneller_116 dX5_tunneller_119 ht (Nat.le_of_ble_eq_true rfl) (Nat.le_of_ble_eq_true rfl) (Nat.le_of_ble_eq_true rfl) (Nat.le_of_ble_eq_true rfl) hlocks (Nat.le_of_ble_eq_true rfl) (Nat.le_of_ble_eq_true rfl) (by simp only [th_X5_tunneller, if_pos c_1, if_neg c_2, if_neg c_3, if_neg c_4, if_neg c_5, if_neg c_6, if_neg c_7, if_neg c_8, if_neg c_9, if_neg c_10]; exact thr_1)
