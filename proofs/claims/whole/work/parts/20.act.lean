noncomputable def tradeR (I : Mm) (z w N : Nat) : Int32 := match pO I z w N with
  | none => nI 0
  | some _ => nI 1
noncomputable def tradeM (I : Mm) (z w N : Nat) : Mm := match pO I z w N with
  | none => I
  | some j => if I w 2 < I (z + 8 + (1 + j)) 2 + nI 2 then (if I (z + 8 + (1 + j)) 2 < I w 2 + nI 2 then I else m_X0_handLamp I z (z + 8 + (1 + j)) w) else m_X0_handLamp I z w (z + 8 + (1 + j))

set_option maxHeartbeats 4000000 in
set_option maxRecDepth 100000 in
theorem c_X0_trade (l : Launch) (D : va_G) (cs : Nat → ClassId) (ad : Nat → Nat) (I : Mm) (sz : Nat) (z : Nat) (hz : kC.getD z 0 = 2) (w : Nat) (hw : kC.getD w 0 = 6) (N : Nat) (hN3 : I z 3 = nI N) (hN8 : N ≤ 8) : MetI l yX0_trade wsX0_trade ({ frames := 3, cells := 0, slots := 0, locals := 69 }) kC cs D ad I sz [.ref (ad z), .ref (ad w)] (fun r u => r = tradeR I z w N ∧ u = tradeM I z w N) 0 0 := by
  refine g_met (cc := cX0_trade) (maxL := 3) (ret := (some .boolean)) (by decide) rfl (Nat.le_of_ble_eq_true rfl) ?_
  intro pg e s m args below meth c ls hx hb hr hml hts hown hlocks hsz hP hD hK hN hS hA hl
  have hown : s.vm.findClass RX0 = some m.cls := hown
  have hl : lv_has ls 3 [(0, .ref (ad z)), (1, .ref (ad w))] := hl
  refine lv_aload_n hx hb dX0_trade_0 rfl (lv_at hl 0 rfl) ?_
  refine lv_aload_n hx hb dX0_trade_1 rfl (lv_at hl 1 rfl) ?_
  refine g_callq hD hS hA (va_runV (As := [.ref (ad w)]) (rest := []) ⟨hx, hb, hml, hown, hts⟩ (c_X0_partnerOf l D cs ad I s.heap.size z hz w hw N hN3 hN8) (cwV 1 hts gX0_trade_X0_partnerOf rfl rfl rfl (by decide +kernel) ⟨Nat.le_of_ble_eq_true rfl, Nat.le_of_ble_eq_true rfl⟩) (g_preV hP hD hK hN (k := z) hz (by decide) rfl rfl rfl rfl) rfl rfl hl.1 rfl (lv_room (Nat.le_of_ble_eq_true rfl)) dX0_trade_2 ⟨Nat.le_of_ble_eq_true rfl, Nat.le_of_ble_eq_true rfl⟩) (fun rq u9 H locs hq9 hP hD hS => ?_)
  obtain ⟨hu9, hr9⟩ := hq9
  rw [hu9] at hP hD
  rw [hr9]
  rcases hp9 : pO I z w N with _ | j
  · skip
    refine lv_astore_nN (lv' := [(2, .null), (0, .ref (ad z)), (1, .ref (ad w))]) hx hb dX0_trade_5 rfl hl (by decide) rfl (fun ls hl => ?_)
    refine lv_aload_nN hx hb dX0_trade_6 rfl (lv_at hl 0 rfl) ?_
    refine lv_ifnonnullN hx hb dX0_trade_7 ?_
    refine lv_iconst (v := nI 0) hx hb dX0_trade_10 (by decide) ?_
    exact g_iret (v := nI 0) hx hb hr hlocks rfl hP hD hS ⟨by simp only [tradeR, hp9], by simp only [tradeM, hp9]⟩ dX0_trade_11
  · skip
    refine lv_astore_n (lv' := [(2, .ref (ad (z + 8 + (1 + j)))), (0, .ref (ad z)), (1, .ref (ad w))]) hx hb dX0_trade_5 rfl hl (by decide) rfl (fun ls hl => ?_)
    refine lv_aload_n hx hb dX0_trade_6 rfl (lv_at hl 0 rfl) ?_
    refine lv_ifnonnull (tgt := 12) hx hb dX0_trade_7 (by decide) ?_
    refine lv_aload_n hx hb dX0_trade_12 rfl (lv_at hl 2 rfl) ?_
    refine g_getN (κ := 6) (ci := 4) (v := .int (I w 2)) (C := RX4) (T := TX4) (N := 8) hx hb hts hown hK hP (k := w) hw (by decide) rfl (fun _ h => List.mem_cons_of_mem _ (List.mem_append_left _ (List.mem_append_right _ h))) rfl 2 (by decide) (nwu6 hN) (fun _ h9 => h9) rfl dX0_trade_13 ?_
    refine lv_aload_n hx hb dX0_trade_16 rfl (lv_at hl 0 rfl) ?_
    refine g_getN (κ := 6) (ci := 4) (v := .int (I (z + 8 + (1 + j)) 2)) (C := RX4) (T := TX4) (N := 8) hx hb hts hown hK hP (k := (z + 8 + (1 + j))) (kd_crew (kd_2_2 hz) (show j < 8 from by have := (pfind_lt hp9).1; omega)) (by decide) rfl (fun _ h => List.mem_cons_of_mem _ (List.mem_append_left _ (List.mem_append_right _ h))) rfl 2 (by decide) (nwu6 hN) (fun _ h9 => h9) rfl dX0_trade_17 ?_
    refine lv_iconst (v := nI 2) hx hb dX0_trade_20 (by decide) ?_
    refine lv_iadd hx hb dX0_trade_21 ?_
    refine lv_icmp_lt (tgt := 34) hx hb dX0_trade_22 (by decide) (fun c_1 => ?_) (fun c_1 => ?_)
    · skip
      refine lv_aload_n hx hb dX0_trade_34 rfl (lv_at hl 0 rfl) ?_
      refine g_getN (κ := 6) (ci := 4) (v := .int (I (z + 8 + (1 + j)) 2)) (C := RX4) (T := TX4) (N := 8) hx hb hts hown hK hP (k := (z + 8 + (1 + j))) (kd_crew (kd_2_2 hz) (show j < 8 from by have := (pfind_lt hp9).1; omega)) (by decide) rfl (fun _ h => List.mem_cons_of_mem _ (List.mem_append_left _ (List.mem_append_right _ h))) rfl 2 (by decide) (nwu6 hN) (fun _ h9 => h9) rfl dX0_trade_35 ?_
      refine lv_aload_n hx hb dX0_trade_38 rfl (lv_at hl 2 rfl) ?_
      refine g_getN (κ := 6) (ci := 4) (v := .int (I w 2)) (C := RX4) (T := TX4) (N := 8) hx hb hts hown hK hP (k := w) hw (by decide) rfl (fun _ h => List.mem_cons_of_mem _ (List.mem_append_left _ (List.mem_append_right _ h))) rfl 2 (by decide) (nwu6 hN) (fun _ h9 => h9) rfl dX0_trade_39 ?_
      refine lv_iconst (v := nI 2) hx hb dX0_trade_42 (by decide) ?_
      refine lv_iadd hx hb dX0_trade_43 ?_
      refine lv_icmp_lt (tgt := 53) hx hb dX0_trade_44 (by decide) (fun c_2 => ?_) (fun c_2 => ?_)
      · skip
        refine lv_iconst (v := nI 1) hx hb dX0_trade_53 (by decide) ?_
        exact g_iret (v := nI 1) hx hb hr hlocks rfl hP hD hS ⟨by simp only [tradeR, hp9], by simp only [tradeM, hp9]; rw [if_pos c_1, if_pos c_2]⟩ dX0_trade_54
      · skip
        refine lv_aload_n hx hb dX0_trade_47 rfl (lv_at hl 1 rfl) ?_
        refine lv_aload_n hx hb dX0_trade_48 rfl (lv_at hl 0 rfl) ?_
        refine lv_aload_n hx hb dX0_trade_49 rfl (lv_at hl 2 rfl) ?_
        refine g_callM (M := m_X0_handLamp I z (z + 8 + (1 + j)) w) hD hS hA (va_runV (As := [.ref (ad (z + 8 + (1 + j))), .ref (ad w)]) (rest := []) ⟨hx, hb, hml, hown, hts⟩ (c_X0_handLamp l D cs ad I H.size z hz (z + 8 + (1 + j)) (kd_crew (kd_2_2 hz) (show j < 8 from by have := (pfind_lt hp9).1; omega)) w hw) (cwV 2 hts gX0_trade_X0_handLamp rfl rfl rfl (by decide +kernel) ⟨Nat.le_of_ble_eq_true rfl, Nat.le_of_ble_eq_true rfl⟩) (g_preV hP hD hK hN (k := z) hz (by decide) rfl rfl rfl rfl) rfl rfl hl.1 rfl (lv_room (Nat.le_of_ble_eq_true rfl)) dX0_trade_50 ⟨Nat.le_of_ble_eq_true rfl, Nat.le_of_ble_eq_true rfl⟩) (fun u3 H locs hu3 hP hD hS => ?_)
        refine lv_iconst (v := nI 1) hx hb dX0_trade_53 (by decide) ?_
        exact g_iret (v := nI 1) hx hb hr hlocks rfl hP hD hS ⟨by simp only [tradeR, hp9], by simp only [tradeM, hp9]; rw [if_pos c_1, if_neg c_2, hu3]⟩ dX0_trade_54
    · skip
      refine lv_aload_n hx hb dX0_trade_25 rfl (lv_at hl 1 rfl) ?_
      refine lv_aload_n hx hb dX0_trade_26 rfl (lv_at hl 2 rfl) ?_
      refine lv_aload_n hx hb dX0_trade_27 rfl (lv_at hl 0 rfl) ?_
      refine g_callM (M := m_X0_handLamp I z w (z + 8 + (1 + j))) hD hS hA (va_runV (As := [.ref (ad w), .ref (ad (z + 8 + (1 + j)))]) (rest := []) ⟨hx, hb, hml, hown, hts⟩ (c_X0_handLamp l D cs ad I H.size z hz w hw (z + 8 + (1 + j)) (kd_crew (kd_2_2 hz) (show j < 8 from by have := (pfind_lt hp9).1; omega))) (cwV 2 hts gX0_trade_X0_handLamp rfl rfl rfl (by decide +kernel) ⟨Nat.le_of_ble_eq_true rfl, Nat.le_of_ble_eq_true rfl⟩) (g_preV hP hD hK hN (k := z) hz (by decide) rfl rfl rfl rfl) rfl rfl hl.1 rfl (lv_room (Nat.le_of_ble_eq_true rfl)) dX0_trade_28 ⟨Nat.le_of_ble_eq_true rfl, Nat.le_of_ble_eq_true rfl⟩) (fun u4 H locs hu4 hP hD hS => ?_)
      refine lv_goto (tgt := 53) hx hb dX0_trade_31 (by decide) ?_
      refine lv_iconst (v := nI 1) hx hb dX0_trade_53 (by decide) ?_
      exact g_iret (v := nI 1) hx hb hr hlocks rfl hP hD hS ⟨by simp only [tradeR, hp9], by simp only [tradeM, hp9]; rw [if_neg c_1, hu4]⟩ dX0_trade_54

noncomputable def dropS (u : Mm) (w : Nat) : Mm := m_X4_dropFirstOrder u w (u w 7).toNatClampNeg
noncomputable def restM (I : Mm) (z w N : Nat) : Mm :=
  if f_X4_firstOrder I w = nI 4 then dropS (m_X0_shore I z w) w
  else if f_X4_firstOrder I w = nI 6 then (if tradeR I z w N = 0 then tradeM I z w N else dropS (tradeM I z w N) w)
  else dropS I w
/-- a tunneller's deed -/
noncomputable def actM (I : Mm) (z w N : Nat) : Mm :=
  if f_X4_firstOrder I w < 0 then restM I z w N
  else if nI 4 ≤ f_X4_firstOrder I w then restM I z w N
  else if stepR I z w N (f_X4_firstOrder I w) = 0 then stepM I z w N (f_X4_firstOrder I w)
  else dropS (stepM I z w N (f_X4_firstOrder I w)) w
theorem w8_ne {z w : Nat} (hz : kC.getD z 0 = 2) (hw : kC.getD w 0 = 6) : w + 8 ≠ z + 5 ∧ w + 8 ≠ z + 5 + 1 ∧ w + 8 ≠ z + 5 + 2 := by
  have h9 := kd_6_6 hw
  refine ⟨fun e => ?_, fun e => ?_, fun e => ?_⟩
  · rw [e, kd_2_1 hz] at h9; cases h9
  · rw [e, kd_4_0 (kd_2_1 hz)] at h9; cases h9
  · rw [e, kd_4_1 (kd_2_1 hz)] at h9; cases h9
theorem EX.wrA {z : Nat} {u v : Mm} (h : EX z u v) (k : Nat) (f : Nat → Int32) (hk : k ≠ z + 5 ∧ k ≠ z + 5 + 1 ∧ k ≠ z + 5 + 2) : EX z (wrA u k f) (wrA v k f) := by
  refine ⟨fun a h1 h2 h3 => ?_, h.2.eq (by rw [wrA_n _ _ (Ne.symm hk.1)]) (wrA_n _ _ (Ne.symm hk.2.1)) (wrA_n _ _ (Ne.symm hk.2.2))⟩
  by_cases e : a = k
  · rw [e, wrA_s, wrA_s]
  · rw [wrA_n _ _ e, wrA_n _ _ e]; exact h.1 a h1 h2 h3
theorem EX.drop {z w : Nat} {u v : Mm} (h : EX z u v) (hz : kC.getD z 0 = 2) (hw : kC.getD w 0 = 6) (n : Nat) : EX z (m_X4_dropFirstOrder u w n) (m_X4_dropFirstOrder v w n) := by
  have h8 := w8_ne hz hw
  simp only [m_X4_dropFirstOrder]
  split
  · simp only [shO]
    rw [h.1 (w + 8) h8.1 h8.2.1 h8.2.2]
    exact (h.wrA _ _ h8).wr _ _ _ (w_ne hz hw)
  · exact h
theorem EX.dropS {z w : Nat} {u v : Mm} (h : EX z u v) (hz : kC.getD z 0 = 2) (hw : kC.getD w 0 = 6) : EX z (_root_.Jvm.Pilot.CSnowMazeLaw_law_r9786_1e919e.dropS u w) (_root_.Jvm.Pilot.CSnowMazeLaw_law_r9786_1e919e.dropS v w) := by
  have hn := w_ne hz hw
  simp only [_root_.Jvm.Pilot.CSnowMazeLaw_law_r9786_1e919e.dropS]
  rw [h.1 w hn.1 hn.2.1 hn.2.2]
  exact h.drop hz hw _
theorem k_ne {a b x y : Nat} (ha : kC.getD a 0 = x) (hb : kC.getD b 0 = y) (h : x ≠ y) : a ≠ b := fun e => h (by rw [← ha, ← hb, e])
theorem put_w {I : Mm} {z w : Nat} {a b : Int32} (hz : kC.getD z 0 = 2) (hw : kC.getD w 0 = 6) : m_X3_put I (z + 1) a b w = I w :=
  put_o ⟨k_ne hw (kd_3_0 (kd_2_0 hz)) (by decide), k_ne hw (kd_3_1 (kd_2_0 hz)) (by decide), k_ne hw (kd_3_2 (kd_2_0 hz)) (by decide)⟩
theorem stepM_7 {I : Mm} {z w N : Nat} {d : Int32} (hz : kC.getD z 0 = 2) (hw : kC.getD w 0 = 6) : stepM I z w N d w 7 = I w 7 := by
  unfold stepM
  repeat' split
  · rfl
  · rw [wr_sn _ _ _ (by decide)]
  · simp only [dug]
    rw [wr_sn _ _ _ (by decide), sB_i (by decide), wr_sn _ _ _ (by decide), put_w hz hw]
  · rw [put_w hz hw]
  · rfl
theorem shore_7 {I : Mm} {z w : Nat} (hz : kC.getD z 0 = 2) (hw : kC.getD w 0 = 6) : m_X0_shore I z w w 7 = I w 7 := by
  have h3 : w ≠ z + 1 + 3 := k_ne hw (kd_3_2 (kd_2_0 hz)) (by decide)
  simp only [m_X0_shore, m_X3_setPost]
  repeat' split
  all_goals first | rfl | (rw [wr_n _ _ _ h3, wr_sn _ _ _ (by decide)]) | (rw [wr_sn _ _ _ (by decide)])
theorem hand_7 {I : Mm} {z g1 g2 w : Nat} (hz : kC.getD z 0 = 2) (hw : kC.getD w 0 = 6) : m_X0_handLamp I z g1 g2 w 7 = I w 7 := by
  have key : ∀ (J : Mm) (g : Nat) (x : Int32), wr J g 2 x w 7 = J w 7 := fun J g x => by
    by_cases e : w = g
    · rw [e, wr_sn _ _ _ (by decide)]
    · rw [wr_n _ _ _ e]
  simp only [m_X0_handLamp]
  rw [wr_n _ _ _ (Ne.symm (z_ne hz hw)), key, key]
theorem tradeM_7 {I : Mm} {z w N : Nat} (hz : kC.getD z 0 = 2) (hw : kC.getD w 0 = 6) : tradeM I z w N w 7 = I w 7 := by
  cases hp : pO I z w N with
  | none => simp only [tradeM, hp]
  | some j =>
    simp only [tradeM, hp]
    repeat' split
    · rfl
    · exact hand_7 hz hw
    · exact hand_7 hz hw
theorem shore_EX {z w : Nat} {I : Mm} (h : RX z I) (hz : kC.getD z 0 = 2) (hw : kC.getD w 0 = 6) : EX z (m_X0_shore I z w) (m_X0_shore I z w) := by
  refine ⟨EqX.rf _ _, ?_⟩
  have hn := w_ne hz hw
  have h0 : EX z I I := ⟨EqX.rf _ _, h⟩
  simp only [m_X0_shore, m_X3_setPost]
  repeat' split
  all_goals first | exact h | exact (h0.wr _ _ _ hn).2 | exact ((h0.wr _ _ _ hn).wr _ _ _ (by omega)).2
theorem hand_EX {z g1 g2 : Nat} {I : Mm} (h : RX z I) (hz : kC.getD z 0 = 2) (h1 : kC.getD g1 0 = 6) (h2 : kC.getD g2 0 = 6) : EX z (m_X0_handLamp I z g1 g2) (m_X0_handLamp I z g1 g2) := by
  refine ⟨EqX.rf _ _, ?_⟩
  have h0 : EX z I I := ⟨EqX.rf _ _, h⟩
  simp only [m_X0_handLamp]
  exact (((h0.wr _ _ _ (w_ne hz h1)).wr _ _ _ (w_ne hz h2)).wr _ _ _ (by omega)).2
theorem trade_EX {z w N : Nat} {I : Mm} (h : RX z I) (hN : N ≤ 8) (hz : kC.getD z 0 = 2) (hw : kC.getD w 0 = 6) : EX z (tradeM I z w N) (tradeM I z w N) := by
  refine ⟨EqX.rf _ _, ?_⟩
  unfold tradeM
  split
  · exact h
  · rename_i j hp
    have hj : kC.getD (z + 8 + (1 + j)) 0 = 6 := kd_crew (kd_2_2 hz) (by have := (pfind_lt hp).1; omega)
    repeat' split
    · exact h
    · exact (hand_EX h hz hj hw).2
    · exact (hand_EX h hz hw hj).2
theorem fO_nn {I : Mm} {w : Nat} : True := trivial

set_option maxHeartbeats 4000000 in
set_option maxRecDepth 100000 in
theorem c_X0_act (l : Launch) (D : va_G) (cs : Nat → ClassId) (ad : Nat → Nat) (I : Mm) (sz : Nat) (z : Nat) (hz : kC.getD z 0 = 2) (w : Nat) (hw_ : kC.getD w 0 = 6) (N : Nat) (hw : WZ I z N) (pw : Nat) (hpw : pw < 256) (hpw2 : I w 0 = nI pw) (ow : Nat) (how : I w 7 = nI ow) (how24 : ow ≤ 24) : MetN l yX0_act wsX0_act ({ frames := 4, cells := 0, slots := 0, locals := 94 }) kC cs D ad I sz [.ref (ad z), .ref (ad w)] (fun u => EX z u (actM I z w N)) 0 0 := by
  refine g_met (cc := cX0_act) (maxL := 4) (ret := none) (by decide) rfl (Nat.le_of_ble_eq_true rfl) ?_
  intro pg e s m args below meth c ls hx hb hr hml hts hown hlocks hsz hP hD hK hN hS hA hl
  have hown : s.vm.findClass RX0 = some m.cls := hown
  have hl : lv_has ls 4 [(0, .ref (ad z)), (1, .ref (ad w))] := hl
  refine lv_aload_n hx hb dX0_act_0 rfl (lv_at hl 1 rfl) ?_
  refine g_callF (F := f_X4_firstOrder I w) hD hS hA (va_runV (As := []) (rest := []) ⟨hx, hb, hml, hown, hts⟩ (c_X4_firstOrder l D cs ad I s.heap.size w hw_) (cwV 0 hts gX0_act_X4_firstOrder rfl rfl rfl (by decide +kernel) ⟨Nat.le_of_ble_eq_true rfl, Nat.le_of_ble_eq_true rfl⟩) (g_preV hP hD hK hN (k := w) hw_ (by decide) rfl rfl rfl rfl) rfl rfl hl.1 rfl (lv_room (Nat.le_of_ble_eq_true rfl)) dX0_act_1 ⟨Nat.le_of_ble_eq_true rfl, Nat.le_of_ble_eq_true rfl⟩) (fun H locs hP hD hS => ?_)
  refine lv_istore_n (lv' := [(2, .int (f_X4_firstOrder I w)), (0, .ref (ad z)), (1, .ref (ad w))]) hx hb dX0_act_4 rfl hl (by decide) rfl (fun ls hl => ?_)
  refine lv_iconst (v := nI 1) hx hb dX0_act_5 (by decide) ?_
  refine lv_istore_n (lv' := [(3, .int (nI 1)), (2, .int (f_X4_firstOrder I w)), (0, .ref (ad z)), (1, .ref (ad w))]) hx hb dX0_act_6 rfl hl (by decide) rfl (fun ls hl => ?_)
  refine lv_iload_n hx hb dX0_act_7 rfl (lv_at hl 1 rfl) ?_
  refine lv_if_lt (tgt := 26) hx hb dX0_act_8 (by decide) (fun c_1 => ?_) (fun c_1 => ?_)
  · skip
    refine lv_iload_n hx hb dX0_act_26 rfl (lv_at hl 1 rfl) ?_
    refine lv_iconst (v := nI 4) hx hb dX0_act_27 (by decide) ?_
    refine lv_icmp_ne (tgt := 39) hx hb dX0_act_28 (by decide) (fun c_2 => ?_) (fun c_2 => ?_)
    · skip
      refine lv_iload_n hx hb dX0_act_39 rfl (lv_at hl 1 rfl) ?_
      refine lv_bipush (v := nI 6) hx hb dX0_act_40 (by decide) ?_
      refine lv_icmp_ne (tgt := 51) hx hb dX0_act_42 (by decide) (fun c_3 => ?_) (fun c_3 => ?_)
      · skip
        refine lv_iload_n hx hb dX0_act_51 rfl (lv_at hl 0 rfl) ?_
        refine lv_if_eq (tgt := 59) hx hb dX0_act_52 (by decide) (fun z => absurd z (by decide)) (fun c_4 => ?_)
        refine lv_aload_n hx hb dX0_act_55 rfl (lv_at hl 3 rfl) ?_
        refine g_callM (M := m_X4_dropFirstOrder I w ow) hD hS hA (va_runV (As := []) (rest := []) ⟨hx, hb, hml, hown, hts⟩ (c_X4_dropFirstOrder l D cs ad I H.size w hw_ ow how how24) (cwV 0 hts gX0_act_X4_dropFirstOrder rfl rfl rfl (by decide +kernel) ⟨Nat.le_of_ble_eq_true rfl, Nat.le_of_ble_eq_true rfl⟩) (g_preV hP hD hK hN (k := w) hw_ (by decide) rfl rfl rfl rfl) rfl rfl hl.1 rfl (lv_room (Nat.le_of_ble_eq_true rfl)) dX0_act_56 ⟨Nat.le_of_ble_eq_true rfl, Nat.le_of_ble_eq_true rfl⟩) (fun u5 H locs hu5 hP hD hS => ?_)
        exact g_vret hx hb hr hlocks hP hD hS (by simp only [actM]; rw [if_pos c_1]; simp only [restM]; rw [if_neg c_2, if_neg c_3, hu5]; simp only [dropS]; rw [how, nI_clamp (by omega)]; exact EX.drop ⟨EqX.rf z I, hw.2.2.1⟩ hz hw_ _) dX0_act_59
      · skip
        refine lv_aload_n hx hb dX0_act_45 rfl (lv_at hl 2 rfl) ?_
        refine lv_aload_n hx hb dX0_act_46 rfl (lv_at hl 3 rfl) ?_
        refine g_calli hD hS hA (va_runV (As := [.ref (ad w)]) (rest := []) ⟨hx, hb, hml, hown, hts⟩ (c_X0_trade l D cs ad I H.size z hz w hw_ N hw.1 hw.2.1) (cwV 1 hts gX0_act_X0_trade rfl rfl rfl (by decide +kernel) ⟨Nat.le_of_ble_eq_true rfl, Nat.le_of_ble_eq_true rfl⟩) (g_preV hP hD hK hN (k := z) hz (by decide) rfl rfl rfl rfl) rfl rfl hl.1 rfl (lv_room (Nat.le_of_ble_eq_true rfl)) dX0_act_47 ⟨Nat.le_of_ble_eq_true rfl, Nat.le_of_ble_eq_true rfl⟩) (fun ru6 u6 H locs hu6 hP hD hS => ?_)
        obtain ⟨hru6, hu6⟩ := hu6
        refine lv_istore_n (lv' := [(3, .int ru6), (2, .int (f_X4_firstOrder I w)), (0, .ref (ad z)), (1, .ref (ad w))]) hx hb dX0_act_50 rfl hl (by decide) rfl (fun ls hl => ?_)
        refine lv_iload_n hx hb dX0_act_51 rfl (lv_at hl 0 rfl) ?_
        refine lv_if_eq (tgt := 59) hx hb dX0_act_52 (by decide) (fun c_7 => ?_) (fun c_7 => ?_)
        · skip
          exact g_vret hx hb hr hlocks hP hD hS (by simp only [actM]; rw [if_pos c_1]; simp only [restM]; rw [if_neg c_2, if_pos c_3, if_pos (by rw [← hru6]; exact c_7), hu6]; exact trade_EX hw.2.2.1 hw.2.1 hz hw_) dX0_act_59
        · skip
          refine lv_aload_n hx hb dX0_act_55 rfl (lv_at hl 3 rfl) ?_
          refine g_callM (M := m_X4_dropFirstOrder u6 w ow) hD hS hA (va_runV (As := []) (rest := []) ⟨hx, hb, hml, hown, hts⟩ (c_X4_dropFirstOrder l D cs ad u6 H.size w hw_ ow (by rw [hu6, tradeM_7 hz hw_]; exact how) how24) (cwV 0 hts gX0_act_X4_dropFirstOrder rfl rfl rfl (by decide +kernel) ⟨Nat.le_of_ble_eq_true rfl, Nat.le_of_ble_eq_true rfl⟩) (g_preV hP hD hK hN (k := w) hw_ (by decide) rfl rfl rfl rfl) rfl rfl hl.1 rfl (lv_room (Nat.le_of_ble_eq_true rfl)) dX0_act_56 ⟨Nat.le_of_ble_eq_true rfl, Nat.le_of_ble_eq_true rfl⟩) (fun u8 H locs hu8 hP hD hS => ?_)
          exact g_vret hx hb hr hlocks hP hD hS (by simp only [actM]; rw [if_pos c_1]; simp only [restM]; rw [if_neg c_2, if_pos c_3, if_neg (by rw [← hru6]; exact c_7), hu8]; simp only [dropS]; rw [tradeM_7 hz hw_, how, nI_clamp (by omega), hu6]; exact EX.drop (trade_EX hw.2.2.1 hw.2.1 hz hw_) hz hw_ _) dX0_act_59
    · skip
      refine lv_aload_n hx hb dX0_act_31 rfl (lv_at hl 2 rfl) ?_
      refine lv_aload_n hx hb dX0_act_32 rfl (lv_at hl 3 rfl) ?_
      refine g_callM (M := m_X0_shore I z w) hD hS hA (va_runV (As := [.ref (ad w)]) (rest := []) ⟨hx, hb, hml, hown, hts⟩ (c_X0_shore l D cs ad I H.size z hz w hw_) (cwV 1 hts gX0_act_X0_shore rfl rfl rfl (by decide +kernel) ⟨Nat.le_of_ble_eq_true rfl, Nat.le_of_ble_eq_true rfl⟩) (g_preV hP hD hK hN (k := z) hz (by decide) rfl rfl rfl rfl) rfl rfl hl.1 rfl (lv_room (Nat.le_of_ble_eq_true rfl)) dX0_act_33 ⟨Nat.le_of_ble_eq_true rfl, Nat.le_of_ble_eq_true rfl⟩) (fun u9 H locs hu9 hP hD hS => ?_)
      refine lv_goto (tgt := 51) hx hb dX0_act_36 (by decide) ?_
      refine lv_iload_n hx hb dX0_act_51 rfl (lv_at hl 0 rfl) ?_
      refine lv_if_eq (tgt := 59) hx hb dX0_act_52 (by decide) (fun z => absurd z (by decide)) (fun c_10 => ?_)
      refine lv_aload_n hx hb dX0_act_55 rfl (lv_at hl 3 rfl) ?_
      refine g_callM (M := m_X4_dropFirstOrder u9 w ow) hD hS hA (va_runV (As := []) (rest := []) ⟨hx, hb, hml, hown, hts⟩ (c_X4_dropFirstOrder l D cs ad u9 H.size w hw_ ow (by rw [hu9, shore_7 hz hw_]; exact how) how24) (cwV 0 hts gX0_act_X4_dropFirstOrder rfl rfl rfl (by decide +kernel) ⟨Nat.le_of_ble_eq_true rfl, Nat.le_of_ble_eq_true rfl⟩) (g_preV hP hD hK hN (k := w) hw_ (by decide) rfl rfl rfl rfl) rfl rfl hl.1 rfl (lv_room (Nat.le_of_ble_eq_true rfl)) dX0_act_56 ⟨Nat.le_of_ble_eq_true rfl, Nat.le_of_ble_eq_true rfl⟩) (fun u11 H locs hu11 hP hD hS => ?_)
      exact g_vret hx hb hr hlocks hP hD hS (by simp only [actM]; rw [if_pos c_1]; simp only [restM]; rw [if_pos c_2, hu11]; simp only [dropS]; rw [shore_7 hz hw_, how, nI_clamp (by omega), hu9]; exact EX.drop (shore_EX hw.2.2.1 hz hw_) hz hw_ _) dX0_act_59
  · skip
    refine lv_iload_n hx hb dX0_act_11 rfl (lv_at hl 1 rfl) ?_
    refine lv_iconst (v := nI 4) hx hb dX0_act_12 (by decide) ?_
    refine lv_icmp_ge (tgt := 26) hx hb dX0_act_13 (by decide) (fun c_12 => ?_) (fun c_12 => ?_)
    · skip
      refine lv_iload_n hx hb dX0_act_26 rfl (lv_at hl 1 rfl) ?_
      refine lv_iconst (v := nI 4) hx hb dX0_act_27 (by decide) ?_
      refine lv_icmp_ne (tgt := 39) hx hb dX0_act_28 (by decide) (fun c_13 => ?_) (fun c_13 => ?_)
      · skip
        refine lv_iload_n hx hb dX0_act_39 rfl (lv_at hl 1 rfl) ?_
        refine lv_bipush (v := nI 6) hx hb dX0_act_40 (by decide) ?_
        refine lv_icmp_ne (tgt := 51) hx hb dX0_act_42 (by decide) (fun c_14 => ?_) (fun c_14 => ?_)
        · skip
          refine lv_iload_n hx hb dX0_act_51 rfl (lv_at hl 0 rfl) ?_
          refine lv_if_eq (tgt := 59) hx hb dX0_act_52 (by decide) (fun z => absurd z (by decide)) (fun c_15 => ?_)
          refine lv_aload_n hx hb dX0_act_55 rfl (lv_at hl 3 rfl) ?_
          refine g_callM (M := m_X4_dropFirstOrder I w ow) hD hS hA (va_runV (As := []) (rest := []) ⟨hx, hb, hml, hown, hts⟩ (c_X4_dropFirstOrder l D cs ad I H.size w hw_ ow how how24) (cwV 0 hts gX0_act_X4_dropFirstOrder rfl rfl rfl (by decide +kernel) ⟨Nat.le_of_ble_eq_true rfl, Nat.le_of_ble_eq_true rfl⟩) (g_preV hP hD hK hN (k := w) hw_ (by decide) rfl rfl rfl rfl) rfl rfl hl.1 rfl (lv_room (Nat.le_of_ble_eq_true rfl)) dX0_act_56 ⟨Nat.le_of_ble_eq_true rfl, Nat.le_of_ble_eq_true rfl⟩) (fun u16 H locs hu16 hP hD hS => ?_)
          exact g_vret hx hb hr hlocks hP hD hS (by simp only [actM]; rw [if_neg c_1, if_pos c_12]; simp only [restM]; rw [if_neg c_13, if_neg c_14, hu16]; simp only [dropS]; rw [how, nI_clamp (by omega)]; exact EX.drop ⟨EqX.rf z I, hw.2.2.1⟩ hz hw_ _) dX0_act_59
        · skip
          refine lv_aload_n hx hb dX0_act_45 rfl (lv_at hl 2 rfl) ?_
          refine lv_aload_n hx hb dX0_act_46 rfl (lv_at hl 3 rfl) ?_
          refine g_calli hD hS hA (va_runV (As := [.ref (ad w)]) (rest := []) ⟨hx, hb, hml, hown, hts⟩ (c_X0_trade l D cs ad I H.size z hz w hw_ N hw.1 hw.2.1) (cwV 1 hts gX0_act_X0_trade rfl rfl rfl (by decide +kernel) ⟨Nat.le_of_ble_eq_true rfl, Nat.le_of_ble_eq_true rfl⟩) (g_preV hP hD hK hN (k := z) hz (by decide) rfl rfl rfl rfl) rfl rfl hl.1 rfl (lv_room (Nat.le_of_ble_eq_true rfl)) dX0_act_47 ⟨Nat.le_of_ble_eq_true rfl, Nat.le_of_ble_eq_true rfl⟩) (fun ru17 u17 H locs hu17 hP hD hS => ?_)
          obtain ⟨hru17, hu17⟩ := hu17
          refine lv_istore_n (lv' := [(3, .int ru17), (2, .int (f_X4_firstOrder I w)), (0, .ref (ad z)), (1, .ref (ad w))]) hx hb dX0_act_50 rfl hl (by decide) rfl (fun ls hl => ?_)
          refine lv_iload_n hx hb dX0_act_51 rfl (lv_at hl 0 rfl) ?_
          refine lv_if_eq (tgt := 59) hx hb dX0_act_52 (by decide) (fun c_18 => ?_) (fun c_18 => ?_)
          · skip
            exact g_vret hx hb hr hlocks hP hD hS (by simp only [actM]; rw [if_neg c_1, if_pos c_12]; simp only [restM]; rw [if_neg c_13, if_pos c_14, if_pos (by rw [← hru17]; exact c_18), hu17]; exact trade_EX hw.2.2.1 hw.2.1 hz hw_) dX0_act_59
          · skip
            refine lv_aload_n hx hb dX0_act_55 rfl (lv_at hl 3 rfl) ?_
            refine g_callM (M := m_X4_dropFirstOrder u17 w ow) hD hS hA (va_runV (As := []) (rest := []) ⟨hx, hb, hml, hown, hts⟩ (c_X4_dropFirstOrder l D cs ad u17 H.size w hw_ ow (by rw [hu17, tradeM_7 hz hw_]; exact how) how24) (cwV 0 hts gX0_act_X4_dropFirstOrder rfl rfl rfl (by decide +kernel) ⟨Nat.le_of_ble_eq_true rfl, Nat.le_of_ble_eq_true rfl⟩) (g_preV hP hD hK hN (k := w) hw_ (by decide) rfl rfl rfl rfl) rfl rfl hl.1 rfl (lv_room (Nat.le_of_ble_eq_true rfl)) dX0_act_56 ⟨Nat.le_of_ble_eq_true rfl, Nat.le_of_ble_eq_true rfl⟩) (fun u19 H locs hu19 hP hD hS => ?_)
            exact g_vret hx hb hr hlocks hP hD hS (by simp only [actM]; rw [if_neg c_1, if_pos c_12]; simp only [restM]; rw [if_neg c_13, if_pos c_14, if_neg (by rw [← hru17]; exact c_18), hu19]; simp only [dropS]; rw [tradeM_7 hz hw_, how, nI_clamp (by omega), hu17]; exact EX.drop (trade_EX hw.2.2.1 hw.2.1 hz hw_) hz hw_ _) dX0_act_59
      · skip
        refine lv_aload_n hx hb dX0_act_31 rfl (lv_at hl 2 rfl) ?_
        refine lv_aload_n hx hb dX0_act_32 rfl (lv_at hl 3 rfl) ?_
        refine g_callM (M := m_X0_shore I z w) hD hS hA (va_runV (As := [.ref (ad w)]) (rest := []) ⟨hx, hb, hml, hown, hts⟩ (c_X0_shore l D cs ad I H.size z hz w hw_) (cwV 1 hts gX0_act_X0_shore rfl rfl rfl (by decide +kernel) ⟨Nat.le_of_ble_eq_true rfl, Nat.le_of_ble_eq_true rfl⟩) (g_preV hP hD hK hN (k := z) hz (by decide) rfl rfl rfl rfl) rfl rfl hl.1 rfl (lv_room (Nat.le_of_ble_eq_true rfl)) dX0_act_33 ⟨Nat.le_of_ble_eq_true rfl, Nat.le_of_ble_eq_true rfl⟩) (fun u20 H locs hu20 hP hD hS => ?_)
        refine lv_goto (tgt := 51) hx hb dX0_act_36 (by decide) ?_
        refine lv_iload_n hx hb dX0_act_51 rfl (lv_at hl 0 rfl) ?_
        refine lv_if_eq (tgt := 59) hx hb dX0_act_52 (by decide) (fun z => absurd z (by decide)) (fun c_21 => ?_)
        refine lv_aload_n hx hb dX0_act_55 rfl (lv_at hl 3 rfl) ?_
        refine g_callM (M := m_X4_dropFirstOrder u20 w ow) hD hS hA (va_runV (As := []) (rest := []) ⟨hx, hb, hml, hown, hts⟩ (c_X4_dropFirstOrder l D cs ad u20 H.size w hw_ ow (by rw [hu20, shore_7 hz hw_]; exact how) how24) (cwV 0 hts gX0_act_X4_dropFirstOrder rfl rfl rfl (by decide +kernel) ⟨Nat.le_of_ble_eq_true rfl, Nat.le_of_ble_eq_true rfl⟩) (g_preV hP hD hK hN (k := w) hw_ (by decide) rfl rfl rfl rfl) rfl rfl hl.1 rfl (lv_room (Nat.le_of_ble_eq_true rfl)) dX0_act_56 ⟨Nat.le_of_ble_eq_true rfl, Nat.le_of_ble_eq_true rfl⟩) (fun u22 H locs hu22 hP hD hS => ?_)
        exact g_vret hx hb hr hlocks hP hD hS (by simp only [actM]; rw [if_neg c_1, if_pos c_12]; simp only [restM]; rw [if_pos c_13, hu22]; simp only [dropS]; rw [shore_7 hz hw_, how, nI_clamp (by omega), hu20]; exact EX.drop (shore_EX hw.2.2.1 hz hw_) hz hw_ _) dX0_act_59
    · skip
      refine lv_aload_n hx hb dX0_act_16 rfl (lv_at hl 2 rfl) ?_
      refine lv_aload_n hx hb dX0_act_17 rfl (lv_at hl 3 rfl) ?_
      refine lv_iload_n hx hb dX0_act_18 rfl (lv_at hl 1 rfl) ?_
      refine g_calli hD hS hA (va_runV (As := [.ref (ad w), .int (f_X4_firstOrder I w)]) (rest := []) ⟨hx, hb, hml, hown, hts⟩ (c_X0_step l D cs ad I H.size z hz w hw_ (f_X4_firstOrder I w) N hw pw hpw hpw2) (cwV 2 hts gX0_act_X0_step rfl rfl rfl (by decide +kernel) ⟨Nat.le_of_ble_eq_true rfl, Nat.le_of_ble_eq_true rfl⟩) (g_preV hP hD hK hN (k := z) hz (by decide) rfl rfl rfl rfl) rfl rfl hl.1 rfl (lv_room (Nat.le_of_ble_eq_true rfl)) dX0_act_19 ⟨Nat.le_of_ble_eq_true rfl, Nat.le_of_ble_eq_true rfl⟩) (fun ru23 u23 H locs hu23 hP hD hS => ?_)
      obtain ⟨hru23, hu23⟩ := hu23
      refine lv_istore_n (lv' := [(3, .int ru23), (2, .int (f_X4_firstOrder I w)), (0, .ref (ad z)), (1, .ref (ad w))]) hx hb dX0_act_22 rfl hl (by decide) rfl (fun ls hl => ?_)
      refine lv_goto (tgt := 51) hx hb dX0_act_23 (by decide) ?_
      refine lv_iload_n hx hb dX0_act_51 rfl (lv_at hl 0 rfl) ?_
      refine lv_if_eq (tgt := 59) hx hb dX0_act_52 (by decide) (fun c_24 => ?_) (fun c_24 => ?_)
      · skip
        exact g_vret hx hb hr hlocks hP hD hS (by simp only [actM]; rw [if_neg c_1, if_neg c_12, if_pos (by rw [← hru23]; exact c_24)]; exact hu23) dX0_act_59
      · skip
        refine lv_aload_n hx hb dX0_act_55 rfl (lv_at hl 3 rfl) ?_
        refine g_callM (M := m_X4_dropFirstOrder u23 w ow) hD hS hA (va_runV (As := []) (rest := []) ⟨hx, hb, hml, hown, hts⟩ (c_X4_dropFirstOrder l D cs ad u23 H.size w hw_ ow (by rw [hu23.1 w (w_ne hz hw_).1 (w_ne hz hw_).2.1 (w_ne hz hw_).2.2, stepM_7 hz hw_]; exact how) how24) (cwV 0 hts gX0_act_X4_dropFirstOrder rfl rfl rfl (by decide +kernel) ⟨Nat.le_of_ble_eq_true rfl, Nat.le_of_ble_eq_true rfl⟩) (g_preV hP hD hK hN (k := w) hw_ (by decide) rfl rfl rfl rfl) rfl rfl hl.1 rfl (lv_room (Nat.le_of_ble_eq_true rfl)) dX0_act_56 ⟨Nat.le_of_ble_eq_true rfl, Nat.le_of_ble_eq_true rfl⟩) (fun u25 H locs hu25 hP hD hS => ?_)
        exact g_vret hx hb hr hlocks hP hD hS (by simp only [actM]; rw [if_neg c_1, if_neg c_12, if_neg (by rw [← hru23]; exact c_24), hu25]; simp only [dropS]; rw [stepM_7 hz hw_, how, nI_clamp (by omega)]; exact EX.drop hu23 hz hw_ _) dX0_act_59
