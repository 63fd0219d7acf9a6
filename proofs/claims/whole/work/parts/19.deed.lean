def RX (z : Nat) (u : Mm) : Prop := ∃ n q, RQ u (z + 5) n q
def EX (z : Nat) (u v : Mm) : Prop := EqX z u v ∧ RX z u
theorem RX.eq {z : Nat} {u v : Mm} (h : RX z u) (h0 : v (z + 5) 2 = u (z + 5) 2) (h1 : v (z + 5 + 1) = u (z + 5 + 1)) (h2 : v (z + 5 + 2) = u (z + 5 + 2)) : RX z v := by
  obtain ⟨n, q, hR⟩ := h
  exact ⟨n, q, hR.eq h0 h1 h2⟩
theorem EX.wr {z : Nat} {u v : Mm} (h : EX z u v) (k j : Nat) (x : Int32) (hk : k ≠ z + 5 ∧ k ≠ z + 5 + 1 ∧ k ≠ z + 5 + 2) : EX z (wr u k j x) (wr v k j x) :=
  ⟨h.1.wr k j x hk, h.2.eq (by rw [wr_n _ _ _ (Ne.symm hk.1)]) (wr_n _ _ _ (Ne.symm hk.2.1)) (wr_n _ _ _ (Ne.symm hk.2.2))⟩
theorem EqX.put {z : Nat} {u v : Mm} (h : EqX z u v) (a b : Int32) : EqX z (m_X3_put u (z + 1) a b) (m_X3_put v (z + 1) a b) := by
  simp only [m_X3_put]
  repeat' split
  · exact h
  · exact h
  · exact ((h.wr _ _ _ (by omega)).wr _ _ _ (by omega)).wr _ _ _ (by omega)
theorem EX.put {z : Nat} {u v : Mm} (h : EX z u v) (a b : Int32) : EX z (m_X3_put u (z + 1) a b) (m_X3_put v (z + 1) a b) :=
  ⟨h.1.put a b, h.2.eq (by rw [put_o (by omega)]) (put_o (by omega)) (put_o (by omega))⟩
theorem EqX.sB {z : Nat} {u v : Mm} (h : EqX z u v) (a b : Int32) (n : Nat) (hn : n ≤ 8) : EqX z (sB u z a b n) (sB v z a b n) := by
  intro k h1 h2 h3
  simp only [_root_.Jvm.Pilot.CSnowMazeLaw_law_r9786_1e919e.sB]
  rw [h k h1 h2 h3]
theorem EX.sB {z : Nat} {u v : Mm} (h : EX z u v) (a b : Int32) (n : Nat) (hn : n ≤ 8) : EX z (sB u z a b n) (sB v z a b n) :=
  ⟨h.1.sB a b n hn, h.2.eq (by rw [sB_o (by omega)]) (sB_o (by omega)) (sB_o (by omega))⟩
theorem w_ne {z w : Nat} (hz : kC.getD z 0 = 2) (hw : kC.getD w 0 = 6) : w ≠ z + 5 ∧ w ≠ z + 5 + 1 ∧ w ≠ z + 5 + 2 := by
  refine ⟨fun e => ?_, fun e => ?_, fun e => ?_⟩
  · rw [e, kd_2_1 hz] at hw; cases hw
  · rw [e, kd_4_0 (kd_2_1 hz)] at hw; cases hw
  · rw [e, kd_4_1 (kd_2_1 hz)] at hw; cases hw
theorem EqX.z {z : Nat} {u v : Mm} (h : EqX z u v) : u z = v z := h z (by omega) (by omega) (by omega)
theorem EqX.s {z : Nat} {u v : Mm} (h : EqX z u v) (j : Nat) (hj : j < 4) : u (z + 1 + j) = v (z + 1 + j) := h _ (by omega) (by omega) (by omega)
theorem opn_eq {z : Nat} {u v : Mm} (h : EqX z u v) : opn u z = opn v z := by
  funext c
  rw [opn, opn, h.s 1 (by decide)]
theorem srL_eq {z N : Nat} {u v : Mm} (h : EqX z u v) : srL u z N = srL v z N := by
  funext c
  simp only [srL, vT h]
theorem srH_eq {z N : Nat} {u v : Mm} (h : EqX z u v) : srH u z N = srH v z N := by
  funext c
  simp only [srH, h.s 3 (by decide)]
theorem sort_eq {z : Nat} {u v : Mm} (h : EqX z u v) (a : Int32) : f_X3_sortAt u (z + 1) a = f_X3_sortAt v (z + 1) a := by
  simp only [f_X3_sortAt, h.s 1 (by decide)]
theorem isOpen_eq {z : Nat} {u v : Mm} (h : EqX z u v) (a : Int32) : f_X3_isOpen u (z + 1) a = f_X3_isOpen v (z + 1) a := by
  simp only [f_X3_isOpen, h.s 1 (by decide)]
theorem posts_eq {z : Nat} {u v : Mm} (h : EqX z u v) (a : Int32) : f_X3_postsAt u (z + 1) a = f_X3_postsAt v (z + 1) a := by
  simp only [f_X3_postsAt, h.s 3 (by decide)]
theorem ages_eq {z : Nat} {u v : Mm} (h : EqX z u v) (a : Int32) : f_X3_ageAt u (z + 1) a = f_X3_ageAt v (z + 1) a := by
  simp only [f_X3_ageAt, h.s 2 (by decide)]
/-- lit: an open cell, by its place -/
def lit (I : Mm) (z N : Nat) (a : Int32) : Prop := rch (opn I z) (srL I z N) 3 a.toNatClampNeg
theorem lit_eq {z N : Nat} {u v : Mm} (h : EqX z u v) (a : Int32) : lit u z N a = lit v z N a := by
  rw [lit, lit, opn_eq h, srL_eq h]
noncomputable def stepR (I : Mm) (z w N : Nat) (d : Int32) : Int32 :=
  if f_X3_sortAt I (z + 1) (f_X5_beside (I w 0) d) = nI 10 then nI 1
  else if f_X3_sortAt I (z + 1) (f_X5_beside (I w 0) d) ≤ 0 then nI 1
  else if cd (lit I z N (I w 0)) = true then (if f_X3_sortAt I (z + 1) (f_X5_beside (I w 0) d) ≤ nI 1 then nI 1 else nI 0) else nI 0
/-- a cell that is dug open -/
def dug (P : Mm) (z w N : Nat) (a : Int32) : Mm := wr (sB (wr P w 5 (P w 5 + nI 1)) z a (nI 0) N) w 0 a
noncomputable def stepM (I : Mm) (z w N : Nat) (d : Int32) : Mm :=
  if f_X3_sortAt I (z + 1) (f_X5_beside (I w 0) d) = nI 10 then I
  else if f_X3_sortAt I (z + 1) (f_X5_beside (I w 0) d) ≤ 0 then wr I w 0 (f_X5_beside (I w 0) d)
  else if cd (lit I z N (I w 0)) = true then
    (if f_X3_sortAt I (z + 1) (f_X5_beside (I w 0) d) ≤ nI 1 then dug (m_X3_put I (z + 1) (f_X5_beside (I w 0) d) (f_X3_sortAt I (z + 1) (f_X5_beside (I w 0) d) - nI 1)) z w N (f_X5_beside (I w 0) d)
     else m_X3_put I (z + 1) (f_X5_beside (I w 0) d) (f_X3_sortAt I (z + 1) (f_X5_beside (I w 0) d) - nI 1))
  else I
theorem EX.dug {z w N : Nat} {u v : Mm} (h : EX z u v) (hz : kC.getD z 0 = 2) (hw : kC.getD w 0 = 6) (hN : N ≤ 8) (a : Int32) : EX z (dug u z w N a) (dug v z w N a) := by
  have hn := w_ne hz hw
  simp only [_root_.Jvm.Pilot.CSnowMazeLaw_law_r9786_1e919e.dug]
  rw [h.1 w hn.1 hn.2.1 hn.2.2]
  exact ((h.wr _ _ _ hn).sB _ _ _ hN).wr _ _ _ hn
theorem stepR_01 (I : Mm) (z w N : Nat) (d : Int32) : stepR I z w N d = 0 ∨ stepR I z w N d = 1 := by
  unfold stepR
  repeat' split
  all_goals first | exact Or.inl rfl | exact Or.inr rfl

theorem lit_h {I u : Mm} {z N p : Nat} {a : Int32} (h : LtP I z N u) (hp : p < 256) (ha : a = nI p) : (f_X1_holds u (z + 5) a = 0 → ¬ lit I z N a) ∧ (¬ f_X1_holds u (z + 5) a = 0 → lit I z N a) := by
  subst ha
  have e : (nI p).toNatClampNeg = p := nI_clamp (by omega)
  rw [holds_in hp, lit, e]
  refine ⟨fun y y2 => of_decide_eq_false (bi_eq y) ((h.2.2 p hp).mpr y2), fun y => (h.2.2 p hp).mp (of_decide_eq_true (bi_ne y))⟩

theorem z_ne {z w : Nat} (hz : kC.getD z 0 = 2) (hw : kC.getD w 0 = 6) : z ≠ w := fun e => by rw [e, hw] at hz; cases hz

set_option maxHeartbeats 4000000 in
set_option maxRecDepth 100000 in
theorem c_X0_step (l : Launch) (D : va_G) (cs : Nat → ClassId) (ad : Nat → Nat) (I : Mm) (sz : Nat) (z : Nat) (hz : kC.getD z 0 = 2) (w : Nat) (hw_ : kC.getD w 0 = 6) (d : Int32) (N : Nat) (hw : WZ I z N) (pw : Nat) (hpw : pw < 256) (hpw2 : I w 0 = nI pw) : MetI l yX0_step wsX0_step ({ frames := 3, cells := 0, slots := 0, locals := 70 }) kC cs D ad I sz [.ref (ad z), .ref (ad w), .int d] (fun r u => r = stepR I z w N d ∧ EX z u (stepM I z w N d)) 0 0 := by
  refine g_met (cc := cX0_step) (maxL := 5) (ret := (some .boolean)) (by decide) rfl (Nat.le_of_ble_eq_true rfl) ?_
  intro pg e s m args below meth c ls hx hb hr hml hts hown hlocks hsz hP hD hK hN hS hA hl
  have hown : s.vm.findClass RX0 = some m.cls := hown
  have hl : lv_has ls 5 [(0, .ref (ad z)), (1, .ref (ad w)), (2, .int d)] := hl
  refine lv_aload_n hx hb dX0_step_0 rfl (lv_at hl 1 rfl) ?_
  refine g_getN (κ := 6) (ci := 4) (v := .int (I w 0)) (C := RX4) (T := TX4) (N := 8) hx hb hts hown hK hP (k := w) hw_ (by decide) rfl (fun _ h => List.mem_cons_of_mem _ (List.mem_append_left _ (List.mem_append_left _ (List.mem_append_left _ (List.mem_append_right _ h))))) rfl 0 (by decide) (nwu2 hN) (fun _ h9 => h9) rfl dX0_step_1 ?_
  refine lv_iload_n hx hb dX0_step_4 rfl (lv_at hl 2 rfl) ?_
  refine g_callF (F := f_X5_beside (I w 0) d) hD hS hA (va_runSN (As := [.int (I w 0), .int d]) (rest := []) ⟨hx, hb, hml, hown, hts⟩ (c_X5_beside l D cs ad I s.heap.size (I w 0) d) ⟨va_cnB 2 hts gX0_step_X5_beside_n100 rfl rfl rfl (nwv23 hN) (hts _ (List.mem_of_getElem? (i := 4) rfl)) (by decide +kernel) ⟨Nat.le_of_ble_eq_true rfl, Nat.le_of_ble_eq_true rfl⟩, (hts _ (List.mem_of_getElem? (i := 3) rfl)), trivial⟩ (g_preS hP hD hK hN) rfl rfl hl.1 rfl (lv_room (Nat.le_of_ble_eq_true rfl)) dX0_step_5 ⟨Nat.le_of_ble_eq_true rfl, Nat.le_of_ble_eq_true rfl⟩) (fun H locs hP hD hS => ?_)
  refine lv_istore_n (lv' := [(3, .int (f_X5_beside (I w 0) d)), (0, .ref (ad z)), (1, .ref (ad w)), (2, .int d)]) hx hb dX0_step_8 rfl hl (by decide) rfl (fun ls hl => ?_)
  refine lv_aload_n hx hb dX0_step_9 rfl (lv_at hl 1 rfl) ?_
  refine g_get (κ := 2) (ci := 0) (v := .ref (ad (z + 1))) (C := RX0) (T := TX0) (N := 7) hx hb hts hown hK hP (k := z) hz (by decide) rfl (fun _ h => List.mem_cons_of_mem _ (List.mem_append_left _ (List.mem_append_left _ (List.mem_append_right _ h)))) rfl 0 (by decide) (hts _ (List.mem_of_getElem? (i := 1) rfl)) (fun _ h9 => h9) rfl dX0_step_10 ?_
  refine lv_iload_n hx hb dX0_step_13 rfl (lv_at hl 0 rfl) ?_
  refine g_callF (F := f_X3_sortAt I (z + 1) (f_X5_beside (I w 0) d)) hD hS hA (va_runV (As := [.int (f_X5_beside (I w 0) d)]) (rest := []) ⟨hx, hb, hml, hown, hts⟩ (c_X3_sortAt l D cs ad I H.size (z + 1) (kd_2_0 hz) (f_X5_beside (I w 0) d)) (cwV 1 hts gX0_step_X3_sortAt rfl rfl rfl (by decide +kernel) ⟨Nat.le_of_ble_eq_true rfl, Nat.le_of_ble_eq_true rfl⟩) (g_preV hP hD hK hN (k := (z + 1)) (kd_2_0 hz) (by decide) rfl rfl rfl rfl) rfl rfl hl.1 rfl (lv_room (Nat.le_of_ble_eq_true rfl)) dX0_step_14 ⟨Nat.le_of_ble_eq_true rfl, Nat.le_of_ble_eq_true rfl⟩) (fun H locs hP hD hS => ?_)
  refine lv_istore (lv' := [(4, .int (f_X3_sortAt I (z + 1) (f_X5_beside (I w 0) d))), (3, .int (f_X5_beside (I w 0) d)), (0, .ref (ad z)), (1, .ref (ad w)), (2, .int d)]) hx hb dX0_step_17 hl (by decide) rfl (fun ls hl => ?_)
  refine lv_iload hx hb dX0_step_19 (lv_at hl 0 rfl) ?_
  refine lv_bipush (v := nI 10) hx hb dX0_step_21 (by decide) ?_
  refine lv_icmp_ne (tgt := 28) hx hb dX0_step_23 (by decide) (fun c_1 => ?_) (fun c_1 => ?_)
  · skip
    refine lv_iload hx hb dX0_step_28 (lv_at hl 0 rfl) ?_
    refine lv_if_le (tgt := 89) hx hb dX0_step_30 (by decide) (fun c_2 => ?_) (fun c_2 => ?_)
    · skip
      refine lv_aload_n hx hb dX0_step_89 rfl (lv_at hl 3 rfl) ?_
      refine lv_iload_n hx hb dX0_step_90 rfl (lv_at hl 1 rfl) ?_
      refine g_putN (κ := 6) (ci := 4) (v := f_X5_beside (I w 0) d) (ty := .int) (C := RX4) (T := TX4) (N := 8) hx hb hts hown hK hP hD hS (k := w) hw_ (by decide) rfl (fun _ h => List.mem_cons_of_mem _ (List.mem_append_left _ (List.mem_append_left _ (List.mem_append_left _ (List.mem_append_right _ h))))) tyX4 tyX4_ok nmX4 rfl 0 (by decide) (nwu2 hN) (fun _ h9 => h9) rfl (by decide +kernel) rfl rfl (Nat.le_of_ble_eq_true rfl) rfl dX0_step_91 (fun u3 H locs hu3 hP hD hS => ?_)
      refine lv_iconst (v := nI 1) hx hb dX0_step_94 (by decide) ?_
      exact g_iret (v := nI 1) hx hb hr hlocks rfl hP hD hS ⟨by simp only [stepR]; rw [if_neg c_1, if_pos c_2], by simp only [stepM]; rw [if_neg c_1, if_pos c_2, hu3]; exact EX.wr ⟨EqX.rf z I, hw.2.2.1⟩ _ _ _ (w_ne hz hw_)⟩ dX0_step_95
    · skip
      refine lv_aload_n hx hb dX0_step_33 rfl (lv_at hl 2 rfl) ?_
      refine g_callv hD hS hA (va_runV (As := []) (rest := []) ⟨hx, hb, hml, hown, hts⟩ (c_X0_findLight l D cs ad I H.size z hz N hw) (cwV 0 hts gX0_step_X0_findLight rfl rfl rfl (by decide +kernel) ⟨Nat.le_of_ble_eq_true rfl, Nat.le_of_ble_eq_true rfl⟩) (g_preV hP hD hK hN (k := z) hz (by decide) rfl rfl rfl rfl) rfl rfl hl.1 rfl (lv_room (Nat.le_of_ble_eq_true rfl)) dX0_step_34 ⟨Nat.le_of_ble_eq_true rfl, Nat.le_of_ble_eq_true rfl⟩) (fun u4 H locs hu4 hP hD hS => ?_)
      have hlit := lit_h hu4 hpw hpw2
      refine lv_aload_n hx hb dX0_step_37 rfl (lv_at hl 2 rfl) ?_
      refine g_get (κ := 2) (ci := 0) (v := .ref (ad (z + 5))) (C := RX0) (T := TX0) (N := 7) hx hb hts hown hK hP (k := z) hz (by decide) rfl (fun _ h => List.mem_cons_of_mem _ (List.mem_append_left _ (List.mem_append_left _ (List.mem_append_right _ h)))) rfl 1 (by decide) (hts _ (List.mem_of_getElem? (i := 2) rfl)) (fun _ h9 => h9) rfl dX0_step_38 ?_
      refine lv_aload_n hx hb dX0_step_41 rfl (lv_at hl 3 rfl) ?_
      refine g_getN (κ := 6) (ci := 4) (v := .int (u4 w 0)) (C := RX4) (T := TX4) (N := 8) hx hb hts hown hK hP (k := w) hw_ (by decide) rfl (fun _ h => List.mem_cons_of_mem _ (List.mem_append_left _ (List.mem_append_left _ (List.mem_append_left _ (List.mem_append_right _ h))))) rfl 0 (by decide) (nwu2 hN) (fun _ h9 => h9) rfl dX0_step_42 ?_
      rw [show u4 w 0 = I w 0 from (by rw [hu4.1 w (w_ne hz hw_).1 (w_ne hz hw_).2.1 (w_ne hz hw_).2.2])]
      refine g_callF (F := f_X1_holds u4 (z + 5) (I w 0)) hD hS hA (va_runV (As := [.int (I w 0)]) (rest := []) ⟨hx, hb, hml, hown, hts⟩ (c_X1_holds l D cs ad u4 H.size (z + 5) (kd_2_1 hz) (I w 0)) (cwV 1 hts gX0_step_X1_holds rfl rfl rfl (by decide +kernel) ⟨Nat.le_of_ble_eq_true rfl, Nat.le_of_ble_eq_true rfl⟩) (g_preV hP hD hK hN (k := (z + 5)) (kd_2_1 hz) (by decide) rfl rfl rfl rfl) rfl rfl hl.1 rfl (lv_room (Nat.le_of_ble_eq_true rfl)) dX0_step_45 ⟨Nat.le_of_ble_eq_true rfl, Nat.le_of_ble_eq_true rfl⟩) (fun H locs hP hD hS => ?_)
      refine lv_if_ne (tgt := 53) hx hb dX0_step_48 (by decide) (fun c_5 => ?_) (fun c_5 => ?_)
      · skip
        refine lv_aload_n hx hb dX0_step_53 rfl (lv_at hl 2 rfl) ?_
        refine g_get (κ := 2) (ci := 0) (v := .ref (ad (z + 1))) (C := RX0) (T := TX0) (N := 7) hx hb hts hown hK hP (k := z) hz (by decide) rfl (fun _ h => List.mem_cons_of_mem _ (List.mem_append_left _ (List.mem_append_left _ (List.mem_append_right _ h)))) rfl 0 (by decide) (hts _ (List.mem_of_getElem? (i := 1) rfl)) (fun _ h9 => h9) rfl dX0_step_54 ?_
        refine lv_iload_n hx hb dX0_step_57 rfl (lv_at hl 1 rfl) ?_
        refine lv_iload hx hb dX0_step_58 (lv_at hl 0 rfl) ?_
        refine lv_iconst (v := nI 1) hx hb dX0_step_60 (by decide) ?_
        refine lv_isub hx hb dX0_step_61 ?_
        refine g_callM (M := m_X3_put u4 (z + 1) (f_X5_beside (I w 0) d) ((f_X3_sortAt I (z + 1) (f_X5_beside (I w 0) d)) - (nI 1))) hD hS hA (va_runV (As := [.int (f_X5_beside (I w 0) d), .int ((f_X3_sortAt I (z + 1) (f_X5_beside (I w 0) d)) - (nI 1))]) (rest := []) ⟨hx, hb, hml, hown, hts⟩ (c_X3_put l D cs ad u4 H.size (z + 1) (kd_2_0 hz) (f_X5_beside (I w 0) d) ((f_X3_sortAt I (z + 1) (f_X5_beside (I w 0) d)) - (nI 1))) (cwV 2 hts gX0_step_X3_put rfl rfl rfl (by decide +kernel) ⟨Nat.le_of_ble_eq_true rfl, Nat.le_of_ble_eq_true rfl⟩) (g_preV hP hD hK hN (k := (z + 1)) (kd_2_0 hz) (by decide) rfl rfl rfl rfl) rfl rfl hl.1 rfl (lv_room (Nat.le_of_ble_eq_true rfl)) dX0_step_62 ⟨Nat.le_of_ble_eq_true rfl, Nat.le_of_ble_eq_true rfl⟩) (fun u6 H locs hu6 hP hD hS => ?_)
        refine lv_iload hx hb dX0_step_65 (lv_at hl 0 rfl) ?_
        refine lv_iconst (v := nI 1) hx hb dX0_step_67 (by decide) ?_
        refine lv_icmp_le (tgt := 73) hx hb dX0_step_68 (by decide) (fun c_7 => ?_) (fun c_7 => ?_)
        · skip
          refine lv_aload_n hx hb dX0_step_73 rfl (lv_at hl 3 rfl) ?_
          refine lv_dup hx hb dX0_step_74 rfl ?_
          refine g_getN (κ := 6) (ci := 4) (v := .int (u6 w 5)) (C := RX4) (T := TX4) (N := 8) hx hb hts hown hK hP (k := w) hw_ (by decide) rfl (fun _ h => List.mem_cons_of_mem _ (List.mem_append_left _ (List.mem_append_left _ (List.mem_append_left _ (List.mem_append_right _ h))))) rfl 5 (by decide) (nwu12 hN) (fun _ h9 => h9) rfl dX0_step_75 ?_
          refine lv_iconst (v := nI 1) hx hb dX0_step_78 (by decide) ?_
          refine lv_iadd hx hb dX0_step_79 ?_
          refine g_putN (κ := 6) (ci := 4) (v := (u6 w 5) + (nI 1)) (ty := .int) (C := RX4) (T := TX4) (N := 8) hx hb hts hown hK hP hD hS (k := w) hw_ (by decide) rfl (fun _ h => List.mem_cons_of_mem _ (List.mem_append_left _ (List.mem_append_left _ (List.mem_append_left _ (List.mem_append_right _ h))))) tyX4 tyX4_ok nmX4 rfl 5 (by decide) (nwu12 hN) (fun _ h9 => h9) rfl (by decide +kernel) rfl rfl (Nat.le_of_ble_eq_true rfl) rfl dX0_step_80 (fun u8 H locs hu8 hP hD hS => ?_)
          refine lv_aload_n hx hb dX0_step_83 rfl (lv_at hl 2 rfl) ?_
          refine lv_iload_n hx hb dX0_step_84 rfl (lv_at hl 1 rfl) ?_
          refine lv_iconst (v := nI 0) hx hb dX0_step_85 (by decide) ?_
          refine g_callM (M := sB u8 z (f_X5_beside (I w 0) d) (nI 0) N) hD hS hA (va_runV (As := [.int (f_X5_beside (I w 0) d), .int (nI 0)]) (rest := []) ⟨hx, hb, hml, hown, hts⟩ (c_X0_setBuriedAt l D cs ad u8 H.size z hz (f_X5_beside (I w 0) d) (nI 0) (by decide) N (by rw [hu8, wr_n _ _ _ (z_ne hz hw_), hu6, put_o (by omega), hu4.1.z]; exact hw.1) hw.2.1) (cwV 2 hts gX0_step_X0_setBuriedAt rfl rfl rfl (by decide +kernel) ⟨Nat.le_of_ble_eq_true rfl, Nat.le_of_ble_eq_true rfl⟩) (g_preV hP hD hK hN (k := z) hz (by decide) rfl rfl rfl rfl) rfl rfl hl.1 rfl (lv_room (Nat.le_of_ble_eq_true rfl)) dX0_step_86 ⟨Nat.le_of_ble_eq_true rfl, Nat.le_of_ble_eq_true rfl⟩) (fun u9 H locs hu9 hP hD hS => ?_)
          refine lv_aload_n hx hb dX0_step_89 rfl (lv_at hl 3 rfl) ?_
          refine lv_iload_n hx hb dX0_step_90 rfl (lv_at hl 1 rfl) ?_
          refine g_putN (κ := 6) (ci := 4) (v := f_X5_beside (I w 0) d) (ty := .int) (C := RX4) (T := TX4) (N := 8) hx hb hts hown hK hP hD hS (k := w) hw_ (by decide) rfl (fun _ h => List.mem_cons_of_mem _ (List.mem_append_left _ (List.mem_append_left _ (List.mem_append_left _ (List.mem_append_right _ h))))) tyX4 tyX4_ok nmX4 rfl 0 (by decide) (nwu2 hN) (fun _ h9 => h9) rfl (by decide +kernel) rfl rfl (Nat.le_of_ble_eq_true rfl) rfl dX0_step_91 (fun u10 H locs hu10 hP hD hS => ?_)
          refine lv_iconst (v := nI 1) hx hb dX0_step_94 (by decide) ?_
          exact g_iret (v := nI 1) hx hb hr hlocks rfl hP hD hS ⟨by simp only [stepR]; rw [if_neg c_1, if_neg c_2, if_pos (cd_t (hlit.2 c_5)), if_pos c_7], by simp only [stepM]; rw [if_neg c_1, if_neg c_2, if_pos (cd_t (hlit.2 c_5)), if_pos c_7]; rw [hu10, hu9, hu8]; exact EX.dug (by rw [hu6]; exact EX.put ⟨hu4.1, hu4.2.1⟩ _ _) hz hw_ hw.2.1 _⟩ dX0_step_95
        · skip
          refine lv_iconst (v := nI 0) hx hb dX0_step_71 (by decide) ?_
          exact g_iret (v := nI 0) hx hb hr hlocks rfl hP hD hS ⟨by simp only [stepR]; rw [if_neg c_1, if_neg c_2, if_pos (cd_t (hlit.2 c_5)), if_neg c_7], by simp only [stepM]; rw [if_neg c_1, if_neg c_2, if_pos (cd_t (hlit.2 c_5)), if_neg c_7, hu6]; exact EX.put ⟨hu4.1, hu4.2.1⟩ _ _⟩ dX0_step_72
      · skip
        refine lv_iconst (v := nI 0) hx hb dX0_step_51 (by decide) ?_
        exact g_iret (v := nI 0) hx hb hr hlocks rfl hP hD hS ⟨by simp only [stepR]; rw [if_neg c_1, if_neg c_2, if_neg (fun y => hlit.1 c_5 (cd_i.mp y))], by simp only [stepM]; rw [if_neg c_1, if_neg c_2, if_neg (fun y => hlit.1 c_5 (cd_i.mp y))]; exact ⟨hu4.1, hu4.2.1⟩⟩ dX0_step_52
  · skip
    refine lv_iconst (v := nI 1) hx hb dX0_step_26 (by decide) ?_
    exact g_iret (v := nI 1) hx hb hr hlocks rfl hP hD hS ⟨by simp only [stepR]; rw [if_pos c_1], by simp only [stepM]; rw [if_pos c_1]; exact ⟨EqX.rf z I, hw.2.2.1⟩⟩ dX0_step_27
