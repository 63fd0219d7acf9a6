theorem fO_eq {u v : Mm} {w : Nat} (h1 : u w = v w) (h2 : u (w + 8) = v (w + 8)) : f_X4_firstOrder u w = f_X4_firstOrder v w := by
  simp only [f_X4_firstOrder, h1, h2]
theorem stepR_eq {z w N : Nat} {u v : Mm} (h : EqX z u v) (hr : u w = v w) (d : Int32) : stepR u z w N d = stepR v z w N d := by
  simp only [stepR, hr, sort_eq h, lit_eq h]
theorem EX.step {z w N : Nat} {u v : Mm} (h : EX z u v) (hz : kC.getD z 0 = 2) (hw : kC.getD w 0 = 6) (hN : N ≤ 8) (d : Int32) : EX z (stepM u z w N d) (stepM v z w N d) := by
  have hn := w_ne hz hw
  have hr := h.1 w hn.1 hn.2.1 hn.2.2
  simp only [stepM, hr, sort_eq h.1, lit_eq h.1]
  repeat' split
  · exact h
  · exact h.wr _ _ _ hn
  · exact (h.put _ _).dug hz hw hN _
  · exact h.put _ _
  · exact h
theorem pO_eq {z w N : Nat} {u v : Mm} (h : EqX z u v) (hr : u w = v w) : pO u z w N = pO v z w N := by
  have e : pP u z w = pP v z w := by
    funext i
    simp only [pP, vT h, hr]
  rw [pO, pO, e]
theorem tradeR_eq {z w N : Nat} {u v : Mm} (h : EqX z u v) (hr : u w = v w) : tradeR u z w N = tradeR v z w N := by
  simp only [tradeR, pO_eq h hr]
theorem EX.hand {z g1 g2 : Nat} {u v : Mm} (h : EX z u v) (hz : kC.getD z 0 = 2) (h1 : kC.getD g1 0 = 6) (h2 : kC.getD g2 0 = 6) : EX z (m_X0_handLamp u z g1 g2) (m_X0_handLamp v z g1 g2) := by
  have n1 := w_ne hz h1
  have n2 := w_ne hz h2
  have a1 : EX z (_root_.Jvm.Pilot.CSnowMazeLaw_law_r9786_1e919e.wr u g1 2 (u g1 2 - nI 1)) (_root_.Jvm.Pilot.CSnowMazeLaw_law_r9786_1e919e.wr v g1 2 (v g1 2 - nI 1)) := by
    rw [h.1 g1 n1.1 n1.2.1 n1.2.2]; exact h.wr _ _ _ n1
  have a2 := a1.wr g2 2 (_root_.Jvm.Pilot.CSnowMazeLaw_law_r9786_1e919e.wr v g1 2 (v g1 2 - nI 1) g2 2 + nI 1) n2
  have a3 := a2.wr z 6 (_root_.Jvm.Pilot.CSnowMazeLaw_law_r9786_1e919e.wr (_root_.Jvm.Pilot.CSnowMazeLaw_law_r9786_1e919e.wr v g1 2 (v g1 2 - nI 1)) g2 2 (_root_.Jvm.Pilot.CSnowMazeLaw_law_r9786_1e919e.wr v g1 2 (v g1 2 - nI 1) g2 2 + nI 1) z 6 + nI 1) (by omega)
  simp only [m_X0_handLamp]
  rw [a1.1 g2 n2.1 n2.2.1 n2.2.2, a2.1.z]
  exact a3
theorem EX.trade {z w N : Nat} {u v : Mm} (h : EX z u v) (hz : kC.getD z 0 = 2) (hw : kC.getD w 0 = 6) (hN : N ≤ 8) : EX z (tradeM u z w N) (tradeM v z w N) := by
  have hn := w_ne hz hw
  have hr := h.1 w hn.1 hn.2.1 hn.2.2
  have hp := pO_eq (N := N) h.1 hr
  cases e : pO v z w N with
  | none => simp only [tradeM, hp, e]; exact h
  | some j =>
    have hj : kC.getD (z + 8 + (1 + j)) 0 = 6 := kd_crew (kd_2_2 hz) (by have := (pfind_lt e).1; omega)
    simp only [tradeM, hp, e, vT h.1, hr]
    repeat' split
    · exact h
    · exact h.hand hz hj hw
    · exact h.hand hz hw hj
theorem EX.setPost {z : Nat} {u v : Mm} (h : EX z u v) (a : Int32) : EX z (m_X3_setPost u (z + 1) a) (m_X3_setPost v (z + 1) a) := by
  simp only [m_X3_setPost, isOpen_eq h.1]
  split
  · exact h
  · exact h.wr _ _ _ (by omega)
theorem EX.shore {z w : Nat} {u v : Mm} (h : EX z u v) (hz : kC.getD z 0 = 2) (hw : kC.getD w 0 = 6) : EX z (m_X0_shore u z w) (m_X0_shore v z w) := by
  have hn := w_ne hz hw
  have hr := h.1 w hn.1 hn.2.1 hn.2.2
  simp only [m_X0_shore, hr, posts_eq h.1]
  repeat' split
  · exact h
  · rw [(h.wr w 1 (v w 1 - nI 1) hn).1 w hn.1 hn.2.1 hn.2.2]
    exact (h.wr _ _ _ hn).setPost _
  · exact h
theorem EX.act {z w N : Nat} {u v : Mm} (h : EX z u v) (hz : kC.getD z 0 = 2) (hw : kC.getD w 0 = 6) (hN : N ≤ 8) : EX z (actM u z w N) (actM v z w N) := by
  have hn := w_ne hz hw
  have h8 := w8_ne hz hw
  have hr := h.1 w hn.1 hn.2.1 hn.2.2
  have ho := fO_eq hr (h.1 (w + 8) h8.1 h8.2.1 h8.2.2)
  have hR : EX z (restM u z w N) (restM v z w N) := by
    simp only [restM, ho, tradeR_eq h.1 hr]
    repeat' split
    · exact (h.shore hz hw).dropS hz hw
    · exact h.trade hz hw hN
    · exact (h.trade hz hw hN).dropS hz hw
    · exact h.dropS hz hw
  simp only [actM, ho, stepR_eq h.1 hr]
  repeat' split
  · exact hR
  · exact hR
  · exact h.step hz hw hN _
  · exact (h.step hz hw hN _).dropS hz hw
/-- one cell's roof comes down -/
def roof (J : Mm) (z N c : Nat) : Mm := wr (sB (m_X3_put J (z + 1) (nI c) (nI 2)) z (nI c) (nI 1) N) z 5 (sB (m_X3_put J (z + 1) (nI c) (nI 2)) z (nI c) (nI 1) N z 5 + nI 1)
theorem EX.roof {z N c : Nat} {u v : Mm} (h : EX z u v) (hN : N ≤ 8) : EX z (_root_.Jvm.Pilot.CSnowMazeLaw_law_r9786_1e919e.roof u z N c) (_root_.Jvm.Pilot.CSnowMazeLaw_law_r9786_1e919e.roof v z N c) := by
  have a := (h.put (nI c) (nI 2)).sB (nI c) (nI 1) N hN
  simp only [_root_.Jvm.Pilot.CSnowMazeLaw_law_r9786_1e919e.roof]
  rw [a.1.z]
  exact a.wr _ _ _ (by omega)
noncomputable def fallM (G : Mm) (held : Nat → Prop) (z N : Nat) : Nat → Mm
  | 0 => G
  | c + 1 => if f_X3_ageAt (fallM G held z N c) (z + 1) (nI c) < nI 12 then fallM G held z N c else if cd (held c) = true then fallM G held z N c else roof (fallM G held z N c) z N c
def heldP (G : Mm) (z : Nat) : Nat → Prop := rch (opn G z) (srH G z 256) 2
noncomputable def lowM (I : Mm) (z N : Nat) : Mm := fallM (gro I (z + 1) 256) (heldP (gro I (z + 1) 256) z) z N 256
theorem gro_eqx {z : Nat} {u v : Mm} (h : EX z u v) : EX z (gro u (z + 1) 256) (gro v (z + 1) 256) := by
  simp only [gro]
  rw [h.1.s 1 (by decide), h.1.s 2 (by decide)]
  exact h.wrA _ _ (by omega)
theorem EX.fall {z N : Nat} {u v : Mm} (held : Nat → Prop) (h : EX z u v) (hN : N ≤ 8) : ∀ c, EX z (fallM u held z N c) (fallM v held z N c)
  | 0 => h
  | c + 1 => by
    have ih := EX.fall held h hN c
    simp only [fallM, ages_eq ih.1]
    repeat' split
    · exact ih
    · exact ih
    · exact ih.roof hN
theorem EX.low {z N : Nat} {u v : Mm} (h : EX z u v) (hN : N ≤ 8) : EX z (lowM u z N) (lowM v z N) := by
  have g := gro_eqx h
  simp only [lowM]
  have e : heldP (gro u (z + 1) 256) z = heldP (gro v (z + 1) 256) z := by rw [heldP, heldP, opn_eq g.1, srH_eq g.1]
  rw [e]
  exact EX.fall _ g hN 256
theorem roof_3 {J : Mm} {z N c : Nat} : roof J z N c z 3 = J z 3 := by
  simp only [roof]
  rw [wr_sn _ _ _ (by decide), sB_i (by decide), put_o (by omega)]
theorem fall_3 {G : Mm} {held : Nat → Prop} {z N : Nat} : ∀ c, fallM G held z N c z 3 = G z 3
  | 0 => rfl
  | c + 1 => by
    simp only [fallM]
    repeat' split
    · exact fall_3 c
    · exact fall_3 c
    · rw [roof_3]; exact fall_3 c
theorem hold_h {u : Mm} {k c : Nat} {P : Nat → Prop} (h : ∀ c, c < 256 → (u (k + 1) c ≠ -1 ↔ P c)) (hc : c < 256) : (f_X1_holds u k (nI c) = 0 → ¬ P c) ∧ (¬ f_X1_holds u k (nI c) = 0 → P c) := by
  rw [holds_in hc]
  exact ⟨fun y y2 => of_decide_eq_false (bi_eq y) ((h c hc).mpr y2), fun y => (h c hc).mp (of_decide_eq_true (bi_ne y))⟩
theorem heldP_u {z : Nat} {u : Mm} : True := trivial

set_option maxHeartbeats 4000000 in
set_option maxRecDepth 100000 in
theorem c_X0_lowerRoofs (l : Launch) (D : va_G) (cs : Nat → ClassId) (ad : Nat → Nat) (I : Mm) (sz : Nat) (z : Nat) (hz : kC.getD z 0 = 2) (N : Nat) (hN3 : I z 3 = nI N) (hN8 : N ≤ 8) (hR : RX z I) : MetN l yX0_lowerRoofs wsX0_lowerRoofs ({ frames := 3, cells := 0, slots := 0, locals := 70 }) kC cs D ad I sz [.ref (ad z)] (fun u => EX z u (lowM I z N)) 0 0 := by
  refine g_met (cc := cX0_lowerRoofs) (maxL := 2) (ret := none) (by decide) rfl (Nat.le_of_ble_eq_true rfl) ?_
  intro pg e s m args below meth c ls hx hb hr hml hts hown hlocks hsz hP hD hK hN hS hA hl
  have hown : s.vm.findClass RX0 = some m.cls := hown
  have hl : lv_has ls 2 [(0, .ref (ad z))] := hl
  obtain ⟨n0, q0, hq0⟩ := id hR
  have hwz2 := hN8
  obtain ⟨G, hG⟩ : ∃ G, G = gro I (z + 1) 256 := ⟨_, rfl⟩
  refine lv_aload_n hx hb dX0_lowerRoofs_0 rfl (lv_at hl 0 rfl) ?_
  refine g_get (κ := 2) (ci := 0) (v := .ref (ad (z + 1))) (C := RX0) (T := TX0) (N := 7) hx hb hts hown hK hP (k := z) hz (by decide) rfl (fun _ h => List.mem_cons_of_mem _ (List.mem_append_left _ (List.mem_append_left _ (List.mem_append_left _ (List.mem_append_right _ h))))) rfl 0 (by decide) (hts _ (List.mem_of_getElem? (i := 1) rfl)) (fun _ h9 => h9) rfl dX0_lowerRoofs_1 ?_
  refine g_callM (M := gro I (z + 1) 256) hD hS hA (va_runV (As := []) (rest := []) ⟨hx, hb, hml, hown, hts⟩ (c_X3_growOlder l D cs ad I s.heap.size (z + 1) (kd_2_0 hz)) (cwV 0 hts gX0_lowerRoofs_X3_growOlder rfl rfl rfl (by decide +kernel) ⟨Nat.le_of_ble_eq_true rfl, Nat.le_of_ble_eq_true rfl⟩) (g_preV hP hD hK hN (k := (z + 1)) (kd_2_0 hz) (by decide) rfl rfl rfl rfl) rfl rfl hl.1 rfl (lv_room (Nat.le_of_ble_eq_true rfl)) dX0_lowerRoofs_4 ⟨Nat.le_of_ble_eq_true rfl, Nat.le_of_ble_eq_true rfl⟩) (fun u1 H locs hu1 hP hD hS => ?_)
  refine lv_aload_n hx hb dX0_lowerRoofs_7 rfl (lv_at hl 0 rfl) ?_
  refine g_callv hD hS hA (va_runV (As := []) (rest := []) ⟨hx, hb, hml, hown, hts⟩ (c_X0_findHeld l D cs ad u1 H.size z hz n0 q0 (by rw [hu1]; exact hq0.eq (by rw [gro, wrA_n _ _ (by omega)]) (by rw [gro, wrA_n _ _ (by omega)]) (by rw [gro, wrA_n _ _ (by omega)]))) (cwV 0 hts gX0_lowerRoofs_X0_findHeld rfl rfl rfl (by decide +kernel) ⟨Nat.le_of_ble_eq_true rfl, Nat.le_of_ble_eq_true rfl⟩) (g_preV hP hD hK hN (k := z) hz (by decide) rfl rfl rfl rfl) rfl rfl hl.1 rfl (lv_room (Nat.le_of_ble_eq_true rfl)) dX0_lowerRoofs_8 ⟨Nat.le_of_ble_eq_true rfl, Nat.le_of_ble_eq_true rfl⟩) (fun u2 H locs hu2 hP hD hS => ?_)
  refine lv_iconst (v := nI 0) hx hb dX0_lowerRoofs_11 (by decide) ?_
  refine lv_istore_n (lv' := [(1, .int (nI 0)), (0, .ref (ad z))]) hx hb dX0_lowerRoofs_12 rfl hl (by decide) rfl (fun ls hl => ?_)
  suffices KL13 : ∀ (fuel : Nat) (i : Nat) (v : Mm) (H : Heap) (locs : List Loc) (ls : Array Slot), (i ≤ 256) → (EX z v (fallM G (heldP G z) z N i)) → (∀ c, c < 256 → (v (z + 5 + 1) c ≠ -1 ↔ heldP G z c)) → (v z 3 = nI N) → 256 - i < fuel → va_P D vwCl (gw kC cs ad v) H → va_D (gA kC ad sz) (gw kC cs ad v) → va_S (gA kC ad sz) s.heap H locs → lv_has ls 2 [(1, .int (nI i)), (0, .ref (ad z))] → W pg l e ({ frames := 3, cells := 0, slots := 0, locals := 70 }) s m args below meth c H locs 0 0 (MQ below (va_Qv (fun u => EX z u (lowM I z N)) (wat kC cs D ad (gA kC ad sz)) (gA kC ad sz)) args s 0 0 (gA kC ad sz)) (F0 m 13 ls []) from KL13 _ 0 u2 _ _ _ (by omega) (by have y := hu2; rw [hu1, ← hG] at y; exact ⟨y.1, y.2.1⟩) (by have y := hu2; rw [hu1, ← hG] at y; exact y.2.2) (by have y := hu2; rw [y.1.z, hu1, gro, wrA_n _ _ (by omega)]; exact hN3) (Nat.lt_succ_self _) hP hD hS (lv_sub hl [0, 1] rfl)
  intro fuel13
  induction fuel13 with
  | zero => intro _ _ _ _ _ _ _ _ _ hm; exact absurd hm (Nat.not_lt_zero _)
  | succ fuel13 ih13 =>
    intro i v H locs ls hi hex hhd hv3 hm13 hP hD hS hl
    refine lv_iload_n hx hb dX0_lowerRoofs_13 rfl (lv_at hl 0 rfl) ?_
    refine lv_sipush (v := nI 256) hx hb dX0_lowerRoofs_14 (by decide) ?_
    refine lv_icmp_ge (tgt := 75) hx hb dX0_lowerRoofs_17 (by decide) (fun c_3 => ?_) (fun c_3 => ?_)
    · skip
      have nc_3 : 256 ≤ i := (nI_leI (a := 256) (b := i) (by omega) (by omega)).mp c_3
      exact g_vret hx hb hr hlocks hP hD hS (by simp only [lowM]; rw [← hG, show 256 = i from by omega]; exact hex) dX0_lowerRoofs_75
    · skip
      have nc_3 : ¬ 256 ≤ i := fun z9_ => c_3 ((nI_leI (a := 256) (b := i) (by omega) (by omega)).mpr z9_)
      refine lv_aload_n hx hb dX0_lowerRoofs_20 rfl (lv_at hl 1 rfl) ?_
      refine g_get (κ := 2) (ci := 0) (v := .ref (ad (z + 1))) (C := RX0) (T := TX0) (N := 7) hx hb hts hown hK hP (k := z) hz (by decide) rfl (fun _ h => List.mem_cons_of_mem _ (List.mem_append_left _ (List.mem_append_left _ (List.mem_append_left _ (List.mem_append_right _ h))))) rfl 0 (by decide) (hts _ (List.mem_of_getElem? (i := 1) rfl)) (fun _ h9 => h9) rfl dX0_lowerRoofs_21 ?_
      refine lv_iload_n hx hb dX0_lowerRoofs_24 rfl (lv_at hl 0 rfl) ?_
      refine g_callF (F := f_X3_ageAt v (z + 1) (nI i)) hD hS hA (va_runV (As := [.int (nI i)]) (rest := []) ⟨hx, hb, hml, hown, hts⟩ (c_X3_ageAt l D cs ad v H.size (z + 1) (kd_2_0 hz) (nI i)) (cwV 1 hts gX0_lowerRoofs_X3_ageAt rfl rfl rfl (by decide +kernel) ⟨Nat.le_of_ble_eq_true rfl, Nat.le_of_ble_eq_true rfl⟩) (g_preV hP hD hK hN (k := (z + 1)) (kd_2_0 hz) (by decide) rfl rfl rfl rfl) rfl rfl hl.1 rfl (lv_room (Nat.le_of_ble_eq_true rfl)) dX0_lowerRoofs_25 ⟨Nat.le_of_ble_eq_true rfl, Nat.le_of_ble_eq_true rfl⟩) (fun H locs hP hD hS => ?_)
      refine lv_bipush (v := nI 12) hx hb dX0_lowerRoofs_28 (by decide) ?_
      refine lv_icmp_lt (tgt := 69) hx hb dX0_lowerRoofs_30 (by decide) (fun c_4 => ?_) (fun c_4 => ?_)
      · skip
        refine lv_iinc (v := nI (i + 1)) (lv' := [(1, .int (nI (i + 1))), (0, .ref (ad z))]) hx hb dX0_lowerRoofs_69 hl (k := 0) rfl (nI_1 i) (by decide) rfl (fun ls hl => ?_)
        refine lv_goto (tgt := 13) hx hb dX0_lowerRoofs_72 (by decide) ?_
        have hex2 : EX z v (fallM G (heldP G z) z N (i + 1)) := by simp only [fallM]; rw [if_pos (by rw [← ages_eq hex.1]; exact c_4)]; exact hex
        exact ih13 (i + 1) v _ _ _ (by omega) hex2 hhd hv3 (by omega) hP hD hS (lv_sub hl [0, 1] rfl)
      · skip
        refine lv_aload_n hx hb dX0_lowerRoofs_33 rfl (lv_at hl 1 rfl) ?_
        refine g_get (κ := 2) (ci := 0) (v := .ref (ad (z + 5))) (C := RX0) (T := TX0) (N := 7) hx hb hts hown hK hP (k := z) hz (by decide) rfl (fun _ h => List.mem_cons_of_mem _ (List.mem_append_left _ (List.mem_append_left _ (List.mem_append_left _ (List.mem_append_right _ h))))) rfl 1 (by decide) (hts _ (List.mem_of_getElem? (i := 2) rfl)) (fun _ h9 => h9) rfl dX0_lowerRoofs_34 ?_
        refine lv_iload_n hx hb dX0_lowerRoofs_37 rfl (lv_at hl 0 rfl) ?_
        refine g_callF (F := f_X1_holds v (z + 5) (nI i)) hD hS hA (va_runV (As := [.int (nI i)]) (rest := []) ⟨hx, hb, hml, hown, hts⟩ (c_X1_holds l D cs ad v H.size (z + 5) (kd_2_1 hz) (nI i)) (cwV 1 hts gX0_lowerRoofs_X1_holds rfl rfl rfl (by decide +kernel) ⟨Nat.le_of_ble_eq_true rfl, Nat.le_of_ble_eq_true rfl⟩) (g_preV hP hD hK hN (k := (z + 5)) (kd_2_1 hz) (by decide) rfl rfl rfl rfl) rfl rfl hl.1 rfl (lv_room (Nat.le_of_ble_eq_true rfl)) dX0_lowerRoofs_38 ⟨Nat.le_of_ble_eq_true rfl, Nat.le_of_ble_eq_true rfl⟩) (fun H locs hP hD hS => ?_)
        refine lv_if_ne (tgt := 69) hx hb dX0_lowerRoofs_41 (by decide) (fun c_5 => ?_) (fun c_5 => ?_)
        · skip
          refine lv_iinc (v := nI (i + 1)) (lv' := [(1, .int (nI (i + 1))), (0, .ref (ad z))]) hx hb dX0_lowerRoofs_69 hl (k := 0) rfl (nI_1 i) (by decide) rfl (fun ls hl => ?_)
          refine lv_goto (tgt := 13) hx hb dX0_lowerRoofs_72 (by decide) ?_
          have hex2 : EX z v (fallM G (heldP G z) z N (i + 1)) := by simp only [fallM]; rw [if_neg (by rw [← ages_eq hex.1]; exact c_4), if_pos (cd_t ((hold_h hhd (by omega)).2 c_5))]; exact hex
          exact ih13 (i + 1) v _ _ _ (by omega) hex2 hhd hv3 (by omega) hP hD hS (lv_sub hl [0, 1] rfl)
        · skip
          refine lv_aload_n hx hb dX0_lowerRoofs_44 rfl (lv_at hl 1 rfl) ?_
          refine g_get (κ := 2) (ci := 0) (v := .ref (ad (z + 1))) (C := RX0) (T := TX0) (N := 7) hx hb hts hown hK hP (k := z) hz (by decide) rfl (fun _ h => List.mem_cons_of_mem _ (List.mem_append_left _ (List.mem_append_left _ (List.mem_append_left _ (List.mem_append_right _ h))))) rfl 0 (by decide) (hts _ (List.mem_of_getElem? (i := 1) rfl)) (fun _ h9 => h9) rfl dX0_lowerRoofs_45 ?_
          refine lv_iload_n hx hb dX0_lowerRoofs_48 rfl (lv_at hl 0 rfl) ?_
          refine lv_iconst (v := nI 2) hx hb dX0_lowerRoofs_49 (by decide) ?_
          refine g_callM (M := m_X3_put v (z + 1) (nI i) (nI 2)) hD hS hA (va_runV (As := [.int (nI i), .int (nI 2)]) (rest := []) ⟨hx, hb, hml, hown, hts⟩ (c_X3_put l D cs ad v H.size (z + 1) (kd_2_0 hz) (nI i) (nI 2)) (cwV 2 hts gX0_lowerRoofs_X3_put rfl rfl rfl (by decide +kernel) ⟨Nat.le_of_ble_eq_true rfl, Nat.le_of_ble_eq_true rfl⟩) (g_preV hP hD hK hN (k := (z + 1)) (kd_2_0 hz) (by decide) rfl rfl rfl rfl) rfl rfl hl.1 rfl (lv_room (Nat.le_of_ble_eq_true rfl)) dX0_lowerRoofs_50 ⟨Nat.le_of_ble_eq_true rfl, Nat.le_of_ble_eq_true rfl⟩) (fun u6 H locs hu6 hP hD hS => ?_)
          refine lv_aload_n hx hb dX0_lowerRoofs_53 rfl (lv_at hl 1 rfl) ?_
          refine lv_iload_n hx hb dX0_lowerRoofs_54 rfl (lv_at hl 0 rfl) ?_
          refine lv_iconst (v := nI 1) hx hb dX0_lowerRoofs_55 (by decide) ?_
          refine g_callM (M := sB u6 z (nI i) (nI 1) N) hD hS hA (va_runV (As := [.int (nI i), .int (nI 1)]) (rest := []) ⟨hx, hb, hml, hown, hts⟩ (c_X0_setBuriedAt l D cs ad u6 H.size z hz (nI i) (nI 1) (by decide) N (by rw [hu6, put_o (by omega)]; exact hv3) hN8) (cwV 2 hts gX0_lowerRoofs_X0_setBuriedAt rfl rfl rfl (by decide +kernel) ⟨Nat.le_of_ble_eq_true rfl, Nat.le_of_ble_eq_true rfl⟩) (g_preV hP hD hK hN (k := z) hz (by decide) rfl rfl rfl rfl) rfl rfl hl.1 rfl (lv_room (Nat.le_of_ble_eq_true rfl)) dX0_lowerRoofs_56 ⟨Nat.le_of_ble_eq_true rfl, Nat.le_of_ble_eq_true rfl⟩) (fun u7 H locs hu7 hP hD hS => ?_)
          refine lv_aload_n hx hb dX0_lowerRoofs_59 rfl (lv_at hl 1 rfl) ?_
          refine lv_dup hx hb dX0_lowerRoofs_60 rfl ?_
          refine g_get (κ := 2) (ci := 0) (v := .int (u7 z 5)) (C := RX0) (T := TX0) (N := 7) hx hb hts hown hK hP (k := z) hz (by decide) rfl (fun _ h => List.mem_cons_of_mem _ (List.mem_append_left _ (List.mem_append_left _ (List.mem_append_left _ (List.mem_append_right _ h))))) rfl 5 (by decide) (hts _ (List.mem_of_getElem? (i := 3) rfl)) (fun _ h9 => h9) rfl dX0_lowerRoofs_61 ?_
          refine lv_iconst (v := nI 1) hx hb dX0_lowerRoofs_64 (by decide) ?_
          refine lv_iadd hx hb dX0_lowerRoofs_65 ?_
          refine g_put (κ := 2) (ci := 0) (v := (u7 z 5) + (nI 1)) (ty := .int) (C := RX0) (T := TX0) (N := 7) hx hb hts hown hK hP hD hS (k := z) hz (by decide) rfl (fun _ h => List.mem_cons_of_mem _ (List.mem_append_left _ (List.mem_append_left _ (List.mem_append_left _ (List.mem_append_right _ h))))) tyX0 tyX0_ok nmX0 rfl 5 (by decide) (hts _ (List.mem_of_getElem? (i := 3) rfl)) (fun _ h9 => h9) rfl (by decide +kernel) rfl rfl (Nat.le_of_ble_eq_true rfl) rfl dX0_lowerRoofs_66 (fun u8 H locs hu8 hP hD hS => ?_)
          refine lv_iinc (v := nI (i + 1)) (lv' := [(1, .int (nI (i + 1))), (0, .ref (ad z))]) hx hb dX0_lowerRoofs_69 hl (k := 0) rfl (nI_1 i) (by decide) rfl (fun ls hl => ?_)
          refine lv_goto (tgt := 13) hx hb dX0_lowerRoofs_72 (by decide) ?_
          have hex2 : EX z u8 (fallM G (heldP G z) z N (i + 1)) := by simp only [fallM]; rw [if_neg (by rw [← ages_eq hex.1]; exact c_4), if_neg (fun y => (hold_h hhd (by omega)).1 c_5 (cd_i.mp y)), hu8, hu7, hu6]; exact EX.roof hex hwz2
          exact ih13 (i + 1) u8 _ _ _ (by omega) hex2 (by rw [hu8, wr_n _ _ _ (by omega), hu7, sB_o (by omega), hu6, put_o (by omega)]; exact hhd) (by rw [hu8, wr_sn _ _ _ (by decide), hu7, sB_i (by decide), hu6, put_o (by omega)]; exact hv3) (by omega) hP hD hS (lv_sub hl [0, 1] rfl)
