/-- a step and what is done behind it -/
noncomputable def stD (J : Mm) (z w N : Nat) (d : Int32) : Mm := if stepR J z w N d = 0 then stepM J z w N d else dropS (stepM J z w N d) w
section STD
variable {z k N w : Nat} {J I v : Mm} {d : Int32}
theorem stD_ice (h : f_X3_sortAt J (z + 1) (f_X5_beside (J w 0) d) = nI 10) : stD J z w N d = dropS J w := by
  have e1 : stepR J z w N d = nI 1 := by simp only [stepR]; rw [if_pos h]
  have e2 : stepM J z w N d = J := by simp only [stepM]; rw [if_pos h]
  unfold stD; rw [if_neg (by rw [e1]; decide), e2]
theorem stD_open (h : ¬ f_X3_sortAt J (z + 1) (f_X5_beside (J w 0) d) = nI 10) (h0 : f_X3_sortAt J (z + 1) (f_X5_beside (J w 0) d) ≤ 0) : stD J z w N d = dropS (wr J w 0 (f_X5_beside (J w 0) d)) w := by
  have e1 : stepR J z w N d = nI 1 := by simp only [stepR]; rw [if_neg h, if_pos h0]
  have e2 : stepM J z w N d = wr J w 0 (f_X5_beside (J w 0) d) := by simp only [stepM]; rw [if_neg h, if_pos h0]
  unfold stD; rw [if_neg (by rw [e1]; decide), e2]
theorem stD_dark (h : ¬ f_X3_sortAt J (z + 1) (f_X5_beside (J w 0) d) = nI 10) (h0 : ¬ f_X3_sortAt J (z + 1) (f_X5_beside (J w 0) d) ≤ 0) (h1 : ¬ lit J z N (J w 0)) : stD J z w N d = J := by
  have e := cd_f h1
  have e1 : stepR J z w N d = 0 := by simp only [stepR]; rw [if_neg h, if_neg h0, if_neg (by rw [e]; decide)]; rfl
  have e2 : stepM J z w N d = J := by simp only [stepM]; rw [if_neg h, if_neg h0, if_neg (by rw [e]; decide)]
  unfold stD; rw [if_pos e1, e2]
theorem stD_dig (h : ¬ f_X3_sortAt J (z + 1) (f_X5_beside (J w 0) d) = nI 10) (h0 : ¬ f_X3_sortAt J (z + 1) (f_X5_beside (J w 0) d) ≤ 0) (h1 : lit J z N (J w 0)) (h2 : ¬ f_X3_sortAt J (z + 1) (f_X5_beside (J w 0) d) ≤ nI 1) : stD J z w N d = m_X3_put J (z + 1) (f_X5_beside (J w 0) d) (f_X3_sortAt J (z + 1) (f_X5_beside (J w 0) d) - nI 1) := by
  have e := cd_t h1
  have e1 : stepR J z w N d = 0 := by simp only [stepR]; rw [if_neg h, if_neg h0, if_pos e, if_neg h2]; rfl
  have e2 : stepM J z w N d = m_X3_put J (z + 1) (f_X5_beside (J w 0) d) (f_X3_sortAt J (z + 1) (f_X5_beside (J w 0) d) - nI 1) := by simp only [stepM]; rw [if_neg h, if_neg h0, if_pos e, if_neg h2]
  unfold stD; rw [if_pos e1, e2]
theorem stD_dug (h : ¬ f_X3_sortAt J (z + 1) (f_X5_beside (J w 0) d) = nI 10) (h0 : ¬ f_X3_sortAt J (z + 1) (f_X5_beside (J w 0) d) ≤ 0) (h1 : lit J z N (J w 0)) (h2 : f_X3_sortAt J (z + 1) (f_X5_beside (J w 0) d) ≤ nI 1) : stD J z w N d = dropS (dug (m_X3_put J (z + 1) (f_X5_beside (J w 0) d) (f_X3_sortAt J (z + 1) (f_X5_beside (J w 0) d) - nI 1)) z w N (f_X5_beside (J w 0) d)) w := by
  have e := cd_t h1
  have e1 : stepR J z w N d = nI 1 := by simp only [stepR]; rw [if_neg h, if_neg h0, if_pos e, if_pos h2]
  have e2 : stepM J z w N d = dug (m_X3_put J (z + 1) (f_X5_beside (J w 0) d) (f_X3_sortAt J (z + 1) (f_X5_beside (J w 0) d) - nI 1)) z w N (f_X5_beside (J w 0) d) := by simp only [stepM]; rw [if_neg h, if_neg h0, if_pos e, if_pos h2]
  unfold stD; rw [if_neg (by rw [e1]; decide), e2]
theorem litC_open (h : IV J z N) {p : Nat} (ho : opn J z p) : litC J z N p ↔ litR J z N p := by
  refine ⟨fun y => y.2.elim id (fun y => absurd ho y.1), fun y => ⟨?_, Or.inl y⟩⟩
  rw [show J (z + 1 + 1) p = 0 from ho]; decide
theorem lit_R {a : Int32} {p : Nat} (hp : p < 256) (e : a = nI p) : lit J z N a ↔ litR J z N p := by
  rw [lit, e, nI_clamp (by omega)]; exact Iff.rfl
theorem wr_id {a j : Nat} {x : Int32} (h : J a j = x) : wr J a j x = J := by
  funext b
  by_cases e : b = a
  · subst e
    show wrA J b (upd (J b) j x) b = J b
    rw [wrA_s]
    funext i
    rw [upd_ap]
    by_cases e2 : i = j
    · rw [if_pos e2, e2, h]
    · rw [if_neg e2]
  · rw [wr_n _ _ _ e]
theorem wr_wr (J : Mm) (a j : Nat) (x y : Int32) : wr (wr J a j x) a j y = wr J a j y := by
  funext b
  by_cases e : b = a
  · subst e
    funext i
    by_cases e2 : i = j
    · subst e2; rw [wr_ss, wr_ss]
    · rw [wr_sn _ _ _ e2, wr_sn _ _ _ e2, wr_sn _ _ _ e2]
  · rw [wr_n _ _ _ e, wr_n _ _ _ e, wr_n _ _ _ e]
theorem put_c {c : Nat} (hc : c < 256) (x : Int32) : m_X3_put J (z + 1) (nI c) x = wr (wr (wr J (z + 1 + 1) c x) (z + 1 + 2) c (nI 0)) (z + 1 + 3) c (nI 0) := by
  simp only [m_X3_put]
  rw [if_neg (nI_pos (by omega)), if_neg (fun z => absurd ((nI_leI (by decide) (by omega)).mp z) (by omega)), nI_clamp (by omega)]
theorem put_snow (h : IV J z N) {c : Nat} (hc : c < 256) (h0 : ¬ J (z + 1 + 1) c = 0) (x : Int32) : m_X3_put J (z + 1) (nI c) x = wr J (z + 1 + 1) c x := by
  have e := h.2.2.1 c hc h0
  rw [put_c hc]
  rw [wr_id (J := wr J (z + 1 + 1) c x) (a := z + 1 + 2) (j := c) (x := nI 0) (by rw [wr_n _ _ _ (by omega)]; exact e.1)]
  exact wr_id (by rw [wr_n _ _ _ (by omega)]; exact e.2)
theorem put_put {c : Nat} (hc : c < 256) (x y : Int32) : m_X3_put (wr J (z + 1 + 1) c x) (z + 1) (nI c) y = m_X3_put J (z + 1) (nI c) y := by
  rw [put_c hc, put_c hc, wr_wr]
/-- the model's lay beside the class's put -/
theorem Rl.lay (h : Rl z J k I N) {c : Nat} (hc : c < 256) (x : Int32) : Rl z (m_X3_put J (z + 1) (nI c) x) k (m_X6_lay I k c x) N := by
  rw [put_c hc]
  exact ((h.wc 0 c x (by decide)).wc 1 c _ (by decide)).wc 2 c _ (by decide)
theorem dig_t : ∀ h, h < 11 → h ≠ 0 → ((nI h - nI 1 ≤ 0 ↔ nI h ≤ nI 1) ∧ (nI h ≤ nI 1 → nI h - nI 1 = nI 0) ∧ ¬ nI h ≤ 0) := by decide +kernel
theorem bes5 {p d : Nat} (hp : p < 256) (hd : d < 4) (h : nb p d < 256) : f_X5_beside (nI p) (nI d) = nI (nb p d) := by
  rw [bes_nb p hp d hd, if_pos h]
theorem ice_out {p d : Nat} (hp : p < 256) (hd : d < 4) (h : ¬ nb p d < 256) (z : Nat) (J : Mm) : f_X3_sortAt J (z + 1) (f_X5_beside (nI p) (nI d)) = nI 10 := by
  rw [bes_nb p hp d hd, if_neg h]
  simp only [f_X3_sortAt]
  rw [if_pos (by decide)]
theorem sB_9 {J : Mm} {z N i : Nat} {a b : Int32} {f : Nat} (hf : f ≠ 4) : sB J z a b N (z + 8 + (1 + i)) f = J (z + 8 + (1 + i)) f := sB_i hf
end STD

set_option maxHeartbeats 4000000 in
set_option maxRecDepth 100000 in
theorem c_X6_step (l : Launch) (D : va_G) (cs : Nat → ClassId) (ad : Nat → Nat) (I : Mm) (sz : Nat) (k : Nat) (hk : kM.getD k 0 = 10) (mn : Nat) (hmn : mn < 8) (d : Nat) (hd : d < 4) (z : Nat) (J : Mm) (N : Nat) (hRl : Rl z J k I N) (hIV : IV J z N) (hmn : mn < N) (w0 : Nat) (hw0 : J (z + 8 + (1 + mn)) 7 = nI w0) (hw1 : 1 ≤ w0) (hw2 : w0 ≤ 24) (hfr : J (z + 8 + (1 + mn)) 4 = 0) (p : Nat) (hp : p < 256) (hpp : J (z + 8 + (1 + mn)) 0 = nI p) : MetN l yX6_step wsX6_step ({ frames := 3, cells := 0, slots := 0, locals := 68 }) kM cs D ad I sz [.ref (ad k), .int (nI mn), .int (nI d)] (fun u => Rk z (stD J z (z + 8 + (1 + mn)) N (nI d)) k I u N) 0 0 := by
  refine g_met (cc := cX6_step) (maxL := 5) (ret := none) (by decide) rfl (Nat.le_of_ble_eq_true rfl) ?_
  intro pg e s m args below meth c ls hx hb hr hml hts hown hlocks hsz hP hD hK hN hS hA hl
  have hown : s.vm.findClass RX6 = some m.cls := hown
  have hl : lv_has ls 5 [(0, .ref (ad k)), (1, .int (nI mn)), (2, .int (nI d))] := hl
  have hN8 := hIV.1.2.1
  have hop9 : opn J z p := (hIV.2.2.2.2.1 mn hmn).2.2 hfr p hp hpp
  refine lv_aload_n hx hb dX6_step_0 rfl (lv_at hl 0 rfl) ?_
  refine lv_iload_n hx hb dX6_step_1 rfl (lv_at hl 1 rfl) ?_
  refine lv_iconst (v := nI 0) hx hb dX6_step_2 (by decide) ?_
  refine g_callF (F := I (k + 4) (31 * mn + 0)) hD hS hA (va_runV (As := [.int (nI mn), .int (nI 0)]) (rest := []) ⟨hx, hb, hml, hown, hts⟩ (c_X6_get l D cs ad I s.heap.size k hk mn (by omega) 0 (by omega)) (cwV 2 hts gX6_step_X6_get rfl rfl rfl (by decide +kernel) ⟨Nat.le_of_ble_eq_true rfl, Nat.le_of_ble_eq_true rfl⟩) (g_preV hP hD hK hN (k := k) hk (by decide) rfl rfl rfl rfl) rfl rfl hl.1 rfl (lv_room (Nat.le_of_ble_eq_true rfl)) dX6_step_3 ⟨Nat.le_of_ble_eq_true rfl, Nat.le_of_ble_eq_true rfl⟩) (fun H locs hP hD hS => ?_)
  rw [show I (k + 4) (31 * mn + 0) = nI p from ((hRl.t (by omega) (by decide)).trans hpp)]
  refine lv_iload_n hx hb dX6_step_6 rfl (lv_at hl 2 rfl) ?_
  refine g_callF (F := f_X6_beside (nI p) (nI d)) hD hS hA (va_runS (As := [.int (nI p), .int (nI d)]) (rest := []) ⟨hx, hb, hml, hown, hts⟩ (c_X6_beside l D cs ad I H.size (nI p) (nI d)) (va_cwS 2 hts gX6_step_X6_beside rfl rfl rfl (by decide +kernel) ⟨Nat.le_of_ble_eq_true rfl, Nat.le_of_ble_eq_true rfl⟩) (g_preS hP hD hK hN) rfl rfl hl.1 rfl (lv_room (Nat.le_of_ble_eq_true rfl)) dX6_step_7 ⟨Nat.le_of_ble_eq_true rfl, Nat.le_of_ble_eq_true rfl⟩) (fun H locs hP hD hS => ?_)
  refine lv_istore_n (lv' := [(3, .int (f_X6_beside (nI p) (nI d))), (0, .ref (ad k)), (1, .int (nI mn)), (2, .int (nI d))]) hx hb dX6_step_10 rfl hl (by decide) rfl (fun ls hl => ?_)
  refine lv_iload_n hx hb dX6_step_11 rfl (lv_at hl 0 rfl) ?_
  refine lv_iconst (v := -1) hx hb dX6_step_12 (by decide) ?_
  refine lv_icmp_eq (tgt := 27) hx hb dX6_step_13 (by decide) (fun c_1 => ?_) (fun c_1 => ?_)
  · skip
    refine lv_aload_n hx hb dX6_step_27 rfl (lv_at hl 1 rfl) ?_
    refine lv_iload_n hx hb dX6_step_28 rfl (lv_at hl 2 rfl) ?_
    refine g_callv hD hS hA (va_runV (As := [.int (nI mn)]) (rest := []) ⟨hx, hb, hml, hown, hts⟩ (c_X6_done l D cs ad I H.size k hk mn (by omega) z J N hRl hN8 w0 hw0 hw1 hw2) (cwV 1 hts gX6_step_X6_done rfl rfl rfl (by decide +kernel) ⟨Nat.le_of_ble_eq_true rfl, Nat.le_of_ble_eq_true rfl⟩) (g_preV hP hD hK hN (k := k) hk (by decide) rfl rfl rfl rfl) rfl rfl hl.1 rfl (lv_room (Nat.le_of_ble_eq_true rfl)) dX6_step_29 ⟨Nat.le_of_ble_eq_true rfl, Nat.le_of_ble_eq_true rfl⟩) (fun u2 H locs hu2 hP hD hS => ?_)
    exact g_vret hx hb hr hlocks hP hD hS (by rw [stD_ice (by rw [hpp]; exact ice_out hp hd (besN hp hd c_1) z J)]; exact hu2) dX6_step_32
  · skip
    obtain ⟨hnb1, hnb2⟩ := besY hp hd c_1
    have hb5 : f_X5_beside (J (z + 8 + (1 + mn)) 0) (nI d) = nI (nb p d) := by rw [hpp]; exact bes5 hp hd hnb1
    refine lv_aload_n hx hb dX6_step_16 rfl (lv_at hl 1 rfl) ?_
    refine g_get (κ := 10) (ci := 6) (v := .ref (ad (k + 1))) (C := RX6) (T := TX6) (N := 8) hx hb hts hown hK hP (k := k) hk (by decide) rfl (fun _ h => List.mem_cons_of_mem _ (List.mem_append_right _ h)) rfl 1 (by decide) (hts _ (List.mem_of_getElem? (i := 1) rfl)) (fun _ h9 => h9) rfl dX6_step_17 ?_
    refine lv_iload_n hx hb dX6_step_20 rfl (lv_at hl 0 rfl) ?_
    refine lv_topi (fun y9 ey9 => ?_)
    obtain rfl := ey9.trans hnb2
    refine g_ialdn (n := 256) (i := (nb p d)) hx hb hK hP (k := (k + 1)) (kd_10_1 hk) (by decide) rfl (by omega) (by decide) dX6_step_21 ?_
    rw [show I (k + 1) (nb p d) = J (z + 1 + 1) (nb p d) from (hRl.c1 (by omega))]
    refine lv_bipush (v := nI 10) hx hb dX6_step_22 (by decide) ?_
    refine lv_icmp_ne (tgt := 33) hx hb dX6_step_24 (by decide) (fun c_3 => ?_) (fun c_3 => ?_)
    · skip
      refine lv_aload_n hx hb dX6_step_33 rfl (lv_at hl 1 rfl) ?_
      refine lv_iload_n hx hb dX6_step_34 rfl (lv_at hl 0 rfl) ?_
      refine lv_topi (fun y9 ey9 => ?_)
      obtain rfl := ey9.trans hnb2
      refine g_callF (F := f_X6_isOpen I k (nb p d)) hD hS hA (va_runV (As := [.int (nI (nb p d))]) (rest := []) ⟨hx, hb, hml, hown, hts⟩ (c_X6_isOpen l D cs ad I H.size k hk (nb p d) (by omega)) (cwV 1 hts gX6_step_X6_isOpen rfl rfl rfl (by decide +kernel) ⟨Nat.le_of_ble_eq_true rfl, Nat.le_of_ble_eq_true rfl⟩) (g_preV hP hD hK hN (k := k) hk (by decide) rfl rfl rfl rfl) rfl rfl hl.1 rfl (lv_room (Nat.le_of_ble_eq_true rfl)) dX6_step_35 ⟨Nat.le_of_ble_eq_true rfl, Nat.le_of_ble_eq_true rfl⟩) (fun H locs hP hD hS => ?_)
      refine lv_if_ne (tgt := 139) hx hb dX6_step_38 (by decide) (fun c_4 => ?_) (fun c_4 => ?_)
      · skip
        refine lv_aload_n hx hb dX6_step_139 rfl (lv_at hl 1 rfl) ?_
        refine lv_iload_n hx hb dX6_step_140 rfl (lv_at hl 2 rfl) ?_
        refine lv_iconst (v := nI 0) hx hb dX6_step_141 (by decide) ?_
        refine lv_iload_n hx hb dX6_step_142 rfl (lv_at hl 0 rfl) ?_
        refine lv_topi (fun y9 ey9 => ?_)
        obtain rfl := ey9.trans hnb2
        refine g_callM (M := wr I (k + 4) (31 * mn + 0) (nI (nb p d))) hD hS hA (va_runV (As := [.int (nI mn), .int (nI 0), .int (nI (nb p d))]) (rest := []) ⟨hx, hb, hml, hown, hts⟩ (c_X6_set l D cs ad I H.size k hk mn (by omega) 0 (by omega) (nI (nb p d))) (cwV 3 hts gX6_step_X6_set rfl rfl rfl (by decide +kernel) ⟨Nat.le_of_ble_eq_true rfl, Nat.le_of_ble_eq_true rfl⟩) (g_preV hP hD hK hN (k := k) hk (by decide) rfl rfl rfl rfl) rfl rfl hl.1 rfl (lv_room (Nat.le_of_ble_eq_true rfl)) dX6_step_143 ⟨Nat.le_of_ble_eq_true rfl, Nat.le_of_ble_eq_true rfl⟩) (fun u5 H locs hu5 hP hD hS => ?_)
        obtain ⟨G9, hG9⟩ : ∃ G, G = wr J (z + 8 + (1 + mn)) 0 (nI (nb p d)) := ⟨_, rfl⟩
        have hr9 : Rk z G9 k I u5 N := by rw [hG9, hu5]; exact ⟨hRl.wt (f := 0) _ (by omega) (by decide), wr_n _ _ _ (by omega)⟩
        have hw9 : G9 (z + 8 + (1 + mn)) 7 = nI w0 := by rw [hG9, wr_sn _ _ _ (by decide)]; exact hw0
        skip
        refine lv_aload_n hx hb dX6_step_146 rfl (lv_at hl 1 rfl) ?_
        refine lv_iload_n hx hb dX6_step_147 rfl (lv_at hl 2 rfl) ?_
        refine g_callv hD hS hA (va_runV (As := [.int (nI mn)]) (rest := []) ⟨hx, hb, hml, hown, hts⟩ (c_X6_done l D cs ad u5 H.size k hk mn (by omega) z G9 N hr9.1 hN8 w0 hw9 hw1 hw2) (cwV 1 hts gX6_step_X6_done rfl rfl rfl (by decide +kernel) ⟨Nat.le_of_ble_eq_true rfl, Nat.le_of_ble_eq_true rfl⟩) (g_preV hP hD hK hN (k := k) hk (by decide) rfl rfl rfl rfl) rfl rfl hl.1 rfl (lv_room (Nat.le_of_ble_eq_true rfl)) dX6_step_148 ⟨Nat.le_of_ble_eq_true rfl, Nat.le_of_ble_eq_true rfl⟩) (fun u6 H locs hu6 hP hD hS => ?_)
        exact g_vret hx hb hr hlocks hP hD hS (by rw [stD_open (by rw [hb5, sort_in hnb1]; exact c_3) (by rw [hb5, sort_in hnb1, show J (z + 1 + 1) (nb p d) = 0 from hRl.open1 hnb1 c_4]; decide), hb5, ← hG9]; exact ⟨hu6.1, hu6.2.trans hr9.2⟩) dX6_step_151
      · skip
        obtain ⟨h9, hh10, hh9⟩ := hIV.2.1 (nb p d) hnb1
        have hh0 : h9 ≠ 0 := fun y => by rw [y] at hh9; exact hRl.open0 hnb1 c_4 hh9
        refine lv_aload_n hx hb dX6_step_41 rfl (lv_at hl 1 rfl) ?_
        refine g_callv hD hS hA (va_runV (As := []) (rest := []) ⟨hx, hb, hml, hown, hts⟩ (c_X6_shine l D cs ad I H.size k hk z J N hRl hIV) (cwV 0 hts gX6_step_X6_shine rfl rfl rfl (by decide +kernel) ⟨Nat.le_of_ble_eq_true rfl, Nat.le_of_ble_eq_true rfl⟩) (g_preV hP hD hK hN (k := k) hk (by decide) rfl rfl rfl rfl) rfl rfl hl.1 rfl (lv_room (Nat.le_of_ble_eq_true rfl)) dX6_step_42 ⟨Nat.le_of_ble_eq_true rfl, Nat.le_of_ble_eq_true rfl⟩) (fun u7 H locs hu7 hP hD hS => ?_)
        refine lv_aload_n hx hb dX6_step_45 rfl (lv_at hl 1 rfl) ?_
        refine lv_aload_n hx hb dX6_step_46 rfl (lv_at hl 1 rfl) ?_
        refine lv_iload_n hx hb dX6_step_47 rfl (lv_at hl 2 rfl) ?_
        refine lv_iconst (v := nI 0) hx hb dX6_step_48 (by decide) ?_
        refine g_callF (F := u7 (k + 4) (31 * mn + 0)) hD hS hA (va_runV (As := [.int (nI mn), .int (nI 0)]) (rest := [.ref (ad k)]) ⟨hx, hb, hml, hown, hts⟩ (c_X6_get l D cs ad u7 H.size k hk mn (by omega) 0 (by omega)) (cwV 2 hts gX6_step_X6_get rfl rfl rfl (by decide +kernel) ⟨Nat.le_of_ble_eq_true rfl, Nat.le_of_ble_eq_true rfl⟩) (g_preV hP hD hK hN (k := k) hk (by decide) rfl rfl rfl rfl) rfl rfl hl.1 rfl (lv_room (Nat.le_of_ble_eq_true rfl)) dX6_step_49 ⟨Nat.le_of_ble_eq_true rfl, Nat.le_of_ble_eq_true rfl⟩) (fun H locs hP hD hS => ?_)
        rw [show u7 (k + 4) (31 * mn + 0) = nI p from (((hRl.eqw hu7.1).t (by omega) (by decide)).trans hpp)]
        refine g_callF (F := bi (cd (litC J z N p))) hD hS hA (va_runV (As := [.int (nI p)]) (rest := []) ⟨hx, hb, hml, hown, hts⟩ (c_X6_isLit l D cs ad u7 H.size k hk p (by omega) z J N (hRl.eqw hu7.1) hIV hu7.2) (cwV 1 hts gX6_step_X6_isLit rfl rfl rfl (by decide +kernel) ⟨Nat.le_of_ble_eq_true rfl, Nat.le_of_ble_eq_true rfl⟩) (g_preV hP hD hK hN (k := k) hk (by decide) rfl rfl rfl rfl) rfl rfl hl.1 rfl (lv_room (Nat.le_of_ble_eq_true rfl)) dX6_step_52 ⟨Nat.le_of_ble_eq_true rfl, Nat.le_of_ble_eq_true rfl⟩) (fun H locs hP hD hS => ?_)
        refine lv_if_ne (tgt := 59) hx hb dX6_step_55 (by decide) (fun c_8 => ?_) (fun c_8 => ?_)
        · skip
          refine lv_aload_n hx hb dX6_step_59 rfl (lv_at hl 1 rfl) ?_
          refine g_get (κ := 10) (ci := 6) (v := .ref (ad (k + 1))) (C := RX6) (T := TX6) (N := 8) hx hb hts hown hK hP (k := k) hk (by decide) rfl (fun _ h => List.mem_cons_of_mem _ (List.mem_append_right _ h)) rfl 1 (by decide) (hts _ (List.mem_of_getElem? (i := 1) rfl)) (fun _ h9 => h9) rfl dX6_step_60 ?_
          refine lv_iload_n hx hb dX6_step_63 rfl (lv_at hl 0 rfl) ?_
          refine lv_topi (fun y9 ey9 => ?_)
          obtain rfl := ey9.trans hnb2
          refine lv_dup2_11 hx hb dX6_step_64 rfl rfl ?_
          refine g_ialdn (n := 256) (i := (nb p d)) hx hb hK hP (k := (k + 1)) (kd_10_1 hk) (by decide) rfl (by omega) (by decide) dX6_step_65 ?_
          rw [show u7 (k + 1) (nb p d) = J (z + 1 + 1) (nb p d) from ((hRl.eqw hu7.1).c1 (by omega))]
          refine lv_iconst (v := nI 1) hx hb dX6_step_66 (by decide) ?_
          refine lv_isub hx hb dX6_step_67 ?_
          refine g_iastn (n := 256) (i := (nb p d)) hx hb hK hP hD hS (k := (k + 1)) (kd_10_1 hk) (by decide) (fun _ => rfl) (by omega) (by decide) dX6_step_68 (fun u9 H locs hu9 hP hD hS => ?_)
          have hdg : Rk z (wr J (z + 1 + 1) (nb p d) (J (z + 1 + 1) (nb p d) - nI 1)) k I u9 N := by rw [hu9]; exact ⟨(hRl.eqw hu7.1).wc 0 _ _ (by decide), by rw [wr_n _ _ _ (by omega)]; exact hu7.1 k (by omega)⟩
          skip
          refine lv_aload_n hx hb dX6_step_69 rfl (lv_at hl 1 rfl) ?_
          refine g_get (κ := 10) (ci := 6) (v := .ref (ad (k + 1))) (C := RX6) (T := TX6) (N := 8) hx hb hts hown hK hP (k := k) hk (by decide) rfl (fun _ h => List.mem_cons_of_mem _ (List.mem_append_right _ h)) rfl 1 (by decide) (hts _ (List.mem_of_getElem? (i := 1) rfl)) (fun _ h9 => h9) rfl dX6_step_70 ?_
          refine lv_iload_n hx hb dX6_step_73 rfl (lv_at hl 0 rfl) ?_
          refine lv_topi (fun y9 ey9 => ?_)
          obtain rfl := ey9.trans hnb2
          refine g_ialdn (n := 256) (i := (nb p d)) hx hb hK hP (k := (k + 1)) (kd_10_1 hk) (by decide) rfl (by omega) (by decide) dX6_step_74 ?_
          rw [show u9 (k + 1) (nb p d) = J (z + 1 + 1) (nb p d) - nI 1 from (by rw [hu9, wr_ss])]
          refine lv_if_le (tgt := 79) hx hb dX6_step_75 (by decide) (fun c_10 => ?_) (fun c_10 => ?_)
          · skip
            refine lv_aload_n hx hb dX6_step_79 rfl (lv_at hl 1 rfl) ?_
            refine lv_iload_n hx hb dX6_step_80 rfl (lv_at hl 0 rfl) ?_
            refine lv_topi (fun y9 ey9 => ?_)
            obtain rfl := ey9.trans hnb2
            refine lv_iconst (v := nI 0) hx hb dX6_step_81 (by decide) ?_
            refine g_callM (M := m_X6_lay u9 k (nb p d) (nI 0)) hD hS hA (va_runV (As := [.int (nI (nb p d)), .int (nI 0)]) (rest := []) ⟨hx, hb, hml, hown, hts⟩ (c_X6_lay l D cs ad u9 H.size k hk (nb p d) (by omega) (nI 0)) (cwV 2 hts gX6_step_X6_lay rfl rfl rfl (by decide +kernel) ⟨Nat.le_of_ble_eq_true rfl, Nat.le_of_ble_eq_true rfl⟩) (g_preV hP hD hK hN (k := k) hk (by decide) rfl rfl rfl rfl) rfl rfl hl.1 rfl (lv_room (Nat.le_of_ble_eq_true rfl)) dX6_step_82 ⟨Nat.le_of_ble_eq_true rfl, Nat.le_of_ble_eq_true rfl⟩) (fun u11 H locs hu11 hP hD hS => ?_)
            have hdz : J (z + 1 + 1) (nb p d) - nI 1 = nI 0 := by rw [hh9]; exact (dig_t h9 (by omega) hh0).2.1 ((dig_t h9 (by omega) hh0).1.mp (by rw [← hh9]; exact c_10))
            have hly : Rk z (m_X3_put J (z + 1) (nI (nb p d)) (nI 0)) k I u11 N := by rw [hu11, ← put_put hnb1 (J (z + 1 + 1) (nb p d) - nI 1)]; exact ⟨hdg.1.lay hnb1 _, by simp only [m_X6_lay]; rw [wr_n _ _ _ (by omega), wr_n _ _ _ (by omega), wr_n _ _ _ (by omega)]; exact hdg.2⟩
            skip
            refine lv_aload_n hx hb dX6_step_85 rfl (lv_at hl 1 rfl) ?_
            refine lv_iload_n hx hb dX6_step_86 rfl (lv_at hl 2 rfl) ?_
            refine lv_iconst (v := nI 5) hx hb dX6_step_87 (by decide) ?_
            refine lv_iconst (v := nI 1) hx hb dX6_step_88 (by decide) ?_
            refine g_callM (M := wr u11 (k + 4) (31 * mn + 5) (u11 (k + 4) (31 * mn + 5) + (nI 1))) hD hS hA (va_runV (As := [.int (nI mn), .int (nI 5), .int (nI 1)]) (rest := []) ⟨hx, hb, hml, hown, hts⟩ (c_X6_add l D cs ad u11 H.size k hk mn (by omega) 5 (by omega) (nI 1)) (cwV 3 hts gX6_step_X6_add rfl rfl rfl (by decide +kernel) ⟨Nat.le_of_ble_eq_true rfl, Nat.le_of_ble_eq_true rfl⟩) (g_preV hP hD hK hN (k := k) hk (by decide) rfl rfl rfl rfl) rfl rfl hl.1 rfl (lv_room (Nat.le_of_ble_eq_true rfl)) dX6_step_89 ⟨Nat.le_of_ble_eq_true rfl, Nat.le_of_ble_eq_true rfl⟩) (fun u12 H locs hu12 hP hD hS => ?_)
            refine lv_aload_n hx hb dX6_step_92 rfl (lv_at hl 1 rfl) ?_
            refine g_get (κ := 10) (ci := 6) (v := .ref (ad (k + 5))) (C := RX6) (T := TX6) (N := 8) hx hb hts hown hK hP (k := k) hk (by decide) rfl (fun _ h => List.mem_cons_of_mem _ (List.mem_append_right _ h)) rfl 5 (by decide) (hts _ (List.mem_of_getElem? (i := 2) rfl)) (fun _ h9 => h9) rfl dX6_step_93 ?_
            refine lv_iconst (v := nI 3) hx hb dX6_step_96 (by decide) ?_
            refine lv_dup2_11 hx hb dX6_step_97 rfl rfl ?_
            refine g_ialdn (n := 4) (i := 3) hx hb hK hP (k := (k + 5)) (kd_10_5 hk) (by decide) rfl (by omega) (by decide) dX6_step_98 ?_
            refine lv_iconst (v := nI 1) hx hb dX6_step_99 (by decide) ?_
            refine lv_iadd hx hb dX6_step_100 ?_
            refine g_iastn (n := 4) (i := 3) hx hb hK hP hD hS (k := (k + 5)) (kd_10_5 hk) (by decide) (fun _ => rfl) (by omega) (by decide) dX6_step_101 (fun u13 H locs hu13 hP hD hS => ?_)
            obtain ⟨G5, hG5⟩ : ∃ G, G = wr (m_X3_put J (z + 1) (nI (nb p d)) (nI 0)) (z + 8 + (1 + mn)) 5 (m_X3_put J (z + 1) (nI (nb p d)) (nI 0) (z + 8 + (1 + mn)) 5 + nI 1) := ⟨_, rfl⟩
            have hr5 : Rk z G5 k I u13 N := by rw [hG5, hu13, hu12, hly.1.t (by omega) (by decide), wr_n _ _ _ (by omega)]; exact ⟨hly.1.w5 _ hmn hN8, by rw [wr_n _ _ _ (by omega), wr_n _ _ _ (by omega)]; exact hly.2⟩
            skip
            refine lv_iconst (v := nI 0) hx hb dX6_step_102 (by decide) ?_
            refine lv_istore (lv' := [(4, .int (nI 0)), (3, .int (f_X6_beside (nI p) (nI d))), (0, .ref (ad k)), (1, .int (nI mn)), (2, .int (nI d))]) hx hb dX6_step_103 hl (by decide) rfl (fun ls hl => ?_)
            suffices KL105 : ∀ (fuel : Nat) (i : Nat) (v : Mm) (H : Heap) (locs : List Loc) (ls : Array Slot), (i ≤ N) → (Rk z (sB G5 z (nI (nb p d)) (nI 0) i) k I v N) → N - i < fuel → va_P D vwCl (gw kM cs ad v) H → va_D (gA kM ad sz) (gw kM cs ad v) → va_S (gA kM ad sz) s.heap H locs → lv_has ls 5 [(4, .int (nI i)), (3, .int (f_X6_beside (nI p) (nI d))), (0, .ref (ad k)), (1, .int (nI mn)), (2, .int (nI d))] → W pg l e ({ frames := 3, cells := 0, slots := 0, locals := 68 }) s m args below meth c H locs 0 0 (MQ below (va_Qv (fun u => Rk z (stD J z (z + 8 + (1 + mn)) N (nI d)) k I u N) (wat kM cs D ad (gA kM ad sz)) (gA kM ad sz)) args s 0 0 (gA kM ad sz)) (F0 m 105 ls []) from KL105 _ 0 u13 _ _ _ (Nat.zero_le _) (by rw [sB_0]; exact hr5) (Nat.lt_succ_self _) hP hD hS (lv_sub hl [0, 1, 2, 3, 4] rfl)
            intro fuel105
            induction fuel105 with
            | zero => intro _ _ _ _ _ _ _ hm; exact absurd hm (Nat.not_lt_zero _)
            | succ fuel105 ih105 =>
              intro i v H locs ls hi hv hm105 hP hD hS hl
              refine lv_iload hx hb dX6_step_105 (lv_at hl 0 rfl) ?_
              refine lv_aload_n hx hb dX6_step_107 rfl (lv_at hl 2 rfl) ?_
              refine g_get (κ := 10) (ci := 6) (v := .int (v k 6)) (C := RX6) (T := TX6) (N := 8) hx hb hts hown hK hP (k := k) hk (by decide) rfl (fun _ h => List.mem_cons_of_mem _ (List.mem_append_right _ h)) rfl 6 (by decide) (hts _ (List.mem_of_getElem? (i := 3) rfl)) (fun _ h9 => h9) rfl dX6_step_108 ?_
              rw [show v k 6 = nI N from hv.1.n]
              refine lv_icmp_ge (tgt := 139) hx hb dX6_step_111 (by decide) (fun c_14 => ?_) (fun c_14 => ?_)
              · skip
                have nc_14 : N ≤ i := (nI_leI (a := N) (b := i) (by omega) (by omega)).mp c_14
                refine lv_aload_n hx hb dX6_step_139 rfl (lv_at hl 2 rfl) ?_
                refine lv_iload_n hx hb dX6_step_140 rfl (lv_at hl 3 rfl) ?_
                refine lv_iconst (v := nI 0) hx hb dX6_step_141 (by decide) ?_
                refine lv_iload_n hx hb dX6_step_142 rfl (lv_at hl 1 rfl) ?_
                refine lv_topi (fun y9 ey9 => ?_)
                obtain rfl := ey9.trans hnb2
                refine g_callM (M := wr v (k + 4) (31 * mn + 0) (nI (nb p d))) hD hS hA (va_runV (As := [.int (nI mn), .int (nI 0), .int (nI (nb p d))]) (rest := []) ⟨hx, hb, hml, hown, hts⟩ (c_X6_set l D cs ad v H.size k hk mn (by omega) 0 (by omega) (nI (nb p d))) (cwV 3 hts gX6_step_X6_set rfl rfl rfl (by decide +kernel) ⟨Nat.le_of_ble_eq_true rfl, Nat.le_of_ble_eq_true rfl⟩) (g_preV hP hD hK hN (k := k) hk (by decide) rfl rfl rfl rfl) rfl rfl hl.1 rfl (lv_room (Nat.le_of_ble_eq_true rfl)) dX6_step_143 ⟨Nat.le_of_ble_eq_true rfl, Nat.le_of_ble_eq_true rfl⟩) (fun u15 H locs hu15 hP hD hS => ?_)
                obtain ⟨G9, hG9⟩ : ∃ G, G = wr (sB G5 z (nI (nb p d)) (nI 0) N) (z + 8 + (1 + mn)) 0 (nI (nb p d)) := ⟨_, rfl⟩
                have hr9 : Rk z G9 k I u15 N := by rw [hG9, hu15]; rw [show i = N from by omega] at hv; exact ⟨hv.1.wt (f := 0) _ (by omega) (by decide), by rw [wr_n _ _ _ (by omega)]; exact hv.2⟩
                have hw9 : G9 (z + 8 + (1 + mn)) 7 = nI w0 := by rw [hG9, wr_sn _ _ _ (by decide), sB_i (by decide), hG5, wr_sn _ _ _ (by decide), put_o (by omega)]; exact hw0
                skip
                refine lv_aload_n hx hb dX6_step_146 rfl (lv_at hl 2 rfl) ?_
                refine lv_iload_n hx hb dX6_step_147 rfl (lv_at hl 3 rfl) ?_
                refine g_callv hD hS hA (va_runV (As := [.int (nI mn)]) (rest := []) ⟨hx, hb, hml, hown, hts⟩ (c_X6_done l D cs ad u15 H.size k hk mn (by omega) z G9 N hr9.1 hN8 w0 hw9 hw1 hw2) (cwV 1 hts gX6_step_X6_done rfl rfl rfl (by decide +kernel) ⟨Nat.le_of_ble_eq_true rfl, Nat.le_of_ble_eq_true rfl⟩) (g_preV hP hD hK hN (k := k) hk (by decide) rfl rfl rfl rfl) rfl rfl hl.1 rfl (lv_room (Nat.le_of_ble_eq_true rfl)) dX6_step_148 ⟨Nat.le_of_ble_eq_true rfl, Nat.le_of_ble_eq_true rfl⟩) (fun u16 H locs hu16 hP hD hS => ?_)
                exact g_vret hx hb hr hlocks hP hD hS (by rw [stD_dug (by rw [hb5, sort_in hnb1]; exact c_3) (by rw [hb5, sort_in hnb1, hh9]; exact (dig_t h9 (by omega) hh0).2.2) ((lit_R hp hpp).mpr ((litC_open hIV hop9).mp (bi_cd1 c_8))) (by rw [hb5, sort_in hnb1, hh9]; exact (dig_t h9 (by omega) hh0).1.mp (by rw [← hh9]; exact c_10)), hb5, sort_in hnb1, hdz, dug, ← hG5, ← hG9]; exact ⟨hu16.1, hu16.2.trans hr9.2⟩) dX6_step_151
              · skip
                have nc_14 : ¬ N ≤ i := fun z9_ => c_14 ((nI_leI (a := N) (b := i) (by omega) (by omega)).mpr z9_)
                refine lv_aload_n hx hb dX6_step_114 rfl (lv_at hl 2 rfl) ?_
                refine lv_iload hx hb dX6_step_115 (lv_at hl 0 rfl) ?_
                refine lv_iconst (v := nI 0) hx hb dX6_step_117 (by decide) ?_
                refine g_callF (F := v (k + 4) (31 * i + 0)) hD hS hA (va_runV (As := [.int (nI i), .int (nI 0)]) (rest := []) ⟨hx, hb, hml, hown, hts⟩ (c_X6_get l D cs ad v H.size k hk i (by omega) 0 (by omega)) (cwV 2 hts gX6_step_X6_get rfl rfl rfl (by decide +kernel) ⟨Nat.le_of_ble_eq_true rfl, Nat.le_of_ble_eq_true rfl⟩) (g_preV hP hD hK hN (k := k) hk (by decide) rfl rfl rfl rfl) rfl rfl hl.1 rfl (lv_room (Nat.le_of_ble_eq_true rfl)) dX6_step_118 ⟨Nat.le_of_ble_eq_true rfl, Nat.le_of_ble_eq_true rfl⟩) (fun H locs hP hD hS => ?_)
                refine lv_iload_n hx hb dX6_step_121 rfl (lv_at hl 1 rfl) ?_
                refine lv_topi (fun y9 ey9 => ?_)
                obtain rfl := ey9.trans hnb2
                refine lv_icmp_ne (tgt := 133) hx hb dX6_step_122 (by decide) (fun c_17 => ?_) (fun c_17 => ?_)
                · skip
                  refine lv_iinc (v := nI (i + 1)) (lv' := [(4, .int (nI (i + 1))), (3, .int (f_X6_beside (nI p) (nI d))), (0, .ref (ad k)), (1, .int (nI mn)), (2, .int (nI d))]) hx hb dX6_step_133 hl (k := 0) rfl (nI_1 i) (by decide) rfl (fun ls hl => ?_)
                  refine lv_goto (tgt := 105) hx hb dX6_step_136 (by decide) ?_
                  exact ih105 (i + 1) v _ _ _ (by omega) (by rw [sB_f (fun y => c_17 (((hv.1.t (i := i) (f := 0) (by omega) (by decide)).trans (sB_9 (by decide))).trans y))]; exact hv) (by omega) hP hD hS (lv_sub hl [0, 1, 2, 3, 4] rfl)
                · skip
                  refine lv_aload_n hx hb dX6_step_125 rfl (lv_at hl 2 rfl) ?_
                  refine lv_iload hx hb dX6_step_126 (lv_at hl 0 rfl) ?_
                  refine lv_iconst (v := nI 4) hx hb dX6_step_128 (by decide) ?_
                  refine lv_iconst (v := nI 0) hx hb dX6_step_129 (by decide) ?_
                  refine g_callM (M := wr v (k + 4) (31 * i + 4) (nI 0)) hD hS hA (va_runV (As := [.int (nI i), .int (nI 4), .int (nI 0)]) (rest := []) ⟨hx, hb, hml, hown, hts⟩ (c_X6_set l D cs ad v H.size k hk i (by omega) 4 (by omega) (nI 0)) (cwV 3 hts gX6_step_X6_set rfl rfl rfl (by decide +kernel) ⟨Nat.le_of_ble_eq_true rfl, Nat.le_of_ble_eq_true rfl⟩) (g_preV hP hD hK hN (k := k) hk (by decide) rfl rfl rfl rfl) rfl rfl hl.1 rfl (lv_room (Nat.le_of_ble_eq_true rfl)) dX6_step_130 ⟨Nat.le_of_ble_eq_true rfl, Nat.le_of_ble_eq_true rfl⟩) (fun u18 H locs hu18 hP hD hS => ?_)
                  refine lv_iinc (v := nI (i + 1)) (lv' := [(4, .int (nI (i + 1))), (3, .int (f_X6_beside (nI p) (nI d))), (0, .ref (ad k)), (1, .int (nI mn)), (2, .int (nI d))]) hx hb dX6_step_133 hl (k := 0) rfl (nI_1 i) (by decide) rfl (fun ls hl => ?_)
                  refine lv_goto (tgt := 105) hx hb dX6_step_136 (by decide) ?_
                  exact ih105 (i + 1) u18 _ _ _ (by omega) (by rw [hu18, sB_t (((hv.1.t (i := i) (f := 0) (by omega) (by decide)).trans (sB_9 (by decide))).symm.trans c_17)]; exact ⟨hv.1.wt (f := 4) _ (by omega) (by decide), by rw [wr_n _ _ _ (by omega)]; exact hv.2⟩) (by omega) hP hD hS (lv_sub hl [0, 1, 2, 3, 4] rfl)
          · skip
            exact g_vret hx hb hr hlocks hP hD hS (by rw [stD_dig (by rw [hb5, sort_in hnb1]; exact c_3) (by rw [hb5, sort_in hnb1, hh9]; exact (dig_t h9 (by omega) hh0).2.2) ((lit_R hp hpp).mpr ((litC_open hIV hop9).mp (bi_cd1 c_8))) (by rw [hb5, sort_in hnb1, hh9]; exact fun y => c_10 (by rw [hh9]; exact (dig_t h9 (by omega) hh0).1.mpr y)), hb5, sort_in hnb1, put_snow hIV hnb1 (hRl.open0 hnb1 c_4)]; exact hdg) dX6_step_78
        · skip
          exact g_vret hx hb hr hlocks hP hD hS (by rw [stD_dark (by rw [hb5, sort_in hnb1]; exact c_3) (by rw [hb5, sort_in hnb1, hh9]; exact (dig_t h9 (by omega) hh0).2.2) (fun y => bi_cd0 c_8 ((litC_open hIV hop9).mpr ((lit_R hp hpp).mp y)))]; exact ⟨hRl.eqw hu7.1, hu7.1 k (by omega)⟩) dX6_step_58
    · skip
      refine lv_aload_n hx hb dX6_step_27 rfl (lv_at hl 1 rfl) ?_
      refine lv_iload_n hx hb dX6_step_28 rfl (lv_at hl 2 rfl) ?_
      refine g_callv hD hS hA (va_runV (As := [.int (nI mn)]) (rest := []) ⟨hx, hb, hml, hown, hts⟩ (c_X6_done l D cs ad I H.size k hk mn (by omega) z J N hRl hN8 w0 hw0 hw1 hw2) (cwV 1 hts gX6_step_X6_done rfl rfl rfl (by decide +kernel) ⟨Nat.le_of_ble_eq_true rfl, Nat.le_of_ble_eq_true rfl⟩) (g_preV hP hD hK hN (k := k) hk (by decide) rfl rfl rfl rfl) rfl rfl hl.1 rfl (lv_room (Nat.le_of_ble_eq_true rfl)) dX6_step_29 ⟨Nat.le_of_ble_eq_true rfl, Nat.le_of_ble_eq_true rfl⟩) (fun u19 H locs hu19 hP hD hS => ?_)
      exact g_vret hx hb hr hlocks hP hD hS (by rw [stD_ice (by rw [hb5, sort_in hnb1]; exact c_3)]; exact hu19) dX6_step_32
