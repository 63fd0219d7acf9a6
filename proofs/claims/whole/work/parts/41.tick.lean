section ACT
variable {z k N w : Nat} {J I v : Mm}
theorem actM_step {o : Nat} (e : f_X4_firstOrder J w = nI o) (ho : o < 4) : actM J z w N = stD J z w N (nI o) := by
  unfold actM stD
  rw [e, if_neg (nI_pos (by omega)), if_neg (fun y => absurd ((nI_leI (by decide) (by omega)).mp y) (by omega))]
theorem actM_rest {o : Nat} (e : f_X4_firstOrder J w = nI o) (ho : ¬ o < 4) (ho2 : o ≤ 6) : actM J z w N = restM J z w N := by
  unfold actM
  rw [e, if_neg (nI_pos (by omega)), if_pos (nI_le (by omega) (by omega))]
theorem actM_trade {o : Nat} (e : f_X4_firstOrder J w = nI o) (ho : o = 6) : actM J z w N = trD J z w N := by
  rw [actM_rest e (by omega) (by omega)]
  unfold restM trD
  rw [e, ho, if_neg (by decide), if_pos rfl]
theorem actM_shore {o : Nat} (e : f_X4_firstOrder J w = nI o) (ho : o = 4) : actM J z w N = dropS (m_X0_shore J z w) w := by
  rw [actM_rest e (by omega) (by omega)]
  unfold restM
  rw [e, ho, if_pos rfl]
theorem actM_wait {o : Nat} (e : f_X4_firstOrder J w = nI o) (ho : o = 5) : actM J z w N = dropS J w := by
  rw [actM_rest e (by omega) (by omega)]
  unfold restM
  rw [e, ho, if_neg (by decide), if_neg (by decide)]
theorem shore_a (h : J w 1 ≤ 0) : m_X0_shore J z w = J := by simp only [m_X0_shore]; rw [if_pos h]
theorem shore_b {p : Nat} (hp : p < 256) (e : J w 0 = nI p) (h : ¬ J (z + 1 + 3) p = 0) : m_X0_shore J z w = J := by
  simp only [m_X0_shore]
  rw [e, posts_in hp]
  by_cases g : J w 1 ≤ 0
  · rw [if_pos g]
  · rw [if_neg g, if_neg h]
theorem shore_c {p : Nat} (hp : p < 256) (e : J w 0 = nI p) (h : ¬ J w 1 ≤ 0) (h2 : J (z + 1 + 3) p = 0) (ho : opn J z p) (hz : z + 4 < w) : m_X0_shore J z w = wr (wr J (z + 1 + 3) p (nI 1)) w 1 (J w 1 + -1) := by
  simp only [m_X0_shore, m_X3_setPost]
  rw [if_neg h, e, posts_in hp, if_pos h2, wr_sn _ _ _ (by decide), e, open_in hp, wr_n _ _ _ (show z + 1 + 1 ≠ w from by omega), decide_eq_true (p := J (z + 1 + 1) p = 0) ho, if_neg (show ¬ bi true = 0 by decide), nI_clamp (by omega), wr_comm _ _ _ _ _ (show w ≠ z + 1 + 3 from by omega), sub1]
theorem max_t : ∀ o, o ≤ 60 → (if nI 0 < nI o - nI 1 then nI o - nI 1 else nI 0) = nI (o - 1) := by
  intro o ho
  have : ∀ o, o < 61 → (if nI 0 < nI o - nI 1 then nI o - nI 1 else nI 0) = nI (o - 1) := by decide +kernel
  exact this o (by omega)
theorem burn_a {o l : Nat} (eo : J w 3 = nI o) (el : J w 2 = nI l) (ho : o ≤ 60) (hl : l ≤ 9) (h : 0 < o - 1 ∨ l = 0) : m_X4_burnOil J w = wr J w 3 (nI (o - 1)) := by
  have e2 : ∀ x, wr J w 3 x w 2 = nI l := fun x => by rw [wr_sn _ _ _ (by decide)]; exact el
  simp only [m_X4_burnOil]
  by_cases h0 : o = 0
  · subst h0
    rw [eo, if_pos (show nI 0 ≤ 0 by decide), if_pos (show nI 0 = 0 from rfl), el, if_pos (by rw [show l = 0 from by omega]; decide)]
    exact (wr_id eo).symm
  · rw [eo, if_neg (show ¬ nI o ≤ 0 from fun y => absurd ((nI_leI (a := o) (b := 0) (by omega) (by decide)).mp y) (by omega)), pk_sub (show 1 ≤ o from by omega), e2, wr_ss]
    by_cases h1 : o - 1 = 0
    · rw [if_pos (by rw [h1]; rfl), if_pos (by rw [show l = 0 from by omega]; decide)]
    · rw [if_neg (show ¬ nI (o - 1) = 0 from fun y => h1 ((nI_eq (a := o - 1) (b := 0) (by omega) (by decide)).mp y))]
theorem burn_b {o l : Nat} (eo : J w 3 = nI o) (el : J w 2 = nI l) (ho : o ≤ 60) (hl : l ≤ 9) (h : ¬ 0 < o - 1) (hl0 : ¬ l = 0) : m_X4_burnOil J w = wr (wr (wr J w 3 (nI (o - 1))) w 2 (nI (l - 1))) w 3 (nI 60) := by
  have e2 : ∀ x, wr J w 3 x w 2 = nI l := fun x => by rw [wr_sn _ _ _ (by decide)]; exact el
  have nl : ¬ nI l ≤ 0 := fun y => absurd ((nI_leI (a := l) (b := 0) (by omega) (by decide)).mp y) (by omega)
  simp only [m_X4_burnOil]
  by_cases h0 : o = 0
  · subst h0
    rw [eo, if_pos (show nI 0 ≤ 0 by decide), if_pos (show nI 0 = 0 from rfl), el, if_neg nl, pk_sub (show 1 ≤ l from by omega), wr_id (J := J) (a := w) (j := 3) (x := nI (0 - 1)) (by rw [eo])]
  · rw [eo, if_neg (show ¬ nI o ≤ 0 from fun y => absurd ((nI_leI (a := o) (b := 0) (by omega) (by decide)).mp y) (by omega)), pk_sub (show 1 ≤ o from by omega), e2, wr_ss, if_pos (by rw [show o - 1 = 0 from by omega]; rfl), if_neg nl, pk_sub (show 1 ≤ l from by omega)]
theorem sB_wrz {P : Mm} {a b x : Int32} {n j : Nat} : sB (wr P z j x) z a b n = wr (sB P z a b n) z j x := by
  funext c
  by_cases e : c = z
  · subst e
    rw [sB_o (Or.inl (by omega))]
    show wrA P c (upd (P c) j x) c = wrA (sB P c a b n) c (upd (sB P c a b n c) j x) c
    rw [wrA_s, wrA_s, sB_o (Or.inl (by omega))]
  · rw [wr_n _ _ _ e]
    simp only [sB]
    rw [wr_n _ _ _ e]
theorem fall_n1 {G : Mm} {held : Nat → Prop} {c : Nat} (h : f_X3_ageAt (fallM G held z N c) (z + 1) (nI c) < nI 12 ∨ held c) : fallM G held z N (c + 1) = fallM G held z N c := by
  simp only [fallM]
  by_cases g : f_X3_ageAt (fallM G held z N c) (z + 1) (nI c) < nI 12
  · rw [if_pos g]
  · rw [if_neg g, if_pos (cd_t (h.resolve_left g))]
theorem fall_y {G : Mm} {held : Nat → Prop} {c : Nat} (h : ¬ f_X3_ageAt (fallM G held z N c) (z + 1) (nI c) < nI 12) (h2 : ¬ held c) : fallM G held z N (c + 1) = roof (fallM G held z N c) z N c := by
  simp only [fallM]
  rw [if_neg h, if_neg (by rw [cd_f h2]; decide)]
end ACT

set_option maxHeartbeats 4000000 in
set_option maxRecDepth 100000 in
theorem c_X6_act (l : Launch) (D : va_G) (cs : Nat → ClassId) (ad : Nat → Nat) (I : Mm) (sz : Nat) (k : Nat) (hk : kM.getD k 0 = 10) (mn : Nat) (hmn : mn < 8) (z : Nat) (J : Mm) (N : Nat) (hRl : Rl z J k I N) (hIV : IV J z N) (hmn : mn < N) (w0 : Nat) (hw0 : J (z + 8 + (1 + mn)) 7 = nI w0) (hw1 : 1 ≤ w0) (hw2 : w0 ≤ 24) (hfr : J (z + 8 + (1 + mn)) 4 = 0) (p : Nat) (hp : p < 256) (hpp : J (z + 8 + (1 + mn)) 0 = nI p) : MetN l yX6_act wsX6_act ({ frames := 4, cells := 0, slots := 0, locals := 92 }) kM cs D ad I sz [.ref (ad k), .int (nI mn)] (fun u => Rk z (actM J z (z + 8 + (1 + mn)) N) k I u N) 0 0 := by
  refine g_met (cc := cX6_act) (maxL := 4) (ret := none) (by decide) rfl (Nat.le_of_ble_eq_true rfl) ?_
  intro pg e s m args below meth c ls hx hb hr hml hts hown hlocks hsz hP hD hK hN hS hA hl
  have hown : s.vm.findClass RX6 = some m.cls := hown
  have hl : lv_has ls 4 [(0, .ref (ad k)), (1, .int (nI mn))] := hl
  have hN8 := hIV.1.2.1
  obtain ⟨o0, ho6, eo1, eo2⟩ := first_n hIV (show mn < 8 from by omega) hw0 hw1 hw2
  have hop9 : opn J z p := (hIV.2.2.2.2.1 mn hmn).2.2 hfr p hp hpp
  refine lv_aload_n hx hb dX6_act_0 rfl (lv_at hl 0 rfl) ?_
  refine lv_iload_n hx hb dX6_act_1 rfl (lv_at hl 1 rfl) ?_
  refine lv_bipush (v := nI 7) hx hb dX6_act_2 (by decide) ?_
  refine g_callF (F := I (k + 4) (31 * mn + 7)) hD hS hA (va_runV (As := [.int (nI mn), .int (nI 7)]) (rest := []) ⟨hx, hb, hml, hown, hts⟩ (c_X6_get l D cs ad I s.heap.size k hk mn (by omega) 7 (by omega)) (cwV 2 hts gX6_act_X6_get rfl rfl rfl (by decide +kernel) ⟨Nat.le_of_ble_eq_true rfl, Nat.le_of_ble_eq_true rfl⟩) (g_preV hP hD hK hN (k := k) hk (by decide) rfl rfl rfl rfl) rfl rfl hl.1 rfl (lv_room (Nat.le_of_ble_eq_true rfl)) dX6_act_4 ⟨Nat.le_of_ble_eq_true rfl, Nat.le_of_ble_eq_true rfl⟩) (fun H locs hP hD hS => ?_)
  rw [show I (k + 4) (31 * mn + 7) = nI o0 from ((hRl.o0 (by omega)).trans eo1)]
  refine lv_istore_n (lv' := [(2, .int (nI o0)), (0, .ref (ad k)), (1, .int (nI mn))]) hx hb dX6_act_7 rfl hl (by decide) rfl (fun ls hl => ?_)
  refine lv_aload_n hx hb dX6_act_8 rfl (lv_at hl 1 rfl) ?_
  refine lv_iload_n hx hb dX6_act_9 rfl (lv_at hl 2 rfl) ?_
  refine lv_iconst (v := nI 0) hx hb dX6_act_10 (by decide) ?_
  refine g_callF (F := I (k + 4) (31 * mn + 0)) hD hS hA (va_runV (As := [.int (nI mn), .int (nI 0)]) (rest := []) ⟨hx, hb, hml, hown, hts⟩ (c_X6_get l D cs ad I H.size k hk mn (by omega) 0 (by omega)) (cwV 2 hts gX6_act_X6_get rfl rfl rfl (by decide +kernel) ⟨Nat.le_of_ble_eq_true rfl, Nat.le_of_ble_eq_true rfl⟩) (g_preV hP hD hK hN (k := k) hk (by decide) rfl rfl rfl rfl) rfl rfl hl.1 rfl (lv_room (Nat.le_of_ble_eq_true rfl)) dX6_act_11 ⟨Nat.le_of_ble_eq_true rfl, Nat.le_of_ble_eq_true rfl⟩) (fun H locs hP hD hS => ?_)
  rw [show I (k + 4) (31 * mn + 0) = nI p from ((hRl.t (by omega) (by decide)).trans hpp)]
  refine lv_istore_n (lv' := [(3, .int (nI p)), (2, .int (nI o0)), (0, .ref (ad k)), (1, .int (nI mn))]) hx hb dX6_act_14 rfl hl (by decide) rfl (fun ls hl => ?_)
  refine lv_iload_n hx hb dX6_act_15 rfl (lv_at hl 1 rfl) ?_
  refine lv_iconst (v := nI 4) hx hb dX6_act_16 (by decide) ?_
  refine lv_icmp_ge (tgt := 29) hx hb dX6_act_17 (by decide) (fun c_1 => ?_) (fun c_1 => ?_)
  · skip
    have nc_1 : 4 ≤ o0 := (nI_leI (a := 4) (b := o0) (by omega) (by omega)).mp c_1
    refine lv_iload_n hx hb dX6_act_29 rfl (lv_at hl 1 rfl) ?_
    refine lv_bipush (v := nI 6) hx hb dX6_act_30 (by decide) ?_
    refine lv_icmp_ne (tgt := 43) hx hb dX6_act_32 (by decide) (fun c_2 => ?_) (fun c_2 => ?_)
    · skip
      have nc_2 : ¬ o0 = 6 := fun z9_ => c_2 ((nI_eq (a := o0) (b := 6) (by omega) (by omega)).mpr z9_)
      refine lv_iload_n hx hb dX6_act_43 rfl (lv_at hl 1 rfl) ?_
      refine lv_iconst (v := nI 4) hx hb dX6_act_44 (by decide) ?_
      refine lv_icmp_ne (tgt := 80) hx hb dX6_act_45 (by decide) (fun c_3 => ?_) (fun c_3 => ?_)
      · skip
        have nc_3 : ¬ o0 = 4 := fun z9_ => c_3 ((nI_eq (a := o0) (b := 4) (by omega) (by omega)).mpr z9_)
        refine lv_aload_n hx hb dX6_act_80 rfl (lv_at hl 2 rfl) ?_
        refine lv_iload_n hx hb dX6_act_81 rfl (lv_at hl 3 rfl) ?_
        refine g_callv hD hS hA (va_runV (As := [.int (nI mn)]) (rest := []) ⟨hx, hb, hml, hown, hts⟩ (c_X6_done l D cs ad I H.size k hk mn (by omega) z J N hRl hN8 w0 hw0 hw1 hw2) (cwV 1 hts gX6_act_X6_done rfl rfl rfl (by decide +kernel) ⟨Nat.le_of_ble_eq_true rfl, Nat.le_of_ble_eq_true rfl⟩) (g_preV hP hD hK hN (k := k) hk (by decide) rfl rfl rfl rfl) rfl rfl hl.1 rfl (lv_room (Nat.le_of_ble_eq_true rfl)) dX6_act_82 ⟨Nat.le_of_ble_eq_true rfl, Nat.le_of_ble_eq_true rfl⟩) (fun u4 H locs hu4 hP hD hS => ?_)
        exact g_vret hx hb hr hlocks hP hD hS (by rw [actM_wait eo2 (by have := nc_2; have := nc_3; omega)]; exact hu4) dX6_act_85
      · skip
        have nc_3 : o0 = 4 := (nI_eq (a := o0) (b := 4) (by omega) (by omega)).mp c_3
        refine lv_aload_n hx hb dX6_act_48 rfl (lv_at hl 2 rfl) ?_
        refine g_get (κ := 10) (ci := 6) (v := .ref (ad (k + 3))) (C := RX6) (T := TX6) (N := 8) hx hb hts hown hK hP (k := k) hk (by decide) rfl (fun _ h => List.mem_cons_of_mem _ (List.mem_append_right _ h)) rfl 3 (by decide) (hts _ (List.mem_of_getElem? (i := 1) rfl)) (fun _ h9 => h9) rfl dX6_act_49 ?_
        refine lv_iload_n hx hb dX6_act_52 rfl (lv_at hl 0 rfl) ?_
        refine g_ialdn (n := 256) (i := p) hx hb hK hP (k := (k + 3)) (kd_10_3 hk) (by decide) rfl (by omega) (by decide) dX6_act_53 ?_
        rw [show I (k + 3) p = J (z + 1 + 3) p from (hRl.c3 (by omega))]
        refine lv_if_ne (tgt := 80) hx hb dX6_act_54 (by decide) (fun c_5 => ?_) (fun c_5 => ?_)
        · skip
          refine lv_aload_n hx hb dX6_act_80 rfl (lv_at hl 2 rfl) ?_
          refine lv_iload_n hx hb dX6_act_81 rfl (lv_at hl 3 rfl) ?_
          refine g_callv hD hS hA (va_runV (As := [.int (nI mn)]) (rest := []) ⟨hx, hb, hml, hown, hts⟩ (c_X6_done l D cs ad I H.size k hk mn (by omega) z J N hRl hN8 w0 hw0 hw1 hw2) (cwV 1 hts gX6_act_X6_done rfl rfl rfl (by decide +kernel) ⟨Nat.le_of_ble_eq_true rfl, Nat.le_of_ble_eq_true rfl⟩) (g_preV hP hD hK hN (k := k) hk (by decide) rfl rfl rfl rfl) rfl rfl hl.1 rfl (lv_room (Nat.le_of_ble_eq_true rfl)) dX6_act_82 ⟨Nat.le_of_ble_eq_true rfl, Nat.le_of_ble_eq_true rfl⟩) (fun u6 H locs hu6 hP hD hS => ?_)
          exact g_vret hx hb hr hlocks hP hD hS (by rw [actM_shore eo2 nc_3, shore_b hp hpp c_5]; exact hu6) dX6_act_85
        · skip
          refine lv_aload_n hx hb dX6_act_57 rfl (lv_at hl 2 rfl) ?_
          refine lv_iload_n hx hb dX6_act_58 rfl (lv_at hl 3 rfl) ?_
          refine lv_iconst (v := nI 1) hx hb dX6_act_59 (by decide) ?_
          refine g_callF (F := I (k + 4) (31 * mn + 1)) hD hS hA (va_runV (As := [.int (nI mn), .int (nI 1)]) (rest := []) ⟨hx, hb, hml, hown, hts⟩ (c_X6_get l D cs ad I H.size k hk mn (by omega) 1 (by omega)) (cwV 2 hts gX6_act_X6_get rfl rfl rfl (by decide +kernel) ⟨Nat.le_of_ble_eq_true rfl, Nat.le_of_ble_eq_true rfl⟩) (g_preV hP hD hK hN (k := k) hk (by decide) rfl rfl rfl rfl) rfl rfl hl.1 rfl (lv_room (Nat.le_of_ble_eq_true rfl)) dX6_act_60 ⟨Nat.le_of_ble_eq_true rfl, Nat.le_of_ble_eq_true rfl⟩) (fun H locs hP hD hS => ?_)
          rw [show I (k + 4) (31 * mn + 1) = J (z + 8 + (1 + mn)) 1 from (hRl.t (by omega) (by decide))]
          refine lv_if_le (tgt := 80) hx hb dX6_act_63 (by decide) (fun c_7 => ?_) (fun c_7 => ?_)
          · skip
            refine lv_aload_n hx hb dX6_act_80 rfl (lv_at hl 2 rfl) ?_
            refine lv_iload_n hx hb dX6_act_81 rfl (lv_at hl 3 rfl) ?_
            refine g_callv hD hS hA (va_runV (As := [.int (nI mn)]) (rest := []) ⟨hx, hb, hml, hown, hts⟩ (c_X6_done l D cs ad I H.size k hk mn (by omega) z J N hRl hN8 w0 hw0 hw1 hw2) (cwV 1 hts gX6_act_X6_done rfl rfl rfl (by decide +kernel) ⟨Nat.le_of_ble_eq_true rfl, Nat.le_of_ble_eq_true rfl⟩) (g_preV hP hD hK hN (k := k) hk (by decide) rfl rfl rfl rfl) rfl rfl hl.1 rfl (lv_room (Nat.le_of_ble_eq_true rfl)) dX6_act_82 ⟨Nat.le_of_ble_eq_true rfl, Nat.le_of_ble_eq_true rfl⟩) (fun u8 H locs hu8 hP hD hS => ?_)
            exact g_vret hx hb hr hlocks hP hD hS (by rw [actM_shore eo2 nc_3, shore_a c_7]; exact hu8) dX6_act_85
          · skip
            refine lv_aload_n hx hb dX6_act_66 rfl (lv_at hl 2 rfl) ?_
            refine g_get (κ := 10) (ci := 6) (v := .ref (ad (k + 3))) (C := RX6) (T := TX6) (N := 8) hx hb hts hown hK hP (k := k) hk (by decide) rfl (fun _ h => List.mem_cons_of_mem _ (List.mem_append_right _ h)) rfl 3 (by decide) (hts _ (List.mem_of_getElem? (i := 1) rfl)) (fun _ h9 => h9) rfl dX6_act_67 ?_
            refine lv_iload_n hx hb dX6_act_70 rfl (lv_at hl 0 rfl) ?_
            refine lv_iconst (v := nI 1) hx hb dX6_act_71 (by decide) ?_
            refine g_iastn (n := 256) (i := p) hx hb hK hP hD hS (k := (k + 3)) (kd_10_3 hk) (by decide) (fun _ => rfl) (by omega) (by decide) dX6_act_72 (fun u9 H locs hu9 hP hD hS => ?_)
            refine lv_aload_n hx hb dX6_act_73 rfl (lv_at hl 2 rfl) ?_
            refine lv_iload_n hx hb dX6_act_74 rfl (lv_at hl 3 rfl) ?_
            refine lv_iconst (v := nI 1) hx hb dX6_act_75 (by decide) ?_
            refine lv_iconst (v := -1) hx hb dX6_act_76 (by decide) ?_
            refine g_callM (M := wr u9 (k + 4) (31 * mn + 1) (u9 (k + 4) (31 * mn + 1) + (-1))) hD hS hA (va_runV (As := [.int (nI mn), .int (nI 1), .int (-1)]) (rest := []) ⟨hx, hb, hml, hown, hts⟩ (c_X6_add l D cs ad u9 H.size k hk mn (by omega) 1 (by omega) (-1)) (cwV 3 hts gX6_act_X6_add rfl rfl rfl (by decide +kernel) ⟨Nat.le_of_ble_eq_true rfl, Nat.le_of_ble_eq_true rfl⟩) (g_preV hP hD hK hN (k := k) hk (by decide) rfl rfl rfl rfl) rfl rfl hl.1 rfl (lv_room (Nat.le_of_ble_eq_true rfl)) dX6_act_77 ⟨Nat.le_of_ble_eq_true rfl, Nat.le_of_ble_eq_true rfl⟩) (fun u10 H locs hu10 hP hD hS => ?_)
            obtain ⟨G9, hG9⟩ : ∃ G, G = wr (wr J (z + 1 + 3) p (nI 1)) (z + 8 + (1 + mn)) 1 (J (z + 8 + (1 + mn)) 1 + -1) := ⟨_, rfl⟩
            have hr9 : Rk z G9 k I u10 N := by
              have a := (hRl.wc 2 p (nI 1) (by decide)).wt (i := mn) (f := 1) (J (z + 8 + (1 + mn)) 1 + -1) (by omega) (by decide)
              rw [hG9, hu10, hu9, wr_n _ _ _ (show k + 4 ≠ k + 3 from by omega), hRl.t (i := mn) (f := 1) (by omega) (by decide)]
              exact ⟨a, by rw [wr_n _ _ _ (by omega), wr_n _ _ _ (by omega)]⟩
            have hw9 : G9 (z + 8 + (1 + mn)) 7 = nI w0 := by rw [hG9, wr_sn _ _ _ (by decide), wr_n _ _ _ (by omega)]; exact hw0
            skip
            refine lv_aload_n hx hb dX6_act_80 rfl (lv_at hl 2 rfl) ?_
            refine lv_iload_n hx hb dX6_act_81 rfl (lv_at hl 3 rfl) ?_
            refine g_callv hD hS hA (va_runV (As := [.int (nI mn)]) (rest := []) ⟨hx, hb, hml, hown, hts⟩ (c_X6_done l D cs ad u10 H.size k hk mn (by omega) z G9 N hr9.1 hN8 w0 hw9 hw1 hw2) (cwV 1 hts gX6_act_X6_done rfl rfl rfl (by decide +kernel) ⟨Nat.le_of_ble_eq_true rfl, Nat.le_of_ble_eq_true rfl⟩) (g_preV hP hD hK hN (k := k) hk (by decide) rfl rfl rfl rfl) rfl rfl hl.1 rfl (lv_room (Nat.le_of_ble_eq_true rfl)) dX6_act_82 ⟨Nat.le_of_ble_eq_true rfl, Nat.le_of_ble_eq_true rfl⟩) (fun u11 H locs hu11 hP hD hS => ?_)
            exact g_vret hx hb hr hlocks hP hD hS (by rw [actM_shore eo2 nc_3, shore_c hp hpp c_7 c_5 hop9 (by omega), ← hG9]; exact ⟨hu11.1, hu11.2.trans hr9.2⟩) dX6_act_85
    · skip
      have nc_2 : o0 = 6 := (nI_eq (a := o0) (b := 6) (by omega) (by omega)).mp c_2
      refine lv_aload_n hx hb dX6_act_35 rfl (lv_at hl 2 rfl) ?_
      refine lv_iload_n hx hb dX6_act_36 rfl (lv_at hl 3 rfl) ?_
      refine g_callv hD hS hA (va_runV (As := [.int (nI mn)]) (rest := []) ⟨hx, hb, hml, hown, hts⟩ (c_X6_trade l D cs ad I H.size k hk mn (by omega) z J N hRl hIV hmn w0 hw0 hw1 hw2 hfr p hp hpp) (cwV 1 hts gX6_act_X6_trade rfl rfl rfl (by decide +kernel) ⟨Nat.le_of_ble_eq_true rfl, Nat.le_of_ble_eq_true rfl⟩) (g_preV hP hD hK hN (k := k) hk (by decide) rfl rfl rfl rfl) rfl rfl hl.1 rfl (lv_room (Nat.le_of_ble_eq_true rfl)) dX6_act_37 ⟨Nat.le_of_ble_eq_true rfl, Nat.le_of_ble_eq_true rfl⟩) (fun u12 H locs hu12 hP hD hS => ?_)
      refine lv_goto (tgt := 85) hx hb dX6_act_40 (by decide) ?_
      exact g_vret hx hb hr hlocks hP hD hS (by rw [actM_trade eo2 (by have := nc_2; omega)]; exact hu12) dX6_act_85
  · skip
    have nc_1 : ¬ 4 ≤ o0 := fun z9_ => c_1 ((nI_leI (a := 4) (b := o0) (by omega) (by omega)).mpr z9_)
    refine lv_aload_n hx hb dX6_act_20 rfl (lv_at hl 2 rfl) ?_
    refine lv_iload_n hx hb dX6_act_21 rfl (lv_at hl 3 rfl) ?_
    refine lv_iload_n hx hb dX6_act_22 rfl (lv_at hl 1 rfl) ?_
    refine g_callv hD hS hA (va_runV (As := [.int (nI mn), .int (nI o0)]) (rest := []) ⟨hx, hb, hml, hown, hts⟩ (c_X6_step l D cs ad I H.size k hk mn (by omega) o0 (by omega) z J N hRl hIV hmn w0 hw0 hw1 hw2 hfr p hp hpp) (cwV 2 hts gX6_act_X6_step rfl rfl rfl (by decide +kernel) ⟨Nat.le_of_ble_eq_true rfl, Nat.le_of_ble_eq_true rfl⟩) (g_preV hP hD hK hN (k := k) hk (by decide) rfl rfl rfl rfl) rfl rfl hl.1 rfl (lv_room (Nat.le_of_ble_eq_true rfl)) dX6_act_23 ⟨Nat.le_of_ble_eq_true rfl, Nat.le_of_ble_eq_true rfl⟩) (fun u13 H locs hu13 hP hD hS => ?_)
    refine lv_goto (tgt := 85) hx hb dX6_act_26 (by decide) ?_
    exact g_vret hx hb hr hlocks hP hD hS (by rw [actM_step eo2 (by omega)]; exact hu13) dX6_act_85

theorem roof_eq {F : Mm} {z N c : Nat} : roof F z N c = sB (wr (m_X3_put F (z + 1) (nI c) (nI 2)) z 5 (m_X3_put F (z + 1) (nI c) (nI 2) z 5 + nI 1)) z (nI c) (nI 1) N := by
  rw [sB_wrz]
  simp only [roof]
  rw [sB_o (Or.inl (show z < z + 9 from by omega))]

set_option maxHeartbeats 4000000 in
set_option maxRecDepth 100000 in
theorem c_X6_tickOn (l : Launch) (D : va_G) (cs : Nat → ClassId) (ad : Nat → Nat) (I : Mm) (sz : Nat) (k : Nat) (hk : kM.getD k 0 = 10) (z : Nat) (J : Mm) (N : Nat) (hRl : Rl z J k I N) (hIV : IV J z N) : MetN l yX6_tickOn wsX6_tickOn ({ frames := 5, cells := 0, slots := 0, locals := 115 }) kM cs D ad I sz [.ref (ad k)] (fun u => Rk z (tickM J z N) k I u N) 0 0 := by
  refine g_met (cc := cX6_tickOn) (maxL := 3) (ret := none) (by decide) rfl (Nat.le_of_ble_eq_true rfl) ?_
  intro pg e s m args below meth c ls hx hb hr hml hts hown hlocks hsz hP hD hK hN hS hA hl
  have hown : s.vm.findClass RX6 = some m.cls := hown
  have hl : lv_has ls 3 [(0, .ref (ad k))] := hl
  have hN8 := hIV.1.2.1
  refine lv_iconst (v := nI 0) hx hb dX6_tickOn_0 (by decide) ?_
  refine lv_istore_n (lv' := [(1, .int (nI 0)), (0, .ref (ad k))]) hx hb dX6_tickOn_1 rfl hl (by decide) rfl (fun ls hl => ?_)
  suffices KL2 : ∀ (fuel : Nat) (i : Nat) (v : Mm) (H : Heap) (locs : List Loc) (ls : Array Slot), (i ≤ N) → (Rk z (burnA J z i) k I v N) → N - i < fuel → va_P D vwCl (gw kM cs ad v) H → va_D (gA kM ad sz) (gw kM cs ad v) → va_S (gA kM ad sz) s.heap H locs → lv_has ls 3 [(1, .int (nI i)), (0, .ref (ad k))] → W pg l e ({ frames := 5, cells := 0, slots := 0, locals := 115 }) s m args below meth c H locs 0 0 (MQ below (va_Qv (fun u => Rk z (tickM J z N) k I u N) (wat kM cs D ad (gA kM ad sz)) (gA kM ad sz)) args s 0 0 (gA kM ad sz)) (F0 m 2 ls []) from KL2 _ 0 I _ _ _ (Nat.zero_le _) (Rk.rf hRl) (Nat.lt_succ_self _) hP hD hS (lv_sub hl [0, 1] rfl)
  intro fuel2
  induction fuel2 with
  | zero => intro _ _ _ _ _ _ _ hm; exact absurd hm (Nat.not_lt_zero _)
  | succ fuel2 ih2 =>
    intro i v H locs ls hi hv hm2 hP hD hS hl
    refine lv_iload_n hx hb dX6_tickOn_2 rfl (lv_at hl 0 rfl) ?_
    refine lv_aload_n hx hb dX6_tickOn_3 rfl (lv_at hl 1 rfl) ?_
    refine g_get (κ := 10) (ci := 6) (v := .int (v k 6)) (C := RX6) (T := TX6) (N := 8) hx hb hts hown hK hP (k := k) hk (by decide) rfl (fun _ h => List.mem_cons_of_mem _ (List.mem_append_right _ h)) rfl 6 (by decide) (hts _ (List.mem_of_getElem? (i := 1) rfl)) (fun _ h9 => h9) rfl dX6_tickOn_4 ?_
    rw [show v k 6 = nI N from hv.1.n]
    refine lv_icmp_ge (tgt := 81) hx hb dX6_tickOn_7 (by decide) (fun c_1 => ?_) (fun c_1 => ?_)
    · skip
      have nc_1 : N ≤ i := (nI_leI (a := N) (b := i) (by omega) (by omega)).mp c_1
      refine lv_iconst (v := nI 0) hx hb dX6_tickOn_81 (by decide) ?_
      refine lv_istore_n (lv' := [(1, .int (nI 0)), (0, .ref (ad k))]) hx hb dX6_tickOn_82 rfl hl (by decide) rfl (fun ls hl => ?_)
      suffices KL83 : ∀ (fuel : Nat) (i : Nat) (v : Mm) (H : Heap) (locs : List Loc) (ls : Array Slot), (i ≤ N) → (Rk z (actA (burnA J z N) z N i) k I v N) → N - i < fuel → va_P D vwCl (gw kM cs ad v) H → va_D (gA kM ad sz) (gw kM cs ad v) → va_S (gA kM ad sz) s.heap H locs → lv_has ls 3 [(1, .int (nI i)), (0, .ref (ad k))] → W pg l e ({ frames := 5, cells := 0, slots := 0, locals := 115 }) s m args below meth c H locs 0 0 (MQ below (va_Qv (fun u => Rk z (tickM J z N) k I u N) (wat kM cs D ad (gA kM ad sz)) (gA kM ad sz)) args s 0 0 (gA kM ad sz)) (F0 m 83 ls []) from KL83 _ 0 v _ _ _ (Nat.zero_le _) (by rw [show i = N from by omega] at hv; exact hv) (Nat.lt_succ_self _) hP hD hS (lv_sub hl [0, 1] rfl)
      intro fuel83
      induction fuel83 with
      | zero => intro _ _ _ _ _ _ _ hm; exact absurd hm (Nat.not_lt_zero _)
      | succ fuel83 ih83 =>
        intro i v H locs ls hi hv hm83 hP hD hS hl
        refine lv_iload_n hx hb dX6_tickOn_83 rfl (lv_at hl 0 rfl) ?_
        refine lv_aload_n hx hb dX6_tickOn_84 rfl (lv_at hl 1 rfl) ?_
        refine g_get (κ := 10) (ci := 6) (v := .int (v k 6)) (C := RX6) (T := TX6) (N := 8) hx hb hts hown hK hP (k := k) hk (by decide) rfl (fun _ h => List.mem_cons_of_mem _ (List.mem_append_right _ h)) rfl 6 (by decide) (hts _ (List.mem_of_getElem? (i := 1) rfl)) (fun _ h9 => h9) rfl dX6_tickOn_85 ?_
        rw [show v k 6 = nI N from hv.1.n]
        refine lv_icmp_ge (tgt := 120) hx hb dX6_tickOn_88 (by decide) (fun c_2 => ?_) (fun c_2 => ?_)
        · skip
          have nc_2 : N ≤ i := (nI_leI (a := N) (b := i) (by omega) (by omega)).mp c_2
          refine lv_iconst (v := nI 0) hx hb dX6_tickOn_120 (by decide) ?_
          refine lv_istore_n (lv' := [(1, .int (nI 0)), (0, .ref (ad k))]) hx hb dX6_tickOn_121 rfl hl (by decide) rfl (fun ls hl => ?_)
          suffices KL122 : ∀ (fuel : Nat) (i : Nat) (v : Mm) (H : Heap) (locs : List Loc) (ls : Array Slot), (i ≤ 256) → (Rk z (gro (actA (burnA J z N) z N N) (z + 1) i) k I v N) → 256 - i < fuel → va_P D vwCl (gw kM cs ad v) H → va_D (gA kM ad sz) (gw kM cs ad v) → va_S (gA kM ad sz) s.heap H locs → lv_has ls 3 [(1, .int (nI i)), (0, .ref (ad k))] → W pg l e ({ frames := 5, cells := 0, slots := 0, locals := 115 }) s m args below meth c H locs 0 0 (MQ below (va_Qv (fun u => Rk z (tickM J z N) k I u N) (wat kM cs D ad (gA kM ad sz)) (gA kM ad sz)) args s 0 0 (gA kM ad sz)) (F0 m 122 ls []) from KL122 _ 0 v _ _ _ (Nat.zero_le _) (by rw [show i = N from by omega] at hv; rw [gro_0]; exact hv) (Nat.lt_succ_self _) hP hD hS (lv_sub hl [0, 1] rfl)
          intro fuel122
          induction fuel122 with
          | zero => intro _ _ _ _ _ _ _ hm; exact absurd hm (Nat.not_lt_zero _)
          | succ fuel122 ih122 =>
            intro i v H locs ls hi hv hm122 hP hD hS hl
            refine lv_iload_n hx hb dX6_tickOn_122 rfl (lv_at hl 0 rfl) ?_
            refine lv_sipush (v := nI 256) hx hb dX6_tickOn_123 (by decide) ?_
            refine lv_icmp_ge (tgt := 153) hx hb dX6_tickOn_126 (by decide) (fun c_3 => ?_) (fun c_3 => ?_)
            · skip
              have nc_3 : 256 ≤ i := (nI_leI (a := 256) (b := i) (by omega) (by omega)).mp c_3
              refine lv_aload_n hx hb dX6_tickOn_153 rfl (lv_at hl 1 rfl) ?_
              refine g_callv hD hS hA (va_runV (As := []) (rest := []) ⟨hx, hb, hml, hown, hts⟩ (c_X6_hold l D cs ad v H.size k hk z (gro (actA (burnA J z N) z N N) (z + 1) 256) N (by rw [show i = 256 from by omega] at hv; exact hv.1) (((hIV.burnA N (Nat.le_refl _)).actA N (Nat.le_refl _)).gro 256)) (cwV 0 hts gX6_tickOn_X6_hold rfl rfl rfl (by decide +kernel) ⟨Nat.le_of_ble_eq_true rfl, Nat.le_of_ble_eq_true rfl⟩) (g_preV hP hD hK hN (k := k) hk (by decide) rfl rfl rfl rfl) rfl rfl hl.1 rfl (lv_room (Nat.le_of_ble_eq_true rfl)) dX6_tickOn_154 ⟨Nat.le_of_ble_eq_true rfl, Nat.le_of_ble_eq_true rfl⟩) (fun u4 H locs hu4 hP hD hS => ?_)
              refine lv_iconst (v := nI 0) hx hb dX6_tickOn_157 (by decide) ?_
              refine lv_istore_n (lv' := [(1, .int (nI 0)), (0, .ref (ad k))]) hx hb dX6_tickOn_158 rfl hl (by decide) rfl (fun ls hl => ?_)
              suffices KL159 : ∀ (fuel : Nat) (i : Nat) (v : Mm) (H : Heap) (locs : List Loc) (ls : Array Slot), (i ≤ 256) → (Rk z (fallM (gro (actA (burnA J z N) z N N) (z + 1) 256) (heldP (gro (actA (burnA J z N) z N N) (z + 1) 256) z) z N i) k I v N) → (∀ c, c < 256 → (v (k + 6) c ≠ -1 ↔ (heldP (gro (actA (burnA J z N) z N N) (z + 1) 256) z) c)) → 256 - i < fuel → va_P D vwCl (gw kM cs ad v) H → va_D (gA kM ad sz) (gw kM cs ad v) → va_S (gA kM ad sz) s.heap H locs → lv_has ls 3 [(1, .int (nI i)), (0, .ref (ad k))] → W pg l e ({ frames := 5, cells := 0, slots := 0, locals := 115 }) s m args below meth c H locs 0 0 (MQ below (va_Qv (fun u => Rk z (tickM J z N) k I u N) (wat kM cs D ad (gA kM ad sz)) (gA kM ad sz)) args s 0 0 (gA kM ad sz)) (F0 m 159 ls []) from KL159 _ 0 u4 _ _ _ (Nat.zero_le _) (by rw [show i = 256 from by omega] at hv; exact ⟨hv.1.eqw hu4.1, (hu4.1 k (by omega)).trans hv.2⟩) hu4.2 (Nat.lt_succ_self _) hP hD hS (lv_sub hl [0, 1] rfl)
              intro fuel159
              induction fuel159 with
              | zero => intro _ _ _ _ _ _ _ _ hm; exact absurd hm (Nat.not_lt_zero _)
              | succ fuel159 ih159 =>
                intro i v H locs ls hi hv hwv hm159 hP hD hS hl
                refine lv_iload_n hx hb dX6_tickOn_159 rfl (lv_at hl 0 rfl) ?_
                refine lv_sipush (v := nI 256) hx hb dX6_tickOn_160 (by decide) ?_
                refine lv_icmp_ge (tgt := 253) hx hb dX6_tickOn_163 (by decide) (fun c_5 => ?_) (fun c_5 => ?_)
                · skip
                  have nc_5 : 256 ≤ i := (nI_leI (a := 256) (b := i) (by omega) (by omega)).mp c_5
                  refine lv_aload_n hx hb dX6_tickOn_253 rfl (lv_at hl 1 rfl) ?_
                  refine g_get (κ := 10) (ci := 6) (v := .ref (ad (k + 5))) (C := RX6) (T := TX6) (N := 8) hx hb hts hown hK hP (k := k) hk (by decide) rfl (fun _ h => List.mem_cons_of_mem _ (List.mem_append_right _ h)) rfl 5 (by decide) (hts _ (List.mem_of_getElem? (i := 8) rfl)) (fun _ h9 => h9) rfl dX6_tickOn_254 ?_
                  refine lv_iconst (v := nI 0) hx hb dX6_tickOn_257 (by decide) ?_
                  refine lv_dup2_11 hx hb dX6_tickOn_258 rfl rfl ?_
                  refine g_ialdn (n := 4) (i := 0) hx hb hK hP (k := (k + 5)) (kd_10_5 hk) (by decide) rfl (by omega) (by decide) dX6_tickOn_259 ?_
                  refine lv_iconst (v := nI 1) hx hb dX6_tickOn_260 (by decide) ?_
                  refine lv_iadd hx hb dX6_tickOn_261 ?_
                  refine g_iastn (n := 4) (i := 0) hx hb hK hP hD hS (k := (k + 5)) (kd_10_5 hk) (by decide) (fun _ => rfl) (by omega) (by decide) dX6_tickOn_262 (fun u6 H locs hu6 hP hD hS => ?_)
                  exact g_vret hx hb hr hlocks hP hD hS (by rw [show i = 256 from by omega] at hv; rw [hu6, hv.1.n0]; exact ⟨hv.1.wn0 _, by rw [wr_n _ _ _ (by omega)]; exact hv.2⟩) dX6_tickOn_263
                · skip
                  have nc_5 : ¬ 256 ≤ i := fun z9_ => c_5 ((nI_leI (a := 256) (b := i) (by omega) (by omega)).mpr z9_)
                  refine lv_aload_n hx hb dX6_tickOn_166 rfl (lv_at hl 1 rfl) ?_
                  refine lv_iload_n hx hb dX6_tickOn_167 rfl (lv_at hl 0 rfl) ?_
                  refine g_callF (F := f_X6_isOpen v k i) hD hS hA (va_runV (As := [.int (nI i)]) (rest := []) ⟨hx, hb, hml, hown, hts⟩ (c_X6_isOpen l D cs ad v H.size k hk i (by omega)) (cwV 1 hts gX6_tickOn_X6_isOpen rfl rfl rfl (by decide +kernel) ⟨Nat.le_of_ble_eq_true rfl, Nat.le_of_ble_eq_true rfl⟩) (g_preV hP hD hK hN (k := k) hk (by decide) rfl rfl rfl rfl) rfl rfl hl.1 rfl (lv_room (Nat.le_of_ble_eq_true rfl)) dX6_tickOn_168 ⟨Nat.le_of_ble_eq_true rfl, Nat.le_of_ble_eq_true rfl⟩) (fun H locs hP hD hS => ?_)
                  refine lv_if_eq (tgt := 247) hx hb dX6_tickOn_171 (by decide) (fun c_7 => ?_) (fun c_7 => ?_)
                  · skip
                    refine lv_iinc (v := nI (i + 1)) (lv' := [(1, .int (nI (i + 1))), (0, .ref (ad k))]) hx hb dX6_tickOn_247 hl (k := 0) rfl (nI_1 i) (by decide) rfl (fun ls hl => ?_)
                    refine lv_goto (tgt := 159) hx hb dX6_tickOn_250 (by decide) ?_
                    exact ih159 (i + 1) v _ _ _ (by omega) (by rw [fall_n1 (Or.inl (by rw [ages_in (by omega), (((((hIV.burnA N (Nat.le_refl _)).actA N (Nat.le_refl _)).gro 256).fall (held := (heldP (gro (actA (burnA J z N) z N N) (z + 1) 256) z)) i (by omega)).2.2.1 i (by omega) (hv.1.open0 (by omega) c_7)).1]; decide))]; exact hv) hwv (by omega) hP hD hS (lv_sub hl [0, 1] rfl)
                  · skip
                    refine lv_aload_n hx hb dX6_tickOn_174 rfl (lv_at hl 1 rfl) ?_
                    refine g_get (κ := 10) (ci := 6) (v := .ref (ad (k + 2))) (C := RX6) (T := TX6) (N := 8) hx hb hts hown hK hP (k := k) hk (by decide) rfl (fun _ h => List.mem_cons_of_mem _ (List.mem_append_right _ h)) rfl 2 (by decide) (hts _ (List.mem_of_getElem? (i := 6) rfl)) (fun _ h9 => h9) rfl dX6_tickOn_175 ?_
                    refine lv_iload_n hx hb dX6_tickOn_178 rfl (lv_at hl 0 rfl) ?_
                    refine g_ialdn (n := 256) (i := i) hx hb hK hP (k := (k + 2)) (kd_10_2 hk) (by decide) rfl (by omega) (by decide) dX6_tickOn_179 ?_
                    rw [show v (k + 2) i = (fallM (gro (actA (burnA J z N) z N N) (z + 1) 256) (heldP (gro (actA (burnA J z N) z N N) (z + 1) 256) z) z N i) (z + 1 + 2) i from (hv.1.c2 (by omega))]
                    refine lv_bipush (v := nI 12) hx hb dX6_tickOn_180 (by decide) ?_
                    refine lv_icmp_lt (tgt := 247) hx hb dX6_tickOn_182 (by decide) (fun c_8 => ?_) (fun c_8 => ?_)
                    · skip
                      refine lv_iinc (v := nI (i + 1)) (lv' := [(1, .int (nI (i + 1))), (0, .ref (ad k))]) hx hb dX6_tickOn_247 hl (k := 0) rfl (nI_1 i) (by decide) rfl (fun ls hl => ?_)
                      refine lv_goto (tgt := 159) hx hb dX6_tickOn_250 (by decide) ?_
                      exact ih159 (i + 1) v _ _ _ (by omega) (by rw [fall_n1 (Or.inl (by rw [ages_in (by omega)]; exact c_8))]; exact hv) hwv (by omega) hP hD hS (lv_sub hl [0, 1] rfl)
                    · skip
                      refine lv_aload_n hx hb dX6_tickOn_185 rfl (lv_at hl 1 rfl) ?_
                      refine g_get (κ := 10) (ci := 6) (v := .ref (ad (k + 6))) (C := RX6) (T := TX6) (N := 8) hx hb hts hown hK hP (k := k) hk (by decide) rfl (fun _ h => List.mem_cons_of_mem _ (List.mem_append_right _ h)) rfl 7 (by decide) (hts _ (List.mem_of_getElem? (i := 7) rfl)) (fun _ h9 => h9) rfl dX6_tickOn_186 ?_
                      refine lv_iload_n hx hb dX6_tickOn_189 rfl (lv_at hl 0 rfl) ?_
                      refine g_ialdn (n := 256) (i := i) hx hb hK hP (k := (k + 6)) (kd_10_7 hk) (by decide) rfl (by omega) (by decide) dX6_tickOn_190 ?_
                      refine lv_iconst (v := -1) hx hb dX6_tickOn_191 (by decide) ?_
                      refine lv_icmp_eq (tgt := 198) hx hb dX6_tickOn_192 (by decide) (fun c_9 => ?_) (fun c_9 => ?_)
                      · skip
                        refine lv_aload_n hx hb dX6_tickOn_198 rfl (lv_at hl 1 rfl) ?_
                        refine lv_iload_n hx hb dX6_tickOn_199 rfl (lv_at hl 0 rfl) ?_
                        refine lv_iconst (v := nI 2) hx hb dX6_tickOn_200 (by decide) ?_
                        refine g_callM (M := m_X6_lay v k i (nI 2)) hD hS hA (va_runV (As := [.int (nI i), .int (nI 2)]) (rest := []) ⟨hx, hb, hml, hown, hts⟩ (c_X6_lay l D cs ad v H.size k hk i (by omega) (nI 2)) (cwV 2 hts gX6_tickOn_X6_lay rfl rfl rfl (by decide +kernel) ⟨Nat.le_of_ble_eq_true rfl, Nat.le_of_ble_eq_true rfl⟩) (g_preV hP hD hK hN (k := k) hk (by decide) rfl rfl rfl rfl) rfl rfl hl.1 rfl (lv_room (Nat.le_of_ble_eq_true rfl)) dX6_tickOn_201 ⟨Nat.le_of_ble_eq_true rfl, Nat.le_of_ble_eq_true rfl⟩) (fun u10 H locs hu10 hP hD hS => ?_)
                        refine lv_aload_n hx hb dX6_tickOn_204 rfl (lv_at hl 1 rfl) ?_
                        refine g_get (κ := 10) (ci := 6) (v := .ref (ad (k + 5))) (C := RX6) (T := TX6) (N := 8) hx hb hts hown hK hP (k := k) hk (by decide) rfl (fun _ h => List.mem_cons_of_mem _ (List.mem_append_right _ h)) rfl 5 (by decide) (hts _ (List.mem_of_getElem? (i := 8) rfl)) (fun _ h9 => h9) rfl dX6_tickOn_205 ?_
                        refine lv_iconst (v := nI 1) hx hb dX6_tickOn_208 (by decide) ?_
                        refine lv_dup2_11 hx hb dX6_tickOn_209 rfl rfl ?_
                        refine g_ialdn (n := 4) (i := 1) hx hb hK hP (k := (k + 5)) (kd_10_5 hk) (by decide) rfl (by omega) (by decide) dX6_tickOn_210 ?_
                        refine lv_iconst (v := nI 1) hx hb dX6_tickOn_211 (by decide) ?_
                        refine lv_iadd hx hb dX6_tickOn_212 ?_
                        refine g_iastn (n := 4) (i := 1) hx hb hK hP hD hS (k := (k + 5)) (kd_10_5 hk) (by decide) (fun _ => rfl) (by omega) (by decide) dX6_tickOn_213 (fun u11 H locs hu11 hP hD hS => ?_)
                        obtain ⟨P5, hP5⟩ : ∃ P, P = wr (m_X3_put (fallM (gro (actA (burnA J z N) z N N) (z + 1) 256) (heldP (gro (actA (burnA J z N) z N N) (z + 1) 256) z) z N i) (z + 1) (nI i) (nI 2)) z 5 (m_X3_put (fallM (gro (actA (burnA J z N) z N N) (z + 1) 256) (heldP (gro (actA (burnA J z N) z N N) (z + 1) 256) z) z N i) (z + 1) (nI i) (nI 2) z 5 + nI 1) := ⟨_, rfl⟩
                        have hr5 : Rk z P5 k I u11 N := by
                          have a := hv.1.lay (c := i) (show i < 256 from by omega) (nI 2)
                          rw [hP5, hu11, hu10, a.n1]; exact ⟨a.wn1 _, by simp only [m_X6_lay]; rw [wr_n _ _ _ (by omega), wr_n _ _ _ (by omega), wr_n _ _ _ (by omega), wr_n _ _ _ (by omega)]; exact hv.2⟩
                        have hwv2 : ∀ c, c < 256 → (u11 (k + 6) c ≠ -1 ↔ (heldP (gro (actA (burnA J z N) z N N) (z + 1) 256) z) c) := by rw [hu11, hu10]; simp only [m_X6_lay]; rw [wr_n _ _ _ (by omega), wr_n _ _ _ (by omega), wr_n _ _ _ (by omega), wr_n _ _ _ (by omega)]; exact hwv
                        skip
                        refine lv_iconst (v := nI 0) hx hb dX6_tickOn_214 (by decide) ?_
                        refine lv_istore_n (lv' := [(2, .int (nI 0)), (1, .int (nI i)), (0, .ref (ad k))]) hx hb dX6_tickOn_215 rfl hl (by decide) rfl (fun ls hl => ?_)
                        suffices KL216 : ∀ (fuel : Nat) (j : Nat) (v2 : Mm) (H : Heap) (locs : List Loc) (ls : Array Slot), (j ≤ N) → (Rk z (sB P5 z (nI i) (nI 1) j) k I v2 N) → (∀ c, c < 256 → (v2 (k + 6) c ≠ -1 ↔ (heldP (gro (actA (burnA J z N) z N N) (z + 1) 256) z) c)) → N - j < fuel → va_P D vwCl (gw kM cs ad v2) H → va_D (gA kM ad sz) (gw kM cs ad v2) → va_S (gA kM ad sz) s.heap H locs → lv_has ls 3 [(2, .int (nI j)), (1, .int (nI i)), (0, .ref (ad k))] → W pg l e ({ frames := 5, cells := 0, slots := 0, locals := 115 }) s m args below meth c H locs 0 0 (MQ below (va_Qv (fun u => Rk z (tickM J z N) k I u N) (wat kM cs D ad (gA kM ad sz)) (gA kM ad sz)) args s 0 0 (gA kM ad sz)) (F0 m 216 ls []) from KL216 _ 0 u11 _ _ _ (Nat.zero_le _) (by rw [sB_0]; exact hr5) hwv2 (Nat.lt_succ_self _) hP hD hS (lv_sub hl [0, 1, 2] rfl)
                        intro fuel216
                        induction fuel216 with
                        | zero => intro _ _ _ _ _ _ _ _ hm; exact absurd hm (Nat.not_lt_zero _)
                        | succ fuel216 ih216 =>
                          intro j v2 H locs ls hj hv2 hwv2 hm216 hP hD hS hl
                          refine lv_iload_n hx hb dX6_tickOn_216 rfl (lv_at hl 0 rfl) ?_
                          refine lv_aload_n hx hb dX6_tickOn_217 rfl (lv_at hl 2 rfl) ?_
                          refine g_get (κ := 10) (ci := 6) (v := .int (v2 k 6)) (C := RX6) (T := TX6) (N := 8) hx hb hts hown hK hP (k := k) hk (by decide) rfl (fun _ h => List.mem_cons_of_mem _ (List.mem_append_right _ h)) rfl 6 (by decide) (hts _ (List.mem_of_getElem? (i := 1) rfl)) (fun _ h9 => h9) rfl dX6_tickOn_218 ?_
                          rw [show v2 k 6 = nI N from hv2.1.n]
                          refine lv_icmp_ge (tgt := 247) hx hb dX6_tickOn_221 (by decide) (fun c_12 => ?_) (fun c_12 => ?_)
                          · skip
                            have nc_12 : N ≤ j := (nI_leI (a := N) (b := j) (by omega) (by omega)).mp c_12
                            refine lv_iinc (v := nI (i + 1)) (lv' := [(1, .int (nI (i + 1))), (2, .int (nI j)), (0, .ref (ad k))]) hx hb dX6_tickOn_247 hl (k := 1) rfl (nI_1 i) (by decide) rfl (fun ls hl => ?_)
                            refine lv_goto (tgt := 159) hx hb dX6_tickOn_250 (by decide) ?_
                            exact ih159 (i + 1) v2 _ _ _ (by omega) (by rw [fall_y (by rw [ages_in (by omega)]; exact c_8) (fun y => (hwv i (by omega)).mpr y c_9), roof_eq, ← hP5, show N = j from by omega]; rw [show N = j from by omega] at hv2; exact hv2) hwv2 (by omega) hP hD hS (lv_sub hl [0, 2] rfl)
                          · skip
                            have nc_12 : ¬ N ≤ j := fun z9_ => c_12 ((nI_leI (a := N) (b := j) (by omega) (by omega)).mpr z9_)
                            refine lv_aload_n hx hb dX6_tickOn_224 rfl (lv_at hl 2 rfl) ?_
                            refine lv_iload_n hx hb dX6_tickOn_225 rfl (lv_at hl 0 rfl) ?_
                            refine lv_iconst (v := nI 0) hx hb dX6_tickOn_226 (by decide) ?_
                            refine g_callF (F := v2 (k + 4) (31 * j + 0)) hD hS hA (va_runV (As := [.int (nI j), .int (nI 0)]) (rest := []) ⟨hx, hb, hml, hown, hts⟩ (c_X6_get l D cs ad v2 H.size k hk j (by omega) 0 (by omega)) (cwV 2 hts gX6_tickOn_X6_get rfl rfl rfl (by decide +kernel) ⟨Nat.le_of_ble_eq_true rfl, Nat.le_of_ble_eq_true rfl⟩) (g_preV hP hD hK hN (k := k) hk (by decide) rfl rfl rfl rfl) rfl rfl hl.1 rfl (lv_room (Nat.le_of_ble_eq_true rfl)) dX6_tickOn_227 ⟨Nat.le_of_ble_eq_true rfl, Nat.le_of_ble_eq_true rfl⟩) (fun H locs hP hD hS => ?_)
                            refine lv_iload_n hx hb dX6_tickOn_230 rfl (lv_at hl 1 rfl) ?_
                            refine lv_icmp_ne (tgt := 241) hx hb dX6_tickOn_231 (by decide) (fun c_13 => ?_) (fun c_13 => ?_)
                            · skip
                              refine lv_iinc (v := nI (j + 1)) (lv' := [(2, .int (nI (j + 1))), (1, .int (nI i)), (0, .ref (ad k))]) hx hb dX6_tickOn_241 hl (k := 0) rfl (nI_1 j) (by decide) rfl (fun ls hl => ?_)
                              refine lv_goto (tgt := 216) hx hb dX6_tickOn_244 (by decide) ?_
                              exact ih216 (j + 1) v2 _ _ _ (by omega) (by rw [sB_f (fun y => c_13 (((hv2.1.t (i := j) (f := 0) (by omega) (by decide)).trans (sB_9 (by decide))).trans y))]; exact hv2) hwv2 (by omega) hP hD hS (lv_sub hl [0, 1, 2] rfl)
                            · skip
                              refine lv_aload_n hx hb dX6_tickOn_234 rfl (lv_at hl 2 rfl) ?_
                              refine lv_iload_n hx hb dX6_tickOn_235 rfl (lv_at hl 0 rfl) ?_
                              refine lv_iconst (v := nI 4) hx hb dX6_tickOn_236 (by decide) ?_
                              refine lv_iconst (v := nI 1) hx hb dX6_tickOn_237 (by decide) ?_
                              refine g_callM (M := wr v2 (k + 4) (31 * j + 4) (nI 1)) hD hS hA (va_runV (As := [.int (nI j), .int (nI 4), .int (nI 1)]) (rest := []) ⟨hx, hb, hml, hown, hts⟩ (c_X6_set l D cs ad v2 H.size k hk j (by omega) 4 (by omega) (nI 1)) (cwV 3 hts gX6_tickOn_X6_set rfl rfl rfl (by decide +kernel) ⟨Nat.le_of_ble_eq_true rfl, Nat.le_of_ble_eq_true rfl⟩) (g_preV hP hD hK hN (k := k) hk (by decide) rfl rfl rfl rfl) rfl rfl hl.1 rfl (lv_room (Nat.le_of_ble_eq_true rfl)) dX6_tickOn_238 ⟨Nat.le_of_ble_eq_true rfl, Nat.le_of_ble_eq_true rfl⟩) (fun u14 H locs hu14 hP hD hS => ?_)
                              refine lv_iinc (v := nI (j + 1)) (lv' := [(2, .int (nI (j + 1))), (1, .int (nI i)), (0, .ref (ad k))]) hx hb dX6_tickOn_241 hl (k := 0) rfl (nI_1 j) (by decide) rfl (fun ls hl => ?_)
                              refine lv_goto (tgt := 216) hx hb dX6_tickOn_244 (by decide) ?_
                              exact ih216 (j + 1) u14 _ _ _ (by omega) (by rw [hu14, sB_t (((hv2.1.t (i := j) (f := 0) (by omega) (by decide)).trans (sB_9 (by decide))).symm.trans c_13)]; exact ⟨hv2.1.wt (i := j) (f := 4) _ (by omega) (by decide), by rw [wr_n _ _ _ (by omega)]; exact hv2.2⟩) (by rw [hu14, wr_n _ _ _ (by omega)]; exact hwv2) (by omega) hP hD hS (lv_sub hl [0, 1, 2] rfl)
                      · skip
                        refine lv_goto (tgt := 247) hx hb dX6_tickOn_195 (by decide) ?_
                        refine lv_iinc (v := nI (i + 1)) (lv' := [(1, .int (nI (i + 1))), (0, .ref (ad k))]) hx hb dX6_tickOn_247 hl (k := 0) rfl (nI_1 i) (by decide) rfl (fun ls hl => ?_)
                        refine lv_goto (tgt := 159) hx hb dX6_tickOn_250 (by decide) ?_
                        exact ih159 (i + 1) v _ _ _ (by omega) (by rw [fall_n1 (Or.inr ((hwv i (by omega)).mp c_9))]; exact hv) hwv (by omega) hP hD hS (lv_sub hl [0, 1] rfl)
            · skip
              have nc_3 : ¬ 256 ≤ i := fun z9_ => c_3 ((nI_leI (a := 256) (b := i) (by omega) (by omega)).mpr z9_)
              refine lv_aload_n hx hb dX6_tickOn_129 rfl (lv_at hl 1 rfl) ?_
              refine lv_iload_n hx hb dX6_tickOn_130 rfl (lv_at hl 0 rfl) ?_
              refine g_callF (F := f_X6_isOpen v k i) hD hS hA (va_runV (As := [.int (nI i)]) (rest := []) ⟨hx, hb, hml, hown, hts⟩ (c_X6_isOpen l D cs ad v H.size k hk i (by omega)) (cwV 1 hts gX6_tickOn_X6_isOpen rfl rfl rfl (by decide +kernel) ⟨Nat.le_of_ble_eq_true rfl, Nat.le_of_ble_eq_true rfl⟩) (g_preV hP hD hK hN (k := k) hk (by decide) rfl rfl rfl rfl) rfl rfl hl.1 rfl (lv_room (Nat.le_of_ble_eq_true rfl)) dX6_tickOn_131 ⟨Nat.le_of_ble_eq_true rfl, Nat.le_of_ble_eq_true rfl⟩) (fun H locs hP hD hS => ?_)
              refine lv_if_eq (tgt := 147) hx hb dX6_tickOn_134 (by decide) (fun c_15 => ?_) (fun c_15 => ?_)
              · skip
                refine lv_iinc (v := nI (i + 1)) (lv' := [(1, .int (nI (i + 1))), (0, .ref (ad k))]) hx hb dX6_tickOn_147 hl (k := 0) rfl (nI_1 i) (by decide) rfl (fun ls hl => ?_)
                refine lv_goto (tgt := 122) hx hb dX6_tickOn_150 (by decide) ?_
                exact ih122 (i + 1) v _ _ _ (by omega) (by rw [gro_f (fun y => hv.1.open0 (by omega) c_15 (by rw [opn, gro_1]; exact y))]; exact hv) (by omega) hP hD hS (lv_sub hl [0, 1] rfl)
              · skip
                refine lv_aload_n hx hb dX6_tickOn_137 rfl (lv_at hl 1 rfl) ?_
                refine g_get (κ := 10) (ci := 6) (v := .ref (ad (k + 2))) (C := RX6) (T := TX6) (N := 8) hx hb hts hown hK hP (k := k) hk (by decide) rfl (fun _ h => List.mem_cons_of_mem _ (List.mem_append_right _ h)) rfl 2 (by decide) (hts _ (List.mem_of_getElem? (i := 6) rfl)) (fun _ h9 => h9) rfl dX6_tickOn_138 ?_
                refine lv_iload_n hx hb dX6_tickOn_141 rfl (lv_at hl 0 rfl) ?_
                refine lv_dup2_11 hx hb dX6_tickOn_142 rfl rfl ?_
                refine g_ialdn (n := 256) (i := i) hx hb hK hP (k := (k + 2)) (kd_10_2 hk) (by decide) rfl (by omega) (by decide) dX6_tickOn_143 ?_
                refine lv_iconst (v := nI 1) hx hb dX6_tickOn_144 (by decide) ?_
                refine lv_iadd hx hb dX6_tickOn_145 ?_
                refine g_iastn (n := 256) (i := i) hx hb hK hP hD hS (k := (k + 2)) (kd_10_2 hk) (by decide) (fun _ => rfl) (by omega) (by decide) dX6_tickOn_146 (fun u16 H locs hu16 hP hD hS => ?_)
                refine lv_iinc (v := nI (i + 1)) (lv' := [(1, .int (nI (i + 1))), (0, .ref (ad k))]) hx hb dX6_tickOn_147 hl (k := 0) rfl (nI_1 i) (by decide) rfl (fun ls hl => ?_)
                refine lv_goto (tgt := 122) hx hb dX6_tickOn_150 (by decide) ?_
                exact ih122 (i + 1) u16 _ _ _ (by omega) (by rw [hu16, gro_t (by have y := hv.1.open1 (by omega) c_15; rw [opn, gro_1] at y; exact y), hv.1.c2 (by omega)]; exact ⟨hv.1.wc 1 i _ (by decide), by rw [wr_n _ _ _ (by omega)]; exact hv.2⟩) (by omega) hP hD hS (lv_sub hl [0, 1] rfl)
        · skip
          have nc_2 : ¬ N ≤ i := fun z9_ => c_2 ((nI_leI (a := N) (b := i) (by omega) (by omega)).mpr z9_)
          refine lv_aload_n hx hb dX6_tickOn_91 rfl (lv_at hl 1 rfl) ?_
          refine lv_iload_n hx hb dX6_tickOn_92 rfl (lv_at hl 0 rfl) ?_
          refine g_callF (F := f_X6_isFree v k i) hD hS hA (va_runV (As := [.int (nI i)]) (rest := []) ⟨hx, hb, hml, hown, hts⟩ (c_X6_isFree l D cs ad v H.size k hk i (by omega)) (cwV 1 hts gX6_tickOn_X6_isFree rfl rfl rfl (by decide +kernel) ⟨Nat.le_of_ble_eq_true rfl, Nat.le_of_ble_eq_true rfl⟩) (g_preV hP hD hK hN (k := k) hk (by decide) rfl rfl rfl rfl) rfl rfl hl.1 rfl (lv_room (Nat.le_of_ble_eq_true rfl)) dX6_tickOn_93 ⟨Nat.le_of_ble_eq_true rfl, Nat.le_of_ble_eq_true rfl⟩) (fun H locs hP hD hS => ?_)
          refine lv_if_eq (tgt := 114) hx hb dX6_tickOn_96 (by decide) (fun c_17 => ?_) (fun c_17 => ?_)
          · skip
            refine lv_iinc (v := nI (i + 1)) (lv' := [(1, .int (nI (i + 1))), (0, .ref (ad k))]) hx hb dX6_tickOn_114 hl (k := 0) rfl (nI_1 i) (by decide) rfl (fun ls hl => ?_)
            refine lv_goto (tgt := 83) hx hb dX6_tickOn_117 (by decide) ?_
            exact ih83 (i + 1) v _ _ _ (by omega) (by simp only [actA]; rw [if_neg (hv.1.free0 (by omega) c_17)]; exact hv) (by omega) hP hD hS (lv_sub hl [0, 1] rfl)
          · skip
            obtain ⟨w9, hw9, ew⟩ := ((hIV.burnA N (Nat.le_refl _)).actA i (by omega)).1.2.2.2.2 i (by omega)
            obtain ⟨p9, hp9, hpp9⟩ := ((hIV.burnA N (Nat.le_refl _)).actA i (by omega)).place (show i < N from by omega)
            refine lv_aload_n hx hb dX6_tickOn_99 rfl (lv_at hl 1 rfl) ?_
            refine lv_iload_n hx hb dX6_tickOn_100 rfl (lv_at hl 0 rfl) ?_
            refine lv_bipush (v := nI 6) hx hb dX6_tickOn_101 (by decide) ?_
            refine g_callF (F := v (k + 4) (31 * i + 6)) hD hS hA (va_runV (As := [.int (nI i), .int (nI 6)]) (rest := []) ⟨hx, hb, hml, hown, hts⟩ (c_X6_get l D cs ad v H.size k hk i (by omega) 6 (by omega)) (cwV 2 hts gX6_tickOn_X6_get rfl rfl rfl (by decide +kernel) ⟨Nat.le_of_ble_eq_true rfl, Nat.le_of_ble_eq_true rfl⟩) (g_preV hP hD hK hN (k := k) hk (by decide) rfl rfl rfl rfl) rfl rfl hl.1 rfl (lv_room (Nat.le_of_ble_eq_true rfl)) dX6_tickOn_103 ⟨Nat.le_of_ble_eq_true rfl, Nat.le_of_ble_eq_true rfl⟩) (fun H locs hP hD hS => ?_)
            rw [show v (k + 4) (31 * i + 6) = nI w9 from ((hv.1.t6 (i := i) (by omega)).trans ew)]
            refine lv_if_le (tgt := 114) hx hb dX6_tickOn_106 (by decide) (fun c_18 => ?_) (fun c_18 => ?_)
            · skip
              have nc_18 : w9 ≤ 0 := (nI_leI (a := w9) (b := 0) (by omega) (by omega)).mp c_18
              refine lv_iinc (v := nI (i + 1)) (lv' := [(1, .int (nI (i + 1))), (0, .ref (ad k))]) hx hb dX6_tickOn_114 hl (k := 0) rfl (nI_1 i) (by decide) rfl (fun ls hl => ?_)
              refine lv_goto (tgt := 83) hx hb dX6_tickOn_117 (by decide) ?_
              exact ih83 (i + 1) v _ _ _ (by omega) (by simp only [actA]; rw [if_pos (hv.1.free1 (by omega) c_17), act_0 (by rw [ew, show w9 = 0 from by omega])]; exact hv) (by omega) hP hD hS (lv_sub hl [0, 1] rfl)
            · skip
              have nc_18 : ¬ w9 ≤ 0 := fun z9_ => c_18 ((nI_leI (a := w9) (b := 0) (by omega) (by omega)).mpr z9_)
              refine lv_aload_n hx hb dX6_tickOn_109 rfl (lv_at hl 1 rfl) ?_
              refine lv_iload_n hx hb dX6_tickOn_110 rfl (lv_at hl 0 rfl) ?_
              refine g_callv hD hS hA (va_runV (As := [.int (nI i)]) (rest := []) ⟨hx, hb, hml, hown, hts⟩ (c_X6_act l D cs ad v H.size k hk i (by omega) z (actA (burnA J z N) z N i) N hv.1 ((hIV.burnA N (Nat.le_refl _)).actA i (by omega)) (by omega) w9 ew (by omega) (by omega) (hv.1.free1 (by omega) c_17) p9 hp9 hpp9) (cwV 1 hts gX6_tickOn_X6_act rfl rfl rfl (by decide +kernel) ⟨Nat.le_of_ble_eq_true rfl, Nat.le_of_ble_eq_true rfl⟩) (g_preV hP hD hK hN (k := k) hk (by decide) rfl rfl rfl rfl) rfl rfl hl.1 rfl (lv_room (Nat.le_of_ble_eq_true rfl)) dX6_tickOn_111 ⟨Nat.le_of_ble_eq_true rfl, Nat.le_of_ble_eq_true rfl⟩) (fun u19 H locs hu19 hP hD hS => ?_)
              refine lv_iinc (v := nI (i + 1)) (lv' := [(1, .int (nI (i + 1))), (0, .ref (ad k))]) hx hb dX6_tickOn_114 hl (k := 0) rfl (nI_1 i) (by decide) rfl (fun ls hl => ?_)
              refine lv_goto (tgt := 83) hx hb dX6_tickOn_117 (by decide) ?_
              exact ih83 (i + 1) u19 _ _ _ (by omega) (by simp only [actA]; rw [if_pos (hv.1.free1 (by omega) c_17)]; exact ⟨hu19.1, hu19.2.trans hv.2⟩) (by omega) hP hD hS (lv_sub hl [0, 1] rfl)
    · skip
      have nc_1 : ¬ N ≤ i := fun z9_ => c_1 ((nI_leI (a := N) (b := i) (by omega) (by omega)).mpr z9_)
      refine lv_aload_n hx hb dX6_tickOn_10 rfl (lv_at hl 1 rfl) ?_
      refine lv_iload_n hx hb dX6_tickOn_11 rfl (lv_at hl 0 rfl) ?_
      refine g_callF (F := f_X6_isFree v k i) hD hS hA (va_runV (As := [.int (nI i)]) (rest := []) ⟨hx, hb, hml, hown, hts⟩ (c_X6_isFree l D cs ad v H.size k hk i (by omega)) (cwV 1 hts gX6_tickOn_X6_isFree rfl rfl rfl (by decide +kernel) ⟨Nat.le_of_ble_eq_true rfl, Nat.le_of_ble_eq_true rfl⟩) (g_preV hP hD hK hN (k := k) hk (by decide) rfl rfl rfl rfl) rfl rfl hl.1 rfl (lv_room (Nat.le_of_ble_eq_true rfl)) dX6_tickOn_12 ⟨Nat.le_of_ble_eq_true rfl, Nat.le_of_ble_eq_true rfl⟩) (fun H locs hP hD hS => ?_)
      refine lv_if_ne (tgt := 21) hx hb dX6_tickOn_15 (by decide) (fun c_20 => ?_) (fun c_20 => ?_)
      · skip
        obtain ⟨⟨l9, hl9, el⟩, ⟨o9, ho9, eo⟩, _⟩ := (hIV.burnA i (by omega)).2.2.2.2.1 i (by omega)
        refine lv_aload_n hx hb dX6_tickOn_21 rfl (lv_at hl 1 rfl) ?_
        refine lv_iload_n hx hb dX6_tickOn_22 rfl (lv_at hl 0 rfl) ?_
        refine lv_iconst (v := nI 3) hx hb dX6_tickOn_23 (by decide) ?_
        refine lv_iconst (v := nI 0) hx hb dX6_tickOn_24 (by decide) ?_
        refine lv_aload_n hx hb dX6_tickOn_25 rfl (lv_at hl 1 rfl) ?_
        refine lv_iload_n hx hb dX6_tickOn_26 rfl (lv_at hl 0 rfl) ?_
        refine lv_iconst (v := nI 3) hx hb dX6_tickOn_27 (by decide) ?_
        refine g_callF (F := v (k + 4) (31 * i + 3)) hD hS hA (va_runV (As := [.int (nI i), .int (nI 3)]) (rest := [.int (nI 0), .int (nI 3), .int (nI i), .ref (ad k)]) ⟨hx, hb, hml, hown, hts⟩ (c_X6_get l D cs ad v H.size k hk i (by omega) 3 (by omega)) (cwV 2 hts gX6_tickOn_X6_get rfl rfl rfl (by decide +kernel) ⟨Nat.le_of_ble_eq_true rfl, Nat.le_of_ble_eq_true rfl⟩) (g_preV hP hD hK hN (k := k) hk (by decide) rfl rfl rfl rfl) rfl rfl hl.1 rfl (lv_room (Nat.le_of_ble_eq_true rfl)) dX6_tickOn_28 ⟨Nat.le_of_ble_eq_true rfl, Nat.le_of_ble_eq_true rfl⟩) (fun H locs hP hD hS => ?_)
        rw [show v (k + 4) (31 * i + 3) = nI o9 from ((hv.1.t (i := i) (f := 3) (by omega) (by decide)).trans eo)]
        refine lv_iconst (v := nI 1) hx hb dX6_tickOn_31 (by decide) ?_
        refine lv_isub hx hb dX6_tickOn_32 ?_
        refine va_mmax hx hb (hml.trans hl.1.symm) hown (hts _ (List.mem_of_getElem? (i := 2) rfl)) (hts _ (List.mem_of_getElem? (i := 3) rfl)) (hts _ (List.mem_of_getElem? (i := 4) rfl)) (hts _ (List.mem_of_getElem? (i := 5) rfl)) (Nat.le_of_ble_eq_true rfl) (Nat.le_of_ble_eq_true rfl) (Nat.le_of_ble_eq_true rfl) (Nat.le_of_ble_eq_true rfl) dX6_tickOn_33 ?_
        refine lv_topi (fun y9 ey9 => ?_)
        obtain rfl := ey9.trans (max_t o9 ho9)
        refine g_callM (M := wr v (k + 4) (31 * i + 3) (nI (o9 - 1))) hD hS hA (va_runV (As := [.int (nI i), .int (nI 3), .int (nI (o9 - 1))]) (rest := []) ⟨hx, hb, hml, hown, hts⟩ (c_X6_set l D cs ad v H.size k hk i (by omega) 3 (by omega) (nI (o9 - 1))) (cwV 3 hts gX6_tickOn_X6_set rfl rfl rfl (by decide +kernel) ⟨Nat.le_of_ble_eq_true rfl, Nat.le_of_ble_eq_true rfl⟩) (g_preV hP hD hK hN (k := k) hk (by decide) rfl rfl rfl rfl) rfl rfl hl.1 rfl (lv_room (Nat.le_of_ble_eq_true rfl)) dX6_tickOn_36 ⟨Nat.le_of_ble_eq_true rfl, Nat.le_of_ble_eq_true rfl⟩) (fun u21 H locs hu21 hP hD hS => ?_)
        refine lv_aload_n hx hb dX6_tickOn_39 rfl (lv_at hl 1 rfl) ?_
        refine lv_iload_n hx hb dX6_tickOn_40 rfl (lv_at hl 0 rfl) ?_
        refine lv_iconst (v := nI 3) hx hb dX6_tickOn_41 (by decide) ?_
        refine g_callF (F := u21 (k + 4) (31 * i + 3)) hD hS hA (va_runV (As := [.int (nI i), .int (nI 3)]) (rest := []) ⟨hx, hb, hml, hown, hts⟩ (c_X6_get l D cs ad u21 H.size k hk i (by omega) 3 (by omega)) (cwV 2 hts gX6_tickOn_X6_get rfl rfl rfl (by decide +kernel) ⟨Nat.le_of_ble_eq_true rfl, Nat.le_of_ble_eq_true rfl⟩) (g_preV hP hD hK hN (k := k) hk (by decide) rfl rfl rfl rfl) rfl rfl hl.1 rfl (lv_room (Nat.le_of_ble_eq_true rfl)) dX6_tickOn_42 ⟨Nat.le_of_ble_eq_true rfl, Nat.le_of_ble_eq_true rfl⟩) (fun H locs hP hD hS => ?_)
        rw [show u21 (k + 4) (31 * i + 3) = nI (o9 - 1) from (by rw [hu21, wr_ss])]
        refine lv_if_gt (tgt := 75) hx hb dX6_tickOn_45 (by decide) (fun c_22 => ?_) (fun c_22 => ?_)
        · skip
          have nc_22 : 0 < (o9 - 1) := (nI_ltI (a := 0) (b := (o9 - 1)) (by omega) (by omega)).mp c_22
          refine lv_iinc (v := nI (i + 1)) (lv' := [(1, .int (nI (i + 1))), (0, .ref (ad k))]) hx hb dX6_tickOn_75 hl (k := 0) rfl (nI_1 i) (by decide) rfl (fun ls hl => ?_)
          refine lv_goto (tgt := 2) hx hb dX6_tickOn_78 (by decide) ?_
          exact ih2 (i + 1) u21 _ _ _ (by omega) (by simp only [burnA]; rw [if_pos (hv.1.free1 (by omega) c_20), burn_a eo el ho9 hl9 (Or.inl nc_22), hu21]; exact ⟨hv.1.wt (i := i) (f := 3) _ (by omega) (by decide), by rw [wr_n _ _ _ (by omega)]; exact hv.2⟩) (by omega) hP hD hS (lv_sub hl [0, 1] rfl)
        · skip
          have nc_22 : ¬ 0 < (o9 - 1) := fun z9_ => c_22 ((nI_ltI (a := 0) (b := (o9 - 1)) (by omega) (by omega)).mpr z9_)
          refine lv_aload_n hx hb dX6_tickOn_48 rfl (lv_at hl 1 rfl) ?_
          refine lv_iload_n hx hb dX6_tickOn_49 rfl (lv_at hl 0 rfl) ?_
          refine lv_iconst (v := nI 2) hx hb dX6_tickOn_50 (by decide) ?_
          refine g_callF (F := u21 (k + 4) (31 * i + 2)) hD hS hA (va_runV (As := [.int (nI i), .int (nI 2)]) (rest := []) ⟨hx, hb, hml, hown, hts⟩ (c_X6_get l D cs ad u21 H.size k hk i (by omega) 2 (by omega)) (cwV 2 hts gX6_tickOn_X6_get rfl rfl rfl (by decide +kernel) ⟨Nat.le_of_ble_eq_true rfl, Nat.le_of_ble_eq_true rfl⟩) (g_preV hP hD hK hN (k := k) hk (by decide) rfl rfl rfl rfl) rfl rfl hl.1 rfl (lv_room (Nat.le_of_ble_eq_true rfl)) dX6_tickOn_51 ⟨Nat.le_of_ble_eq_true rfl, Nat.le_of_ble_eq_true rfl⟩) (fun H locs hP hD hS => ?_)
          rw [show u21 (k + 4) (31 * i + 2) = nI l9 from (by rw [hu21, wr_sn _ _ _ (by omega)]; exact (hv.1.t (i := i) (f := 2) (by omega) (by decide)).trans el)]
          refine lv_if_ne (tgt := 60) hx hb dX6_tickOn_54 (by decide) (fun c_23 => ?_) (fun c_23 => ?_)
          · skip
            have nc_23 : ¬ l9 = 0 := fun z9_ => c_23 ((nI_eq (a := l9) (b := 0) (by omega) (by omega)).mpr z9_)
            refine lv_aload_n hx hb dX6_tickOn_60 rfl (lv_at hl 1 rfl) ?_
            refine lv_iload_n hx hb dX6_tickOn_61 rfl (lv_at hl 0 rfl) ?_
            refine lv_iconst (v := nI 2) hx hb dX6_tickOn_62 (by decide) ?_
            refine lv_iconst (v := -1) hx hb dX6_tickOn_63 (by decide) ?_
            refine g_callM (M := wr u21 (k + 4) (31 * i + 2) (u21 (k + 4) (31 * i + 2) + (-1))) hD hS hA (va_runV (As := [.int (nI i), .int (nI 2), .int (-1)]) (rest := []) ⟨hx, hb, hml, hown, hts⟩ (c_X6_add l D cs ad u21 H.size k hk i (by omega) 2 (by omega) (-1)) (cwV 3 hts gX6_tickOn_X6_add rfl rfl rfl (by decide +kernel) ⟨Nat.le_of_ble_eq_true rfl, Nat.le_of_ble_eq_true rfl⟩) (g_preV hP hD hK hN (k := k) hk (by decide) rfl rfl rfl rfl) rfl rfl hl.1 rfl (lv_room (Nat.le_of_ble_eq_true rfl)) dX6_tickOn_64 ⟨Nat.le_of_ble_eq_true rfl, Nat.le_of_ble_eq_true rfl⟩) (fun u24 H locs hu24 hP hD hS => ?_)
            refine lv_aload_n hx hb dX6_tickOn_67 rfl (lv_at hl 1 rfl) ?_
            refine lv_iload_n hx hb dX6_tickOn_68 rfl (lv_at hl 0 rfl) ?_
            refine lv_iconst (v := nI 3) hx hb dX6_tickOn_69 (by decide) ?_
            refine lv_bipush (v := nI 60) hx hb dX6_tickOn_70 (by decide) ?_
            refine g_callM (M := wr u24 (k + 4) (31 * i + 3) (nI 60)) hD hS hA (va_runV (As := [.int (nI i), .int (nI 3), .int (nI 60)]) (rest := []) ⟨hx, hb, hml, hown, hts⟩ (c_X6_set l D cs ad u24 H.size k hk i (by omega) 3 (by omega) (nI 60)) (cwV 3 hts gX6_tickOn_X6_set rfl rfl rfl (by decide +kernel) ⟨Nat.le_of_ble_eq_true rfl, Nat.le_of_ble_eq_true rfl⟩) (g_preV hP hD hK hN (k := k) hk (by decide) rfl rfl rfl rfl) rfl rfl hl.1 rfl (lv_room (Nat.le_of_ble_eq_true rfl)) dX6_tickOn_72 ⟨Nat.le_of_ble_eq_true rfl, Nat.le_of_ble_eq_true rfl⟩) (fun u25 H locs hu25 hP hD hS => ?_)
            refine lv_iinc (v := nI (i + 1)) (lv' := [(1, .int (nI (i + 1))), (0, .ref (ad k))]) hx hb dX6_tickOn_75 hl (k := 0) rfl (nI_1 i) (by decide) rfl (fun ls hl => ?_)
            refine lv_goto (tgt := 2) hx hb dX6_tickOn_78 (by decide) ?_
            exact ih2 (i + 1) u25 _ _ _ (by omega) (by simp only [burnA]; rw [if_pos (hv.1.free1 (by omega) c_20), burn_b eo el ho9 hl9 nc_22 nc_23, hu25, hu24, hu21, wr_sn _ _ _ (show 31 * i + 2 ≠ 31 * i + 3 from by omega), (hv.1.t (i := i) (f := 2) (by omega) (by decide)).trans el, nI_m (by omega)]; exact ⟨((hv.1.wt (i := i) (f := 3) _ (by omega) (by decide)).wt (i := i) (f := 2) _ (by omega) (by decide)).wt (i := i) (f := 3) _ (by omega) (by decide), by rw [wr_n _ _ _ (by omega), wr_n _ _ _ (by omega), wr_n _ _ _ (by omega)]; exact hv.2⟩) (by omega) hP hD hS (lv_sub hl [0, 1] rfl)
          · skip
            have nc_23 : l9 = 0 := (nI_eq (a := l9) (b := 0) (by omega) (by omega)).mp c_23
            refine lv_goto (tgt := 75) hx hb dX6_tickOn_57 (by decide) ?_
            refine lv_iinc (v := nI (i + 1)) (lv' := [(1, .int (nI (i + 1))), (0, .ref (ad k))]) hx hb dX6_tickOn_75 hl (k := 0) rfl (nI_1 i) (by decide) rfl (fun ls hl => ?_)
            refine lv_goto (tgt := 2) hx hb dX6_tickOn_78 (by decide) ?_
            exact ih2 (i + 1) u21 _ _ _ (by omega) (by simp only [burnA]; rw [if_pos (hv.1.free1 (by omega) c_20), burn_a eo el ho9 hl9 (Or.inr nc_23), hu21]; exact ⟨hv.1.wt (i := i) (f := 3) _ (by omega) (by decide), by rw [wr_n _ _ _ (by omega)]; exact hv.2⟩) (by omega) hP hD hS (lv_sub hl [0, 1] rfl)
      · skip
        refine lv_goto (tgt := 75) hx hb dX6_tickOn_18 (by decide) ?_
        refine lv_iinc (v := nI (i + 1)) (lv' := [(1, .int (nI (i + 1))), (0, .ref (ad k))]) hx hb dX6_tickOn_75 hl (k := 0) rfl (nI_1 i) (by decide) rfl (fun ls hl => ?_)
        refine lv_goto (tgt := 2) hx hb dX6_tickOn_78 (by decide) ?_
        exact ih2 (i + 1) v _ _ _ (by omega) (by simp only [burnA]; rw [if_neg (hv.1.free0 (by omega) c_20)]; exact hv) (by omega) hP hD hS (lv_sub hl [0, 1] rfl)
