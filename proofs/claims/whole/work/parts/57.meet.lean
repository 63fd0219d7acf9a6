/-- a world of the model whose rows may have moved -/
def watE (cs : Nat → ClassId) (D : va_G) (A : Nat → Prop) (u : (Nat → Nat) × Mm) (t : State) : Prop := va_P D vwCl (gw kM cs u.1 u.2) t.heap ∧ va_D A (gw kM cs u.1 u.2)
abbrev MetE (l : Launch) (y : MethodName) (ws : List Cond) (rm : Room) (cs : Nat → ClassId) (D : va_G) (ad : Nat → Nat) (I : Mm) (sz : Nat) (av : List Value) (post : Int32 → (Nat → Nat) × Mm → Prop) : Prop := Met l y ws rm (va_Pc av (fun U => wpre kM cs D ad I sz U ∧ kAO U)) (va_Qi post (watE cs D (gA kM ad sz)) (gA kM ad sz)) 6 1025 (gA kM ad sz)
theorem g_iretE {p : Program} {l : Launch} {e : Env} {R : Room} {s : State} {m : MethodId} {args : Array Value} {below : List Frame} {meth : Method} {c : Code} {H : Heap} {locs : List Loc} {cells slots : Nat} {cc : ByteArray} {pc : Nat} {ls : Array Slot} {D : va_G} {cs : Nat → ClassId} {ad : Nat → Nat} {I : Mm} {A : Nat → Prop} {post : Int32 → (Nat → Nat) × Mm → Prop} {v : Int32} {ty : FieldType} (hx : p.tables.exec = Jvm.exec) (hb : c.code = cc) (hr : meth.sig.returnType = some ty) (hlocks : meth.locks = false) (hn : narrow ty (.int v) = .int v) (hP : va_P D vwCl (gw kM cs ad I) H) (hD : va_D A (gw kM cs ad I)) (hS : va_S A s.heap H locs) (hpost : post v (ad, I)) (hdg : decode cc pc = .ok (.ireturn, 1)) :
    W p l e R s m args below meth c H locs cells slots (MQ below (va_Qi post (watE cs D A) A) args s cells slots A) (F0 m pc ls [.int v]) :=
  W.zret hx hb hr hn (fun t ht hW => ⟨⟨v, (ad, I), rfl, hpost, by rw [ht]; exact hP, hD⟩, hS.F ht⟩) hS.2.2 hdg hlocks
theorem bb_Rl {z k N : Nat} {J u1 v : Mm} (hk : kM.getD k 0 = 10) (h : Rl z J k u1 N) (e : v k = u1 k) : Rl z J k (bbI v u1) N := by
  obtain rfl := k_zero hk
  have e' : v 0 = u1 0 := e
  obtain ⟨a, b, c, d, f⟩ := h
  refine ⟨by show v 0 6 = nI N; rw [e']; exact a, fun j hj q hq => ?_, c, d, f⟩
  rcases (show j = 0 ∨ j = 1 ∨ j = 2 from by omega) with rfl | rfl | rfl
  · exact b 0 (by decide) q hq
  · exact b 1 (by decide) q hq
  · exact b 2 (by decide) q hq
theorem bb_k {k : Nat} {u1 v : Mm} (hk : kM.getD k 0 = 10) (e : v k = u1 k) : bbI v u1 k 0 = u1 k 0 := by
  obtain rfl := k_zero hk
  exact congrFun e 0
theorem bb_Dk {k : Nat} (hk : kM.getD k 0 = 10) {cs : Nat → ClassId} {ad : Nat → Nat} {I I0 : Mm} {qA : Nat} {qs : Nat → Nat} {A : Nat → Prop} (h : va_D A (gw kM cs ad I ++ kpW cs k I0 qA qs)) : va_D A (gw kM cs (bbA ad qs) (bbI I I0)) := by
  obtain rfl := k_zero hk
  exact bb_D h
def thZ_meet (N : Nat) (a b c0 : Int32) : Nat := if th_X5_member 0 a N = 0 then (if th_X5_member 0 b N = 0 then (if a.toNatClampNeg = b.toNatClampNeg then 2 else (if th_X5_requireTicks c0 = 0 then 0 else th_X5_requireTicks c0)) else th_X5_member 0 b N) else th_X5_member 0 a N
def thZ_fs (a b : Int32) : Nat := if th_X5_requireTicks a = 0 then (if b < 0 then 2 else (if b ≤ nI 3 then 0 else 2)) else 1
section MTL
variable {k N : Nat} {I : Mm} {a b c0 : Int32}
theorem meet_a (hN : N ≤ 8) (h : f_X6_isMan I k a N = 0) : thZ_meet N a b c0 = 1 := by
  simp only [thZ_meet]; rw [man_0 hN h 0, if_neg (by decide)]
theorem meet_b (hN : N ≤ 8) (h : ¬ f_X6_isMan I k a N = 0) (h2 : f_X6_isMan I k b N = 0) : thZ_meet N a b c0 = 1 := by
  simp only [thZ_meet]; rw [if_pos (man_1 hN h 0), man_0 hN h2 0, if_neg (by decide)]
theorem meet_e (hN : N ≤ 8) (h : ¬ f_X6_isMan I k a N = 0) (h2 : ¬ f_X6_isMan I k b N = 0) (h3 : a = b) : thZ_meet N a b c0 = 2 := by
  simp only [thZ_meet]; rw [if_pos (man_1 hN h 0), if_pos (man_1 hN h2 0), if_pos (by rw [h3])]
theorem meet_ne (hN : N ≤ 8) (h : ¬ f_X6_isMan I k a N = 0) (h2 : ¬ f_X6_isMan I k b N = 0) (h3 : ¬ a = b) : ¬ a.toNatClampNeg = b.toNatClampNeg := fun y => h3 (by
  rw [(mb_c hN (man_1 hN h 0)).2.2, (mb_c hN (man_1 hN h2 0)).2.2, y])
theorem meet_t (hN : N ≤ 8) (h : ¬ f_X6_isMan I k a N = 0) (h2 : ¬ f_X6_isMan I k b N = 0) (h3 : ¬ a = b) (h4 : f_X6_isIn c0 (nI 1) (nI 100) = 0) : thZ_meet N a b c0 = 2 := by
  simp only [thZ_meet]; rw [if_pos (man_1 hN h 0), if_pos (man_1 hN h2 0), if_neg (meet_ne hN h h2 h3), tick_0 h4, if_neg (by decide)]
theorem meet_0 (hN : N ≤ 8) (h : ¬ f_X6_isMan I k a N = 0) (h2 : ¬ f_X6_isMan I k b N = 0) (h3 : ¬ a = b) (h4 : ¬ f_X6_isIn c0 (nI 1) (nI 100) = 0) : thZ_meet N a b c0 = 0 := by
  simp only [thZ_meet]; rw [if_pos (man_1 hN h 0), if_pos (man_1 hN h2 0), if_neg (meet_ne hN h h2 h3), if_pos (tick_1 h4)]
theorem fs_t (h : f_X6_isIn a (nI 1) (nI 100) = 0) : thZ_fs a b = 1 := by
  simp only [thZ_fs]; rw [tick_0 h, if_neg (by decide)]
theorem fs_w (h : ¬ f_X6_isIn a (nI 1) (nI 100) = 0) (h2 : f_X6_isIn b (nI 0) (nI 3) = 0) : thZ_fs a b = 2 := by
  simp only [thZ_fs]; rw [if_pos (tick_1 h)]; exact rng_0 (lo := nI 0) h2
theorem fs_0 (h : ¬ f_X6_isIn a (nI 1) (nI 100) = 0) (h2 : ¬ f_X6_isIn b (nI 0) (nI 3) = 0) : thZ_fs a b = 0 := by
  simp only [thZ_fs]; rw [if_pos (tick_1 h)]; exact rng_1 (lo := nI 0) h2
end MTL

set_option maxHeartbeats 4000000 in
set_option maxRecDepth 100000 in
theorem c_X6_meet (l : Launch) (D : va_G) (cs : Nat → ClassId) (ad : Nat → Nat) (I : Mm) (sz : Nat) (k : Nat) (hk : kM.getD k 0 = 10) (a : Int32) (b : Int32) (c0 : Int32) (z : Nat) (J : Mm) (N : Nat) (hRl : Rl z J k I N) (hIV : IV J z N) : MetE l yX6_meet wsX6_meet ({ frames := 6, cells := 6, slots := 1025, locals := 137 }) cs D ad I sz [.ref (ad k), .int a, .int b, .int c0] (fun r p => p.1 0 = ad 0 ∧ PoP z k J N (thZ_meet N a b c0) (fun r => mtS (togA J z N a.toNatClampNeg b.toNatClampNeg) c0.toNatClampNeg r) r p.2) := by
  refine g_metE (cc := cX6_meet) (maxL := 7) (ret := (some .int)) (by decide) rfl (Nat.le_of_ble_eq_true rfl) ?_
  intro pg e s m args below meth c ls hx hb hr hml hts hown hlocks hsz hP hD hK hN hS hA hl hAO
  have hown : s.vm.findClass RX6 = some m.cls := hown
  have hl : lv_has ls 7 [(0, .ref (ad k)), (1, .int a), (2, .int b), (3, .int c0)] := hl
  have hN8 := hIV.1.2.1
  refine lv_aload_n hx hb dX6_meet_0 rfl (lv_at hl 0 rfl) ?_
  refine lv_iconst (v := nI 0) hx hb dX6_meet_1 (by decide) ?_
  refine g_put (κ := 10) (ci := 6) (v := nI 0) (ty := .int) (C := RX6) (T := TX6) (N := 8) hx hb hts hown hK hP hD hS (k := k) hk (by decide) rfl (fun _ h => List.mem_cons_of_mem _ (List.mem_append_right _ h)) tyX6 tyX6_ok nmX6 rfl 0 (by decide) (hts _ (List.mem_of_getElem? (i := 1) rfl)) (fun _ h9 => h9) rfl (by decide +kernel) rfl rfl (Nat.le_of_ble_eq_true rfl) rfl dX6_meet_2 (fun u1 H locs hu1 hP hD hS => ?_)
  have hR1 : Rl z J k u1 N := by rw [hu1]; exact hRl.th _
  have hT1 : u1 k 0 = nI 0 := by rw [hu1]; exact wr_ss _ _ _ _
  skip
  refine lv_aload_n hx hb dX6_meet_5 rfl (lv_at hl 0 rfl) ?_
  refine lv_iload_n hx hb dX6_meet_6 rfl (lv_at hl 1 rfl) ?_
  refine g_callF (F := f_X6_isMan u1 k a N) hD hS hA (va_runV (As := [.int a]) (rest := []) ⟨hx, hb, hml, hown, hts⟩ (c_X6_isMan l D cs ad u1 H.size k hk a N hR1.n) (cwV 1 hts gX6_meet_X6_isMan rfl rfl rfl (by decide +kernel) ⟨Nat.le_of_ble_eq_true rfl, Nat.le_of_ble_eq_true rfl⟩) (g_preV hP hD hK hN (k := k) hk (by decide) rfl rfl rfl rfl) rfl rfl hl.1 rfl (lv_room (Nat.le_of_ble_eq_true rfl)) dX6_meet_7 ⟨Nat.le_of_ble_eq_true rfl, Nat.le_of_ble_eq_true rfl⟩) (fun H locs hP hD hS => ?_)
  refine lv_if_eq (tgt := 21) hx hb dX6_meet_10 (by decide) (fun c_2 => ?_) (fun c_2 => ?_)
  · skip
    refine lv_aload_n hx hb dX6_meet_21 rfl (lv_at hl 0 rfl) ?_
    refine lv_iconst (v := nI 1) hx hb dX6_meet_22 (by decide) ?_
    refine g_callFM (F := f_X6_fail u1 k (nI 1)) (M := m_X6_fail u1 k (nI 1)) hD hS hA (va_runV (As := [.int (nI 1)]) (rest := []) ⟨hx, hb, hml, hown, hts⟩ (c_X6_fail l D cs ad u1 H.size k hk (nI 1)) (cwV 1 hts gX6_meet_X6_fail rfl rfl rfl (by decide +kernel) ⟨Nat.le_of_ble_eq_true rfl, Nat.le_of_ble_eq_true rfl⟩) (g_preV hP hD hK hN (k := k) hk (by decide) rfl rfl rfl rfl) rfl rfl hl.1 rfl (lv_room (Nat.le_of_ble_eq_true rfl)) dX6_meet_23 ⟨Nat.le_of_ble_eq_true rfl, Nat.le_of_ble_eq_true rfl⟩) (fun u3 H locs hu3 hP hD hS => ?_)
    refine W.widen (k := 6) (n := 1025) (Nat.le_of_ble_eq_true rfl) (Nat.le_of_ble_eq_true rfl) ?_
    exact g_iretE (v := f_X6_fail u1 k (nI 1)) hx hb hr hlocks rfl hP hD hS ⟨rfl, PoP.fail hR1 hu3 (meet_a hN8 c_2) (by decide)⟩ dX6_meet_26
  · skip
    refine lv_aload_n hx hb dX6_meet_13 rfl (lv_at hl 0 rfl) ?_
    refine lv_iload_n hx hb dX6_meet_14 rfl (lv_at hl 2 rfl) ?_
    refine g_callF (F := f_X6_isMan u1 k b N) hD hS hA (va_runV (As := [.int b]) (rest := []) ⟨hx, hb, hml, hown, hts⟩ (c_X6_isMan l D cs ad u1 H.size k hk b N hR1.n) (cwV 1 hts gX6_meet_X6_isMan rfl rfl rfl (by decide +kernel) ⟨Nat.le_of_ble_eq_true rfl, Nat.le_of_ble_eq_true rfl⟩) (g_preV hP hD hK hN (k := k) hk (by decide) rfl rfl rfl rfl) rfl rfl hl.1 rfl (lv_room (Nat.le_of_ble_eq_true rfl)) dX6_meet_15 ⟨Nat.le_of_ble_eq_true rfl, Nat.le_of_ble_eq_true rfl⟩) (fun H locs hP hD hS => ?_)
    refine lv_if_ne (tgt := 27) hx hb dX6_meet_18 (by decide) (fun c_4 => ?_) (fun c_4 => ?_)
    · skip
      refine lv_iload_n hx hb dX6_meet_27 rfl (lv_at hl 1 rfl) ?_
      refine lv_iload_n hx hb dX6_meet_28 rfl (lv_at hl 2 rfl) ?_
      refine lv_icmp_eq (tgt := 42) hx hb dX6_meet_29 (by decide) (fun c_5 => ?_) (fun c_5 => ?_)
      · skip
        refine lv_aload_n hx hb dX6_meet_42 rfl (lv_at hl 0 rfl) ?_
        refine lv_iconst (v := nI 2) hx hb dX6_meet_43 (by decide) ?_
        refine g_callFM (F := f_X6_fail u1 k (nI 2)) (M := m_X6_fail u1 k (nI 2)) hD hS hA (va_runV (As := [.int (nI 2)]) (rest := []) ⟨hx, hb, hml, hown, hts⟩ (c_X6_fail l D cs ad u1 H.size k hk (nI 2)) (cwV 1 hts gX6_meet_X6_fail rfl rfl rfl (by decide +kernel) ⟨Nat.le_of_ble_eq_true rfl, Nat.le_of_ble_eq_true rfl⟩) (g_preV hP hD hK hN (k := k) hk (by decide) rfl rfl rfl rfl) rfl rfl hl.1 rfl (lv_room (Nat.le_of_ble_eq_true rfl)) dX6_meet_44 ⟨Nat.le_of_ble_eq_true rfl, Nat.le_of_ble_eq_true rfl⟩) (fun u6 H locs hu6 hP hD hS => ?_)
        refine W.widen (k := 6) (n := 1025) (Nat.le_of_ble_eq_true rfl) (Nat.le_of_ble_eq_true rfl) ?_
        exact g_iretE (v := f_X6_fail u1 k (nI 2)) hx hb hr hlocks rfl hP hD hS ⟨rfl, PoP.fail hR1 hu6 (meet_e hN8 c_2 c_4 c_5) (by decide)⟩ dX6_meet_47
      · skip
        refine lv_iload_n hx hb dX6_meet_32 rfl (lv_at hl 3 rfl) ?_
        refine lv_iconst (v := nI 1) hx hb dX6_meet_33 (by decide) ?_
        refine lv_bipush (v := nI 100) hx hb dX6_meet_34 (by decide) ?_
        refine g_callF (F := f_X6_isIn c0 (nI 1) (nI 100)) hD hS hA (va_runS (As := [.int c0, .int (nI 1), .int (nI 100)]) (rest := []) ⟨hx, hb, hml, hown, hts⟩ (c_X6_isIn l D cs ad u1 H.size c0 (nI 1) (nI 100)) (va_cwS 3 hts gX6_meet_X6_isIn rfl rfl rfl (by decide +kernel) ⟨Nat.le_of_ble_eq_true rfl, Nat.le_of_ble_eq_true rfl⟩) (g_preS hP hD hK hN) rfl rfl hl.1 rfl (lv_room (Nat.le_of_ble_eq_true rfl)) dX6_meet_36 ⟨Nat.le_of_ble_eq_true rfl, Nat.le_of_ble_eq_true rfl⟩) (fun H locs hP hD hS => ?_)
        refine lv_if_ne (tgt := 48) hx hb dX6_meet_39 (by decide) (fun c_7 => ?_) (fun c_7 => ?_)
        · skip
          refine lv_aload_n hx hb dX6_meet_48 rfl (lv_at hl 0 rfl) ?_
          obtain ⟨hm1, hj1, he1⟩ := mb_c hN8 (man_1 hN8 c_2 0)
          obtain ⟨hm2, hj2, he2⟩ := mb_c hN8 (man_1 hN8 c_4 0)
          have hn9 := in_1n (n := 100) (by decide) c_7
          skip
          have hfr := gA_free hD hS hA
          refine va_callr (va_runV (As := []) (rest := []) ⟨hx, hb, hml, hown, hts⟩ (c_X6_kept l D cs ad u1 H.size k hk) (cwV 0 hts gX6_meet_X6_kept rfl rfl rfl (by decide +kernel) ⟨Nat.le_of_ble_eq_true rfl, Nat.le_of_ble_eq_true rfl⟩) (g_preVE hP hD hK hN hAO (k := k) hk (by decide) rfl rfl rfl rfl) rfl rfl hl.1 rfl (lv_room (Nat.le_of_ble_eq_true rfl)) dX6_meet_49 ⟨Nat.le_of_ble_eq_true rfl, Nat.le_of_ble_eq_true rfl⟩) hS (fun q _ h => hfr q h) hfr (fun qs qA t9 H locs ht9 hvm9 _ hB9 _ _ hS => ?_)
          obtain ⟨hP9, hD9⟩ := hB9
          rw [ht9] at hP9
          have hDA := hD9.weaken (fun _ _ _ h => hfr _ h)
          have hap := Ap.of hDA
          have hPK := P_right hP9
          have hP := P_left hP9
          have hD := D_left hDA
          have hDK := D_right hDA
          refine lv_astore (lv' := [(4, .ref qA), (0, .ref (ad k)), (1, .int a), (2, .int b), (3, .int c0)]) hx hb dX6_meet_52 hl (by decide) rfl (fun ls hl => ?_)
          refine lv_iconst (v := nI 0) hx hb dX6_meet_54 (by decide) ?_
          refine lv_istore (lv' := [(5, .int (nI 0)), (4, .ref qA), (0, .ref (ad k)), (1, .int a), (2, .int b), (3, .int c0)]) hx hb dX6_meet_55 hl (by decide) rfl (fun ls hl => ?_)
          suffices KL57 : ∀ (fuel : Nat) (i : Nat) (v : Mm) (H : Heap) (locs : List Loc) (ls : Array Slot), (i ≤ c0.toNatClampNeg) → (Rl z (tkI J z N i) k v N ∧ v k = u1 k) → (∀ j, j < i → ¬ togA J z N a.toNatClampNeg b.toNatClampNeg j) → (va_P D vwCl (kpW cs k u1 qA qs) H) → c0.toNatClampNeg - i < fuel → va_P D vwCl (gw kM cs ad v) H → va_D (gA kM ad sz) (gw kM cs ad v) → va_S (gA kM ad sz) s.heap H locs → lv_has ls 7 [(5, .int (nI i)), (4, .ref qA), (0, .ref (ad k)), (1, .int a), (2, .int b), (3, .int c0)] → W pg l e ({ frames := 6, cells := 6, slots := 1025, locals := 137 }) s m args below meth c H locs 6 1025 (MQ below (va_Qi (fun r p => p.1 0 = ad 0 ∧ PoP z k J N (thZ_meet N a b c0) (fun r => mtS (togA J z N a.toNatClampNeg b.toNatClampNeg) c0.toNatClampNeg r) r p.2) (watE cs D (gA kM ad sz)) (gA kM ad sz)) args s 6 1025 (gA kM ad sz)) (F0 m 57 ls []) from KL57 _ 0 u1 _ _ _ (Nat.zero_le _) ⟨hR1, rfl⟩ (fun j hj => absurd hj (Nat.not_lt_zero _)) hPK (Nat.lt_succ_self _) hP hD hS (lv_sub hl [0, 1, 2, 3, 4, 5] rfl)
          intro fuel57
          induction fuel57 with
          | zero => intro _ _ _ _ _ _ _ _ _ hm; exact absurd hm (Nat.not_lt_zero _)
          | succ fuel57 ih57 =>
            intro i v H locs ls hi hv hno hPK hm57 hP hD hS hl
            refine lv_iload hx hb dX6_meet_57 (lv_at hl 0 rfl) ?_
            refine lv_iload_n hx hb dX6_meet_59 rfl (lv_at hl 5 rfl) ?_
            refine lv_topi (fun y9 ey9 => ?_)
            obtain rfl := ey9.trans hn9.1
            refine lv_icmp_ge (tgt := 82) hx hb dX6_meet_60 (by decide) (fun c_8 => ?_) (fun c_8 => ?_)
            · skip
              have nc_8 : c0.toNatClampNeg ≤ i := (nI_leI (a := c0.toNatClampNeg) (b := i) (by omega) (by omega)).mp c_8
              refine lv_aload_n hx hb dX6_meet_82 rfl (lv_at hl 2 rfl) ?_
              refine lv_iload_n hx hb dX6_meet_83 rfl (lv_at hl 3 rfl) ?_
              refine lv_topi (fun y9 ey9 => ?_)
              obtain rfl := ey9.trans he1
              refine lv_iload_n hx hb dX6_meet_84 rfl (lv_at hl 4 rfl) ?_
              refine lv_topi (fun y9 ey9 => ?_)
              obtain rfl := ey9.trans he2
              refine g_callFK (F := f_X0_areTogether (tkI J z N i) z a.toNatClampNeg b.toNatClampNeg) hPK hap hD hS hA (va_runV (As := [.int (nI a.toNatClampNeg), .int (nI b.toNatClampNeg)]) (rest := []) ⟨hx, hb, hml, hown, hts⟩ (c_X6_areTogether l D cs ad v H.size k hk a.toNatClampNeg (by omega) b.toNatClampNeg (by omega) z (tkI J z N i) N hv.1 (hIV.tkI i) hj1 hj2) (cwV 2 hts gX6_meet_X6_areTogether rfl rfl rfl (by decide +kernel) ⟨Nat.le_of_ble_eq_true rfl, Nat.le_of_ble_eq_true rfl⟩) (g_preV hP hD hK hN (k := k) hk (by decide) rfl rfl rfl rfl) rfl rfl hl.1 rfl (lv_room (Nat.le_of_ble_eq_true rfl)) dX6_meet_85 ⟨Nat.le_of_ble_eq_true rfl, Nat.le_of_ble_eq_true rfl⟩) (fun H locs hPK hP hD hS => ?_)
              refine lv_if_eq (tgt := 96) hx hb dX6_meet_88 (by decide) (fun c_9 => ?_) (fun c_9 => ?_)
              · skip
                refine lv_iconst (v := -1) hx hb dX6_meet_96 (by decide) ?_
                refine lv_istore (lv' := [(6, .int (-1)), (5, .int (nI i)), (4, .ref qA), (0, .ref (ad k)), (1, .int a), (2, .int b), (3, .int c0)]) hx hb dX6_meet_97 hl (by decide) rfl (fun ls hl => ?_)
                refine lv_aload_n hx hb dX6_meet_99 rfl (lv_at hl 3 rfl) ?_
                refine lv_aload hx hb dX6_meet_100 (lv_at hl 2 rfl) ?_
                have hDB : va_D (gA kM ad sz) (gw kM cs ad v ++ kpW cs k u1 qA qs) := hD.app hDK (fun i j p q hp hq e => hap j q hq i (gw_inv hp).1 (by rw [← e, (gw_inv hp).2]))
                have hfb := A_free hDB hS hA
                refine va_callv (va_runV (As := [.ref qA]) (rest := []) ⟨hx, hb, hml, hown, hts⟩ (c_X6_bringBack l D cs ad v u1 H.size k hk qA qs) (cwV 1 hts gX6_meet_X6_bringBack rfl rfl rfl (by decide +kernel) ⟨Nat.le_of_ble_eq_true rfl, Nat.le_of_ble_eq_true rfl⟩) (l_preV (X := fun _ => True) (fun _ _ _ h => h) (hP.app hPK) hDB hK hN trivial (q0 := k) (ci := 6) rfl (app_lt (gw_at hk (by decide) rfl)) rfl) rfl rfl hl.1 rfl (lv_room (Nat.le_of_ble_eq_true rfl)) dX6_meet_102 ⟨Nat.le_of_ble_eq_true rfl, Nat.le_of_ble_eq_true rfl⟩) hS (fun q _ h => hfb q h) hfb (fun _ t9 H locs ht9 hvm9 _ hB9 _ _ hS => ?_)
                rw [ht9] at hB9
                have hP := hB9
                have hD := bb_Dk hk hDB
                refine lv_iload hx hb dX6_meet_105 (lv_at hl 0 rfl) ?_
                refine W.widen (k := 6) (n := 1025) (Nat.le_of_ble_eq_true rfl) (Nat.le_of_ble_eq_true rfl) ?_
                exact g_iretE (v := -1) hx hb hr hlocks rfl hP hD hS ⟨rfl, PoP.ok (bb_Rl hk hR1 hv.2) ((bb_k hk hv.2).trans hT1) (meet_0 hN8 c_2 c_4 c_5 c_7) (Or.inr ⟨fun j hj => (Nat.lt_or_ge j i).elim (hno j) (fun y => by rw [show j = i from by omega]; exact fun z9 => z9 c_9), rfl⟩)⟩ dX6_meet_107
              · skip
                refine lv_iload hx hb dX6_meet_91 (lv_at hl 0 rfl) ?_
                refine lv_goto (tgt := 97) hx hb dX6_meet_93 (by decide) ?_
                refine lv_istore (lv' := [(6, .int (nI i)), (5, .int (nI i)), (4, .ref qA), (0, .ref (ad k)), (1, .int a), (2, .int b), (3, .int c0)]) hx hb dX6_meet_97 hl (by decide) rfl (fun ls hl => ?_)
                refine lv_aload_n hx hb dX6_meet_99 rfl (lv_at hl 3 rfl) ?_
                refine lv_aload hx hb dX6_meet_100 (lv_at hl 2 rfl) ?_
                have hDB : va_D (gA kM ad sz) (gw kM cs ad v ++ kpW cs k u1 qA qs) := hD.app hDK (fun i j p q hp hq e => hap j q hq i (gw_inv hp).1 (by rw [← e, (gw_inv hp).2]))
                have hfb := A_free hDB hS hA
                refine va_callv (va_runV (As := [.ref qA]) (rest := []) ⟨hx, hb, hml, hown, hts⟩ (c_X6_bringBack l D cs ad v u1 H.size k hk qA qs) (cwV 1 hts gX6_meet_X6_bringBack rfl rfl rfl (by decide +kernel) ⟨Nat.le_of_ble_eq_true rfl, Nat.le_of_ble_eq_true rfl⟩) (l_preV (X := fun _ => True) (fun _ _ _ h => h) (hP.app hPK) hDB hK hN trivial (q0 := k) (ci := 6) rfl (app_lt (gw_at hk (by decide) rfl)) rfl) rfl rfl hl.1 rfl (lv_room (Nat.le_of_ble_eq_true rfl)) dX6_meet_102 ⟨Nat.le_of_ble_eq_true rfl, Nat.le_of_ble_eq_true rfl⟩) hS (fun q _ h => hfb q h) hfb (fun _ t9 H locs ht9 hvm9 _ hB9 _ _ hS => ?_)
                rw [ht9] at hB9
                have hP := hB9
                have hD := bb_Dk hk hDB
                refine lv_iload hx hb dX6_meet_105 (lv_at hl 0 rfl) ?_
                refine W.widen (k := 6) (n := 1025) (Nat.le_of_ble_eq_true rfl) (Nat.le_of_ble_eq_true rfl) ?_
                exact g_iretE (v := nI i) hx hb hr hlocks rfl hP hD hS ⟨rfl, PoP.ok (bb_Rl hk hR1 hv.2) ((bb_k hk hv.2).trans hT1) (meet_0 hN8 c_2 c_4 c_5 c_7) (Or.inl ⟨i, hi, c_9, hno, rfl⟩)⟩ dX6_meet_107
            · skip
              have nc_8 : ¬ c0.toNatClampNeg ≤ i := fun z9_ => c_8 ((nI_leI (a := c0.toNatClampNeg) (b := i) (by omega) (by omega)).mpr z9_)
              refine lv_aload_n hx hb dX6_meet_63 rfl (lv_at hl 2 rfl) ?_
              refine lv_iload_n hx hb dX6_meet_64 rfl (lv_at hl 3 rfl) ?_
              refine lv_topi (fun y9 ey9 => ?_)
              obtain rfl := ey9.trans he1
              refine lv_iload_n hx hb dX6_meet_65 rfl (lv_at hl 4 rfl) ?_
              refine lv_topi (fun y9 ey9 => ?_)
              obtain rfl := ey9.trans he2
              refine g_callFK (F := f_X0_areTogether (tkI J z N i) z a.toNatClampNeg b.toNatClampNeg) hPK hap hD hS hA (va_runV (As := [.int (nI a.toNatClampNeg), .int (nI b.toNatClampNeg)]) (rest := []) ⟨hx, hb, hml, hown, hts⟩ (c_X6_areTogether l D cs ad v H.size k hk a.toNatClampNeg (by omega) b.toNatClampNeg (by omega) z (tkI J z N i) N hv.1 (hIV.tkI i) hj1 hj2) (cwV 2 hts gX6_meet_X6_areTogether rfl rfl rfl (by decide +kernel) ⟨Nat.le_of_ble_eq_true rfl, Nat.le_of_ble_eq_true rfl⟩) (g_preV hP hD hK hN (k := k) hk (by decide) rfl rfl rfl rfl) rfl rfl hl.1 rfl (lv_room (Nat.le_of_ble_eq_true rfl)) dX6_meet_66 ⟨Nat.le_of_ble_eq_true rfl, Nat.le_of_ble_eq_true rfl⟩) (fun H locs hPK hP hD hS => ?_)
              refine lv_if_ne (tgt := 82) hx hb dX6_meet_69 (by decide) (fun c_10 => ?_) (fun c_10 => ?_)
              · skip
                refine lv_aload_n hx hb dX6_meet_82 rfl (lv_at hl 2 rfl) ?_
                refine lv_iload_n hx hb dX6_meet_83 rfl (lv_at hl 3 rfl) ?_
                refine lv_topi (fun y9 ey9 => ?_)
                obtain rfl := ey9.trans he1
                refine lv_iload_n hx hb dX6_meet_84 rfl (lv_at hl 4 rfl) ?_
                refine lv_topi (fun y9 ey9 => ?_)
                obtain rfl := ey9.trans he2
                refine g_callFK (F := f_X0_areTogether (tkI J z N i) z a.toNatClampNeg b.toNatClampNeg) hPK hap hD hS hA (va_runV (As := [.int (nI a.toNatClampNeg), .int (nI b.toNatClampNeg)]) (rest := []) ⟨hx, hb, hml, hown, hts⟩ (c_X6_areTogether l D cs ad v H.size k hk a.toNatClampNeg (by omega) b.toNatClampNeg (by omega) z (tkI J z N i) N hv.1 (hIV.tkI i) hj1 hj2) (cwV 2 hts gX6_meet_X6_areTogether rfl rfl rfl (by decide +kernel) ⟨Nat.le_of_ble_eq_true rfl, Nat.le_of_ble_eq_true rfl⟩) (g_preV hP hD hK hN (k := k) hk (by decide) rfl rfl rfl rfl) rfl rfl hl.1 rfl (lv_room (Nat.le_of_ble_eq_true rfl)) dX6_meet_85 ⟨Nat.le_of_ble_eq_true rfl, Nat.le_of_ble_eq_true rfl⟩) (fun H locs hPK hP hD hS => ?_)
                refine lv_if_eq (tgt := 96) hx hb dX6_meet_88 (by decide) (fun c_11 => ?_) (fun c_11 => ?_)
                · skip
                  refine lv_iconst (v := -1) hx hb dX6_meet_96 (by decide) ?_
                  refine lv_istore (lv' := [(6, .int (-1)), (5, .int (nI i)), (4, .ref qA), (0, .ref (ad k)), (1, .int a), (2, .int b), (3, .int c0)]) hx hb dX6_meet_97 hl (by decide) rfl (fun ls hl => ?_)
                  refine lv_aload_n hx hb dX6_meet_99 rfl (lv_at hl 3 rfl) ?_
                  refine lv_aload hx hb dX6_meet_100 (lv_at hl 2 rfl) ?_
                  have hDB : va_D (gA kM ad sz) (gw kM cs ad v ++ kpW cs k u1 qA qs) := hD.app hDK (fun i j p q hp hq e => hap j q hq i (gw_inv hp).1 (by rw [← e, (gw_inv hp).2]))
                  have hfb := A_free hDB hS hA
                  refine va_callv (va_runV (As := [.ref qA]) (rest := []) ⟨hx, hb, hml, hown, hts⟩ (c_X6_bringBack l D cs ad v u1 H.size k hk qA qs) (cwV 1 hts gX6_meet_X6_bringBack rfl rfl rfl (by decide +kernel) ⟨Nat.le_of_ble_eq_true rfl, Nat.le_of_ble_eq_true rfl⟩) (l_preV (X := fun _ => True) (fun _ _ _ h => h) (hP.app hPK) hDB hK hN trivial (q0 := k) (ci := 6) rfl (app_lt (gw_at hk (by decide) rfl)) rfl) rfl rfl hl.1 rfl (lv_room (Nat.le_of_ble_eq_true rfl)) dX6_meet_102 ⟨Nat.le_of_ble_eq_true rfl, Nat.le_of_ble_eq_true rfl⟩) hS (fun q _ h => hfb q h) hfb (fun _ t9 H locs ht9 hvm9 _ hB9 _ _ hS => ?_)
                  rw [ht9] at hB9
                  have hP := hB9
                  have hD := bb_Dk hk hDB
                  refine lv_iload hx hb dX6_meet_105 (lv_at hl 0 rfl) ?_
                  refine W.widen (k := 6) (n := 1025) (Nat.le_of_ble_eq_true rfl) (Nat.le_of_ble_eq_true rfl) ?_
                  exact g_iretE (v := -1) hx hb hr hlocks rfl hP hD hS (absurd c_11 c_10) dX6_meet_107
                · skip
                  refine lv_iload hx hb dX6_meet_91 (lv_at hl 0 rfl) ?_
                  refine lv_goto (tgt := 97) hx hb dX6_meet_93 (by decide) ?_
                  refine lv_istore (lv' := [(6, .int (nI i)), (5, .int (nI i)), (4, .ref qA), (0, .ref (ad k)), (1, .int a), (2, .int b), (3, .int c0)]) hx hb dX6_meet_97 hl (by decide) rfl (fun ls hl => ?_)
                  refine lv_aload_n hx hb dX6_meet_99 rfl (lv_at hl 3 rfl) ?_
                  refine lv_aload hx hb dX6_meet_100 (lv_at hl 2 rfl) ?_
                  have hDB : va_D (gA kM ad sz) (gw kM cs ad v ++ kpW cs k u1 qA qs) := hD.app hDK (fun i j p q hp hq e => hap j q hq i (gw_inv hp).1 (by rw [← e, (gw_inv hp).2]))
                  have hfb := A_free hDB hS hA
                  refine va_callv (va_runV (As := [.ref qA]) (rest := []) ⟨hx, hb, hml, hown, hts⟩ (c_X6_bringBack l D cs ad v u1 H.size k hk qA qs) (cwV 1 hts gX6_meet_X6_bringBack rfl rfl rfl (by decide +kernel) ⟨Nat.le_of_ble_eq_true rfl, Nat.le_of_ble_eq_true rfl⟩) (l_preV (X := fun _ => True) (fun _ _ _ h => h) (hP.app hPK) hDB hK hN trivial (q0 := k) (ci := 6) rfl (app_lt (gw_at hk (by decide) rfl)) rfl) rfl rfl hl.1 rfl (lv_room (Nat.le_of_ble_eq_true rfl)) dX6_meet_102 ⟨Nat.le_of_ble_eq_true rfl, Nat.le_of_ble_eq_true rfl⟩) hS (fun q _ h => hfb q h) hfb (fun _ t9 H locs ht9 hvm9 _ hB9 _ _ hS => ?_)
                  rw [ht9] at hB9
                  have hP := hB9
                  have hD := bb_Dk hk hDB
                  refine lv_iload hx hb dX6_meet_105 (lv_at hl 0 rfl) ?_
                  refine W.widen (k := 6) (n := 1025) (Nat.le_of_ble_eq_true rfl) (Nat.le_of_ble_eq_true rfl) ?_
                  exact g_iretE (v := nI i) hx hb hr hlocks rfl hP hD hS ⟨rfl, PoP.ok (bb_Rl hk hR1 hv.2) ((bb_k hk hv.2).trans hT1) (meet_0 hN8 c_2 c_4 c_5 c_7) (Or.inl ⟨i, hi, c_11, hno, rfl⟩)⟩ dX6_meet_107
              · skip
                refine lv_aload_n hx hb dX6_meet_72 rfl (lv_at hl 2 rfl) ?_
                refine g_callvK hPK hap hD hS hA (va_runV (As := []) (rest := []) ⟨hx, hb, hml, hown, hts⟩ (c_X6_tickOn l D cs ad v H.size k hk z (tkI J z N i) N hv.1 (hIV.tkI i)) (cwV 0 hts gX6_meet_X6_tickOn rfl rfl rfl (by decide +kernel) ⟨Nat.le_of_ble_eq_true rfl, Nat.le_of_ble_eq_true rfl⟩) (g_preV hP hD hK hN (k := k) hk (by decide) rfl rfl rfl rfl) rfl rfl hl.1 rfl (lv_room (Nat.le_of_ble_eq_true rfl)) dX6_meet_73 ⟨Nat.le_of_ble_eq_true rfl, Nat.le_of_ble_eq_true rfl⟩) (fun u12 H locs hu12 hPK hP hD hS => ?_)
                refine lv_iinc (v := nI (i + 1)) (lv' := [(5, .int (nI (i + 1))), (4, .ref qA), (0, .ref (ad k)), (1, .int a), (2, .int b), (3, .int c0)]) hx hb dX6_meet_76 hl (k := 0) rfl (nI_1 i) (by decide) rfl (fun ls hl => ?_)
                refine lv_goto (tgt := 57) hx hb dX6_meet_79 (by decide) ?_
                exact ih57 (i + 1) u12 _ _ _ (by omega) ⟨hu12.1, hu12.2.trans hv.2⟩ (fun j hj => (Nat.lt_or_ge j i).elim (hno j) (fun y => by rw [show j = i from by omega]; exact fun z9 => z9 c_10)) hPK (by omega) hP hD hS (lv_sub hl [0, 1, 2, 3, 4, 5] rfl)
        · skip
          refine lv_aload_n hx hb dX6_meet_42 rfl (lv_at hl 0 rfl) ?_
          refine lv_iconst (v := nI 2) hx hb dX6_meet_43 (by decide) ?_
          refine g_callFM (F := f_X6_fail u1 k (nI 2)) (M := m_X6_fail u1 k (nI 2)) hD hS hA (va_runV (As := [.int (nI 2)]) (rest := []) ⟨hx, hb, hml, hown, hts⟩ (c_X6_fail l D cs ad u1 H.size k hk (nI 2)) (cwV 1 hts gX6_meet_X6_fail rfl rfl rfl (by decide +kernel) ⟨Nat.le_of_ble_eq_true rfl, Nat.le_of_ble_eq_true rfl⟩) (g_preV hP hD hK hN (k := k) hk (by decide) rfl rfl rfl rfl) rfl rfl hl.1 rfl (lv_room (Nat.le_of_ble_eq_true rfl)) dX6_meet_44 ⟨Nat.le_of_ble_eq_true rfl, Nat.le_of_ble_eq_true rfl⟩) (fun u13 H locs hu13 hP hD hS => ?_)
          refine W.widen (k := 6) (n := 1025) (Nat.le_of_ble_eq_true rfl) (Nat.le_of_ble_eq_true rfl) ?_
          exact g_iretE (v := f_X6_fail u1 k (nI 2)) hx hb hr hlocks rfl hP hD hS ⟨rfl, PoP.fail hR1 hu13 (meet_t hN8 c_2 c_4 c_5 c_7) (by decide)⟩ dX6_meet_47
    · skip
      refine lv_aload_n hx hb dX6_meet_21 rfl (lv_at hl 0 rfl) ?_
      refine lv_iconst (v := nI 1) hx hb dX6_meet_22 (by decide) ?_
      refine g_callFM (F := f_X6_fail u1 k (nI 1)) (M := m_X6_fail u1 k (nI 1)) hD hS hA (va_runV (As := [.int (nI 1)]) (rest := []) ⟨hx, hb, hml, hown, hts⟩ (c_X6_fail l D cs ad u1 H.size k hk (nI 1)) (cwV 1 hts gX6_meet_X6_fail rfl rfl rfl (by decide +kernel) ⟨Nat.le_of_ble_eq_true rfl, Nat.le_of_ble_eq_true rfl⟩) (g_preV hP hD hK hN (k := k) hk (by decide) rfl rfl rfl rfl) rfl rfl hl.1 rfl (lv_room (Nat.le_of_ble_eq_true rfl)) dX6_meet_23 ⟨Nat.le_of_ble_eq_true rfl, Nat.le_of_ble_eq_true rfl⟩) (fun u14 H locs hu14 hP hD hS => ?_)
      refine W.widen (k := 6) (n := 1025) (Nat.le_of_ble_eq_true rfl) (Nat.le_of_ble_eq_true rfl) ?_
      exact g_iretE (v := f_X6_fail u1 k (nI 1)) hx hb hr hlocks rfl hP hD hS ⟨rfl, PoP.fail hR1 hu14 (meet_b hN8 c_2 c_4) (by decide)⟩ dX6_meet_26

set_option maxHeartbeats 4000000 in
set_option maxRecDepth 100000 in
theorem c_X6_foresee (l : Launch) (D : va_G) (cs : Nat → ClassId) (ad : Nat → Nat) (I : Mm) (sz : Nat) (k : Nat) (hk : kM.getD k 0 = 10) (a : Int32) (b : Int32) (z : Nat) (J : Mm) (N : Nat) (hRl : Rl z J k I N) (hIV : IV J z N) : MetE l yX6_foresee wsX6_foresee ({ frames := 6, cells := 6, slots := 1025, locals := 137 }) cs D ad I sz [.ref (ad k), .int a, .int b] (fun r p => p.1 0 = ad 0 ∧ PoP z k J N (thZ_fs a b) (fun r => r = fsF (tkI J z N a.toNatClampNeg) z N b) r p.2) := by
  refine g_metE (cc := cX6_foresee) (maxL := 5) (ret := (some .int)) (by decide) rfl (Nat.le_of_ble_eq_true rfl) ?_
  intro pg e s m args below meth c ls hx hb hr hml hts hown hlocks hsz hP hD hK hN hS hA hl hAO
  have hown : s.vm.findClass RX6 = some m.cls := hown
  have hl : lv_has ls 5 [(0, .ref (ad k)), (1, .int a), (2, .int b)] := hl
  have hN8 := hIV.1.2.1
  refine lv_aload_n hx hb dX6_foresee_0 rfl (lv_at hl 0 rfl) ?_
  refine lv_iconst (v := nI 0) hx hb dX6_foresee_1 (by decide) ?_
  refine g_put (κ := 10) (ci := 6) (v := nI 0) (ty := .int) (C := RX6) (T := TX6) (N := 8) hx hb hts hown hK hP hD hS (k := k) hk (by decide) rfl (fun _ h => List.mem_cons_of_mem _ (List.mem_append_right _ h)) tyX6 tyX6_ok nmX6 rfl 0 (by decide) (hts _ (List.mem_of_getElem? (i := 1) rfl)) (fun _ h9 => h9) rfl (by decide +kernel) rfl rfl (Nat.le_of_ble_eq_true rfl) rfl dX6_foresee_2 (fun u1 H locs hu1 hP hD hS => ?_)
  have hR1 : Rl z J k u1 N := by rw [hu1]; exact hRl.th _
  have hT1 : u1 k 0 = nI 0 := by rw [hu1]; exact wr_ss _ _ _ _
  skip
  refine lv_iload_n hx hb dX6_foresee_5 rfl (lv_at hl 1 rfl) ?_
  refine lv_iconst (v := nI 1) hx hb dX6_foresee_6 (by decide) ?_
  refine lv_bipush (v := nI 100) hx hb dX6_foresee_7 (by decide) ?_
  refine g_callF (F := f_X6_isIn a (nI 1) (nI 100)) hD hS hA (va_runS (As := [.int a, .int (nI 1), .int (nI 100)]) (rest := []) ⟨hx, hb, hml, hown, hts⟩ (c_X6_isIn l D cs ad u1 H.size a (nI 1) (nI 100)) (va_cwS 3 hts gX6_foresee_X6_isIn rfl rfl rfl (by decide +kernel) ⟨Nat.le_of_ble_eq_true rfl, Nat.le_of_ble_eq_true rfl⟩) (g_preS hP hD hK hN) rfl rfl hl.1 rfl (lv_room (Nat.le_of_ble_eq_true rfl)) dX6_foresee_9 ⟨Nat.le_of_ble_eq_true rfl, Nat.le_of_ble_eq_true rfl⟩) (fun H locs hP hD hS => ?_)
  refine lv_if_ne (tgt := 21) hx hb dX6_foresee_12 (by decide) (fun c_2 => ?_) (fun c_2 => ?_)
  · skip
    refine lv_iload_n hx hb dX6_foresee_21 rfl (lv_at hl 2 rfl) ?_
    refine lv_iconst (v := nI 0) hx hb dX6_foresee_22 (by decide) ?_
    refine lv_iconst (v := nI 3) hx hb dX6_foresee_23 (by decide) ?_
    refine g_callF (F := f_X6_isIn b (nI 0) (nI 3)) hD hS hA (va_runS (As := [.int b, .int (nI 0), .int (nI 3)]) (rest := []) ⟨hx, hb, hml, hown, hts⟩ (c_X6_isIn l D cs ad u1 H.size b (nI 0) (nI 3)) (va_cwS 3 hts gX6_foresee_X6_isIn rfl rfl rfl (by decide +kernel) ⟨Nat.le_of_ble_eq_true rfl, Nat.le_of_ble_eq_true rfl⟩) (g_preS hP hD hK hN) rfl rfl hl.1 rfl (lv_room (Nat.le_of_ble_eq_true rfl)) dX6_foresee_24 ⟨Nat.le_of_ble_eq_true rfl, Nat.le_of_ble_eq_true rfl⟩) (fun H locs hP hD hS => ?_)
    refine lv_if_ne (tgt := 36) hx hb dX6_foresee_27 (by decide) (fun c_3 => ?_) (fun c_3 => ?_)
    · skip
      refine lv_aload_n hx hb dX6_foresee_36 rfl (lv_at hl 0 rfl) ?_
      have hn9 := in_1n (n := 100) (by decide) c_2
      skip
      have hfr := gA_free hD hS hA
      refine va_callr (va_runV (As := []) (rest := []) ⟨hx, hb, hml, hown, hts⟩ (c_X6_kept l D cs ad u1 H.size k hk) (cwV 0 hts gX6_foresee_X6_kept rfl rfl rfl (by decide +kernel) ⟨Nat.le_of_ble_eq_true rfl, Nat.le_of_ble_eq_true rfl⟩) (g_preVE hP hD hK hN hAO (k := k) hk (by decide) rfl rfl rfl rfl) rfl rfl hl.1 rfl (lv_room (Nat.le_of_ble_eq_true rfl)) dX6_foresee_37 ⟨Nat.le_of_ble_eq_true rfl, Nat.le_of_ble_eq_true rfl⟩) hS (fun q _ h => hfr q h) hfr (fun qs qA t9 H locs ht9 hvm9 _ hB9 _ _ hS => ?_)
      obtain ⟨hP9, hD9⟩ := hB9
      rw [ht9] at hP9
      have hDA := hD9.weaken (fun _ _ _ h => hfr _ h)
      have hap := Ap.of hDA
      have hPK := P_right hP9
      have hP := P_left hP9
      have hD := D_left hDA
      have hDK := D_right hDA
      refine lv_astore_n (lv' := [(3, .ref qA), (0, .ref (ad k)), (1, .int a), (2, .int b)]) hx hb dX6_foresee_40 rfl hl (by decide) rfl (fun ls hl => ?_)
      refine lv_iconst (v := nI 0) hx hb dX6_foresee_41 (by decide) ?_
      refine lv_istore (lv' := [(4, .int (nI 0)), (3, .ref qA), (0, .ref (ad k)), (1, .int a), (2, .int b)]) hx hb dX6_foresee_42 hl (by decide) rfl (fun ls hl => ?_)
      suffices KL44 : ∀ (fuel : Nat) (i : Nat) (v : Mm) (H : Heap) (locs : List Loc) (ls : Array Slot), (i ≤ a.toNatClampNeg) → (Rl z (tkI J z N i) k v N ∧ v k = u1 k) → (va_P D vwCl (kpW cs k u1 qA qs) H) → a.toNatClampNeg - i < fuel → va_P D vwCl (gw kM cs ad v) H → va_D (gA kM ad sz) (gw kM cs ad v) → va_S (gA kM ad sz) s.heap H locs → lv_has ls 5 [(4, .int (nI i)), (3, .ref qA), (0, .ref (ad k)), (1, .int a), (2, .int b)] → W pg l e ({ frames := 6, cells := 6, slots := 1025, locals := 137 }) s m args below meth c H locs 6 1025 (MQ below (va_Qi (fun r p => p.1 0 = ad 0 ∧ PoP z k J N (thZ_fs a b) (fun r => r = fsF (tkI J z N a.toNatClampNeg) z N b) r p.2) (watE cs D (gA kM ad sz)) (gA kM ad sz)) args s 6 1025 (gA kM ad sz)) (F0 m 44 ls []) from KL44 _ 0 u1 _ _ _ (Nat.zero_le _) ⟨hR1, rfl⟩ hPK (Nat.lt_succ_self _) hP hD hS (lv_sub hl [0, 1, 2, 3, 4] rfl)
      intro fuel44
      induction fuel44 with
      | zero => intro _ _ _ _ _ _ _ _ hm; exact absurd hm (Nat.not_lt_zero _)
      | succ fuel44 ih44 =>
        intro i v H locs ls hi hv hPK hm44 hP hD hS hl
        refine lv_iload hx hb dX6_foresee_44 (lv_at hl 0 rfl) ?_
        refine lv_iload_n hx hb dX6_foresee_46 rfl (lv_at hl 3 rfl) ?_
        refine lv_topi (fun y9 ey9 => ?_)
        obtain rfl := ey9.trans hn9.1
        refine lv_icmp_ge (tgt := 60) hx hb dX6_foresee_47 (by decide) (fun c_4 => ?_) (fun c_4 => ?_)
        · skip
          have nc_4 : a.toNatClampNeg ≤ i := (nI_leI (a := a.toNatClampNeg) (b := i) (by omega) (by omega)).mp c_4
          refine lv_iload_n hx hb dX6_foresee_60 rfl (lv_at hl 4 rfl) ?_
          refine lv_if_ne (tgt := 72) hx hb dX6_foresee_61 (by decide) (fun c_5 => ?_) (fun c_5 => ?_)
          · skip
            refine lv_iload_n hx hb dX6_foresee_72 rfl (lv_at hl 4 rfl) ?_
            refine lv_iconst (v := nI 1) hx hb dX6_foresee_73 (by decide) ?_
            refine lv_icmp_ne (tgt := 84) hx hb dX6_foresee_74 (by decide) (fun c_6 => ?_) (fun c_6 => ?_)
            · skip
              refine lv_aload_n hx hb dX6_foresee_84 rfl (lv_at hl 2 rfl) ?_
              refine lv_iload_n hx hb dX6_foresee_85 rfl (lv_at hl 4 rfl) ?_
              refine lv_iconst (v := nI 2) hx hb dX6_foresee_86 (by decide) ?_
              refine lv_icmp_ne (tgt := 94) hx hb dX6_foresee_87 (by decide) (fun c_7 => ?_) (fun c_7 => ?_)
              · skip
                refine lv_bipush (v := nI 6) hx hb dX6_foresee_94 (by decide) ?_
                refine g_callFK (F := sm (fun i => v (k + 4) (31 * i + 6)) N) hPK hap hD hS hA (va_runV (As := [.int (nI 6)]) (rest := []) ⟨hx, hb, hml, hown, hts⟩ (c_X6_sumOf l D cs ad v H.size k hk 6 (by decide) N hv.1.n hN8) (cwV 1 hts gX6_foresee_X6_sumOf rfl rfl rfl (by decide +kernel) ⟨Nat.le_of_ble_eq_true rfl, Nat.le_of_ble_eq_true rfl⟩) (g_preV hP hD hK hN (k := k) hk (by decide) rfl rfl rfl rfl) rfl rfl hl.1 rfl (lv_room (Nat.le_of_ble_eq_true rfl)) dX6_foresee_96 ⟨Nat.le_of_ble_eq_true rfl, Nat.le_of_ble_eq_true rfl⟩) (fun H locs hPK hP hD hS => ?_)
                refine lv_istore (lv' := [(4, .int (sm (fun i => v (k + 4) (31 * i + 6)) N)), (3, .ref qA), (0, .ref (ad k)), (1, .int a), (2, .int b)]) hx hb dX6_foresee_99 hl (by decide) rfl (fun ls hl => ?_)
                refine lv_aload_n hx hb dX6_foresee_101 rfl (lv_at hl 2 rfl) ?_
                refine lv_aload_n hx hb dX6_foresee_102 rfl (lv_at hl 1 rfl) ?_
                have hDB : va_D (gA kM ad sz) (gw kM cs ad v ++ kpW cs k u1 qA qs) := hD.app hDK (fun i j p q hp hq e => hap j q hq i (gw_inv hp).1 (by rw [← e, (gw_inv hp).2]))
                have hfb := A_free hDB hS hA
                refine va_callv (va_runV (As := [.ref qA]) (rest := []) ⟨hx, hb, hml, hown, hts⟩ (c_X6_bringBack l D cs ad v u1 H.size k hk qA qs) (cwV 1 hts gX6_foresee_X6_bringBack rfl rfl rfl (by decide +kernel) ⟨Nat.le_of_ble_eq_true rfl, Nat.le_of_ble_eq_true rfl⟩) (l_preV (X := fun _ => True) (fun _ _ _ h => h) (hP.app hPK) hDB hK hN trivial (q0 := k) (ci := 6) rfl (app_lt (gw_at hk (by decide) rfl)) rfl) rfl rfl hl.1 rfl (lv_room (Nat.le_of_ble_eq_true rfl)) dX6_foresee_103 ⟨Nat.le_of_ble_eq_true rfl, Nat.le_of_ble_eq_true rfl⟩) hS (fun q _ h => hfb q h) hfb (fun _ t9 H locs ht9 hvm9 _ hB9 _ _ hS => ?_)
                rw [ht9] at hB9
                have hP := hB9
                have hD := bb_Dk hk hDB
                refine lv_iload hx hb dX6_foresee_106 (lv_at hl 0 rfl) ?_
                refine W.widen (k := 6) (n := 1025) (Nat.le_of_ble_eq_true rfl) (Nat.le_of_ble_eq_true rfl) ?_
                exact g_iretE (v := sm (fun i => v (k + 4) (31 * i + 6)) N) hx hb hr hlocks rfl hP hD hS ⟨rfl, PoP.ok (bb_Rl hk hR1 hv.2) ((bb_k hk hv.2).trans hT1) (fs_0 c_2 c_3) (by rw [show i = a.toNatClampNeg from by omega] at hv; simp only [fsF]; rw [if_neg (show ¬ b = nI 0 from c_5), if_neg (show ¬ b = nI 1 from c_6), if_neg (show ¬ b = nI 2 from c_7)]; exact sum6 hv.1 (hIV.tkI _))⟩ dX6_foresee_108
              · skip
                refine lv_iconst (v := nI 3) hx hb dX6_foresee_90 (by decide) ?_
                refine lv_goto (tgt := 96) hx hb dX6_foresee_91 (by decide) ?_
                refine g_callFK (F := sm (fun i => v (k + 4) (31 * i + 3)) N) hPK hap hD hS hA (va_runV (As := [.int (nI 3)]) (rest := []) ⟨hx, hb, hml, hown, hts⟩ (c_X6_sumOf l D cs ad v H.size k hk 3 (by decide) N hv.1.n hN8) (cwV 1 hts gX6_foresee_X6_sumOf rfl rfl rfl (by decide +kernel) ⟨Nat.le_of_ble_eq_true rfl, Nat.le_of_ble_eq_true rfl⟩) (g_preV hP hD hK hN (k := k) hk (by decide) rfl rfl rfl rfl) rfl rfl hl.1 rfl (lv_room (Nat.le_of_ble_eq_true rfl)) dX6_foresee_96 ⟨Nat.le_of_ble_eq_true rfl, Nat.le_of_ble_eq_true rfl⟩) (fun H locs hPK hP hD hS => ?_)
                refine lv_istore (lv' := [(4, .int (sm (fun i => v (k + 4) (31 * i + 3)) N)), (3, .ref qA), (0, .ref (ad k)), (1, .int a), (2, .int b)]) hx hb dX6_foresee_99 hl (by decide) rfl (fun ls hl => ?_)
                refine lv_aload_n hx hb dX6_foresee_101 rfl (lv_at hl 2 rfl) ?_
                refine lv_aload_n hx hb dX6_foresee_102 rfl (lv_at hl 1 rfl) ?_
                have hDB : va_D (gA kM ad sz) (gw kM cs ad v ++ kpW cs k u1 qA qs) := hD.app hDK (fun i j p q hp hq e => hap j q hq i (gw_inv hp).1 (by rw [← e, (gw_inv hp).2]))
                have hfb := A_free hDB hS hA
                refine va_callv (va_runV (As := [.ref qA]) (rest := []) ⟨hx, hb, hml, hown, hts⟩ (c_X6_bringBack l D cs ad v u1 H.size k hk qA qs) (cwV 1 hts gX6_foresee_X6_bringBack rfl rfl rfl (by decide +kernel) ⟨Nat.le_of_ble_eq_true rfl, Nat.le_of_ble_eq_true rfl⟩) (l_preV (X := fun _ => True) (fun _ _ _ h => h) (hP.app hPK) hDB hK hN trivial (q0 := k) (ci := 6) rfl (app_lt (gw_at hk (by decide) rfl)) rfl) rfl rfl hl.1 rfl (lv_room (Nat.le_of_ble_eq_true rfl)) dX6_foresee_103 ⟨Nat.le_of_ble_eq_true rfl, Nat.le_of_ble_eq_true rfl⟩) hS (fun q _ h => hfb q h) hfb (fun _ t9 H locs ht9 hvm9 _ hB9 _ _ hS => ?_)
                rw [ht9] at hB9
                have hP := hB9
                have hD := bb_Dk hk hDB
                refine lv_iload hx hb dX6_foresee_106 (lv_at hl 0 rfl) ?_
                refine W.widen (k := 6) (n := 1025) (Nat.le_of_ble_eq_true rfl) (Nat.le_of_ble_eq_true rfl) ?_
                exact g_iretE (v := sm (fun i => v (k + 4) (31 * i + 3)) N) hx hb hr hlocks rfl hP hD hS ⟨rfl, PoP.ok (bb_Rl hk hR1 hv.2) ((bb_k hk hv.2).trans hT1) (fs_0 c_2 c_3) (by rw [show i = a.toNatClampNeg from by omega] at hv; simp only [fsF]; rw [if_neg (show ¬ b = nI 0 from c_5), if_neg (show ¬ b = nI 1 from c_6), if_pos (show b = nI 2 from c_7)]; exact sum3 hv.1 (hIV.tkI _))⟩ dX6_foresee_108
            · skip
              refine lv_aload_n hx hb dX6_foresee_77 rfl (lv_at hl 2 rfl) ?_
              refine g_callFK (F := nI (opN (tkI J z N i) z)) hPK hap hD hS hA (va_runV (As := []) (rest := []) ⟨hx, hb, hml, hown, hts⟩ (c_X6_manyOpen l D cs ad v H.size k hk z (tkI J z N i) N hv.1 (hIV.tkI i)) (cwV 0 hts gX6_foresee_X6_manyOpen rfl rfl rfl (by decide +kernel) ⟨Nat.le_of_ble_eq_true rfl, Nat.le_of_ble_eq_true rfl⟩) (g_preV hP hD hK hN (k := k) hk (by decide) rfl rfl rfl rfl) rfl rfl hl.1 rfl (lv_room (Nat.le_of_ble_eq_true rfl)) dX6_foresee_78 ⟨Nat.le_of_ble_eq_true rfl, Nat.le_of_ble_eq_true rfl⟩) (fun H locs hPK hP hD hS => ?_)
              refine lv_goto (tgt := 99) hx hb dX6_foresee_81 (by decide) ?_
              refine lv_istore (lv' := [(4, .int (nI (opN (tkI J z N i) z))), (3, .ref qA), (0, .ref (ad k)), (1, .int a), (2, .int b)]) hx hb dX6_foresee_99 hl (by decide) rfl (fun ls hl => ?_)
              refine lv_aload_n hx hb dX6_foresee_101 rfl (lv_at hl 2 rfl) ?_
              refine lv_aload_n hx hb dX6_foresee_102 rfl (lv_at hl 1 rfl) ?_
              have hDB : va_D (gA kM ad sz) (gw kM cs ad v ++ kpW cs k u1 qA qs) := hD.app hDK (fun i j p q hp hq e => hap j q hq i (gw_inv hp).1 (by rw [← e, (gw_inv hp).2]))
              have hfb := A_free hDB hS hA
              refine va_callv (va_runV (As := [.ref qA]) (rest := []) ⟨hx, hb, hml, hown, hts⟩ (c_X6_bringBack l D cs ad v u1 H.size k hk qA qs) (cwV 1 hts gX6_foresee_X6_bringBack rfl rfl rfl (by decide +kernel) ⟨Nat.le_of_ble_eq_true rfl, Nat.le_of_ble_eq_true rfl⟩) (l_preV (X := fun _ => True) (fun _ _ _ h => h) (hP.app hPK) hDB hK hN trivial (q0 := k) (ci := 6) rfl (app_lt (gw_at hk (by decide) rfl)) rfl) rfl rfl hl.1 rfl (lv_room (Nat.le_of_ble_eq_true rfl)) dX6_foresee_103 ⟨Nat.le_of_ble_eq_true rfl, Nat.le_of_ble_eq_true rfl⟩) hS (fun q _ h => hfb q h) hfb (fun _ t9 H locs ht9 hvm9 _ hB9 _ _ hS => ?_)
              rw [ht9] at hB9
              have hP := hB9
              have hD := bb_Dk hk hDB
              refine lv_iload hx hb dX6_foresee_106 (lv_at hl 0 rfl) ?_
              refine W.widen (k := 6) (n := 1025) (Nat.le_of_ble_eq_true rfl) (Nat.le_of_ble_eq_true rfl) ?_
              exact g_iretE (v := nI (opN (tkI J z N i) z)) hx hb hr hlocks rfl hP hD hS ⟨rfl, PoP.ok (bb_Rl hk hR1 hv.2) ((bb_k hk hv.2).trans hT1) (fs_0 c_2 c_3) (by rw [show i = a.toNatClampNeg from by omega] at hv; simp only [fsF]; rw [if_neg (show ¬ b = nI 0 from c_5), if_pos (show b = nI 1 from c_6)]; rw [show i = a.toNatClampNeg from by omega]; rfl)⟩ dX6_foresee_108
          · skip
            refine lv_aload_n hx hb dX6_foresee_64 rfl (lv_at hl 2 rfl) ?_
            refine lv_iconst (v := nI 4) hx hb dX6_foresee_65 (by decide) ?_
            refine g_callFK (F := sm (fun i => v (k + 4) (31 * i + 4)) N) hPK hap hD hS hA (va_runV (As := [.int (nI 4)]) (rest := []) ⟨hx, hb, hml, hown, hts⟩ (c_X6_sumOf l D cs ad v H.size k hk 4 (by decide) N hv.1.n hN8) (cwV 1 hts gX6_foresee_X6_sumOf rfl rfl rfl (by decide +kernel) ⟨Nat.le_of_ble_eq_true rfl, Nat.le_of_ble_eq_true rfl⟩) (g_preV hP hD hK hN (k := k) hk (by decide) rfl rfl rfl rfl) rfl rfl hl.1 rfl (lv_room (Nat.le_of_ble_eq_true rfl)) dX6_foresee_66 ⟨Nat.le_of_ble_eq_true rfl, Nat.le_of_ble_eq_true rfl⟩) (fun H locs hPK hP hD hS => ?_)
            refine lv_goto (tgt := 99) hx hb dX6_foresee_69 (by decide) ?_
            refine lv_istore (lv' := [(4, .int (sm (fun i => v (k + 4) (31 * i + 4)) N)), (3, .ref qA), (0, .ref (ad k)), (1, .int a), (2, .int b)]) hx hb dX6_foresee_99 hl (by decide) rfl (fun ls hl => ?_)
            refine lv_aload_n hx hb dX6_foresee_101 rfl (lv_at hl 2 rfl) ?_
            refine lv_aload_n hx hb dX6_foresee_102 rfl (lv_at hl 1 rfl) ?_
            have hDB : va_D (gA kM ad sz) (gw kM cs ad v ++ kpW cs k u1 qA qs) := hD.app hDK (fun i j p q hp hq e => hap j q hq i (gw_inv hp).1 (by rw [← e, (gw_inv hp).2]))
            have hfb := A_free hDB hS hA
            refine va_callv (va_runV (As := [.ref qA]) (rest := []) ⟨hx, hb, hml, hown, hts⟩ (c_X6_bringBack l D cs ad v u1 H.size k hk qA qs) (cwV 1 hts gX6_foresee_X6_bringBack rfl rfl rfl (by decide +kernel) ⟨Nat.le_of_ble_eq_true rfl, Nat.le_of_ble_eq_true rfl⟩) (l_preV (X := fun _ => True) (fun _ _ _ h => h) (hP.app hPK) hDB hK hN trivial (q0 := k) (ci := 6) rfl (app_lt (gw_at hk (by decide) rfl)) rfl) rfl rfl hl.1 rfl (lv_room (Nat.le_of_ble_eq_true rfl)) dX6_foresee_103 ⟨Nat.le_of_ble_eq_true rfl, Nat.le_of_ble_eq_true rfl⟩) hS (fun q _ h => hfb q h) hfb (fun _ t9 H locs ht9 hvm9 _ hB9 _ _ hS => ?_)
            rw [ht9] at hB9
            have hP := hB9
            have hD := bb_Dk hk hDB
            refine lv_iload hx hb dX6_foresee_106 (lv_at hl 0 rfl) ?_
            refine W.widen (k := 6) (n := 1025) (Nat.le_of_ble_eq_true rfl) (Nat.le_of_ble_eq_true rfl) ?_
            exact g_iretE (v := sm (fun i => v (k + 4) (31 * i + 4)) N) hx hb hr hlocks rfl hP hD hS ⟨rfl, PoP.ok (bb_Rl hk hR1 hv.2) ((bb_k hk hv.2).trans hT1) (fs_0 c_2 c_3) (by rw [show i = a.toNatClampNeg from by omega] at hv; simp only [fsF]; rw [if_pos (show b = nI 0 from c_5)]; exact sum4 hv.1 (hIV.tkI _))⟩ dX6_foresee_108
        · skip
          have nc_4 : ¬ a.toNatClampNeg ≤ i := fun z9_ => c_4 ((nI_leI (a := a.toNatClampNeg) (b := i) (by omega) (by omega)).mpr z9_)
          refine lv_aload_n hx hb dX6_foresee_50 rfl (lv_at hl 2 rfl) ?_
          refine g_callvK hPK hap hD hS hA (va_runV (As := []) (rest := []) ⟨hx, hb, hml, hown, hts⟩ (c_X6_tickOn l D cs ad v H.size k hk z (tkI J z N i) N hv.1 (hIV.tkI i)) (cwV 0 hts gX6_foresee_X6_tickOn rfl rfl rfl (by decide +kernel) ⟨Nat.le_of_ble_eq_true rfl, Nat.le_of_ble_eq_true rfl⟩) (g_preV hP hD hK hN (k := k) hk (by decide) rfl rfl rfl rfl) rfl rfl hl.1 rfl (lv_room (Nat.le_of_ble_eq_true rfl)) dX6_foresee_51 ⟨Nat.le_of_ble_eq_true rfl, Nat.le_of_ble_eq_true rfl⟩) (fun u8 H locs hu8 hPK hP hD hS => ?_)
          refine lv_iinc (v := nI (i + 1)) (lv' := [(4, .int (nI (i + 1))), (3, .ref qA), (0, .ref (ad k)), (1, .int a), (2, .int b)]) hx hb dX6_foresee_54 hl (k := 0) rfl (nI_1 i) (by decide) rfl (fun ls hl => ?_)
          refine lv_goto (tgt := 44) hx hb dX6_foresee_57 (by decide) ?_
          exact ih44 (i + 1) u8 _ _ _ (by omega) ⟨hu8.1, hu8.2.trans hv.2⟩ hPK (by omega) hP hD hS (lv_sub hl [0, 1, 2, 3, 4] rfl)
    · skip
      refine lv_aload_n hx hb dX6_foresee_30 rfl (lv_at hl 0 rfl) ?_
      refine lv_iconst (v := nI 2) hx hb dX6_foresee_31 (by decide) ?_
      refine g_callFM (F := f_X6_fail u1 k (nI 2)) (M := m_X6_fail u1 k (nI 2)) hD hS hA (va_runV (As := [.int (nI 2)]) (rest := []) ⟨hx, hb, hml, hown, hts⟩ (c_X6_fail l D cs ad u1 H.size k hk (nI 2)) (cwV 1 hts gX6_foresee_X6_fail rfl rfl rfl (by decide +kernel) ⟨Nat.le_of_ble_eq_true rfl, Nat.le_of_ble_eq_true rfl⟩) (g_preV hP hD hK hN (k := k) hk (by decide) rfl rfl rfl rfl) rfl rfl hl.1 rfl (lv_room (Nat.le_of_ble_eq_true rfl)) dX6_foresee_32 ⟨Nat.le_of_ble_eq_true rfl, Nat.le_of_ble_eq_true rfl⟩) (fun u9 H locs hu9 hP hD hS => ?_)
      refine W.widen (k := 6) (n := 1025) (Nat.le_of_ble_eq_true rfl) (Nat.le_of_ble_eq_true rfl) ?_
      exact g_iretE (v := f_X6_fail u1 k (nI 2)) hx hb hr hlocks rfl hP hD hS ⟨rfl, PoP.fail hR1 hu9 (fs_w c_2 c_3) (by decide)⟩ dX6_foresee_35
  · skip
    refine lv_aload_n hx hb dX6_foresee_15 rfl (lv_at hl 0 rfl) ?_
    refine lv_iconst (v := nI 1) hx hb dX6_foresee_16 (by decide) ?_
    refine g_callFM (F := f_X6_fail u1 k (nI 1)) (M := m_X6_fail u1 k (nI 1)) hD hS hA (va_runV (As := [.int (nI 1)]) (rest := []) ⟨hx, hb, hml, hown, hts⟩ (c_X6_fail l D cs ad u1 H.size k hk (nI 1)) (cwV 1 hts gX6_foresee_X6_fail rfl rfl rfl (by decide +kernel) ⟨Nat.le_of_ble_eq_true rfl, Nat.le_of_ble_eq_true rfl⟩) (g_preV hP hD hK hN (k := k) hk (by decide) rfl rfl rfl rfl) rfl rfl hl.1 rfl (lv_room (Nat.le_of_ble_eq_true rfl)) dX6_foresee_17 ⟨Nat.le_of_ble_eq_true rfl, Nat.le_of_ble_eq_true rfl⟩) (fun u10 H locs hu10 hP hD hS => ?_)
    refine W.widen (k := 6) (n := 1025) (Nat.le_of_ble_eq_true rfl) (Nat.le_of_ble_eq_true rfl) ?_
    exact g_iretE (v := f_X6_fail u1 k (nI 1)) hx hb hr hlocks rfl hP hD hS ⟨rfl, PoP.fail hR1 hu10 (fs_t c_2) (by decide)⟩ dX6_foresee_20
