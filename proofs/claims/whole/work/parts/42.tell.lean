section TELL
variable {z k N : Nat} {J I v : Mm}
theorem cn_step1 {f : Int32} {p : Nat → Bool} {i : Nat} (hf : f = nI (cn p i)) (hp : p i = true) : f + nI 1 = nI (cn p (i + 1)) := by
  rw [hf, cn_t hp, nI_add]
theorem cn_step0 {f : Int32} {p : Nat → Bool} {i : Nat} (hf : f = nI (cn p i)) (hp : p i = false) : f + nI 0 = nI (cn p (i + 1)) := by
  rw [hf, cn_f hp, nI_add]; rfl
noncomputable def pplF (J : Mm) (z N c : Nat) (b : Int32) : Int32 := nI (cn (fun i => decide (J (z + 8 + (1 + i)) 0 = nI c ∧ (b = 0 ∨ ¬ J (z + 8 + (1 + i)) 4 = 0))) N)
theorem ppl0 (J : Mm) (z N c : Nat) : pplF J z N c (nI 0) = f_X0_crewAt J z (nI c) N := by
  simp only [pplF, f_X0_crewAt]
  exact congrArg nI (cn_cg (fun i _ => decide_eq_decide.mpr ⟨fun y => y.1, fun y => ⟨y, Or.inl rfl⟩⟩))
theorem ppl1 (J : Mm) (z N c : Nat) : pplF J z N c (nI 1) = f_X0_buriedAt J z (nI c) N := by
  simp only [pplF, f_X0_buriedAt]
  exact congrArg nI (cn_cg (fun i _ => decide_eq_decide.mpr ⟨fun y => ⟨y.1, y.2.resolve_left (by decide)⟩, fun y => ⟨y.1, Or.inr y.2⟩⟩))
noncomputable def mlF (J : Mm) (z N : Nat) (b : Int32) : Int32 := nI (cn (fun c => cd (litC J z N c ∧ (opn J z c ∨ b = 0))) 256)
theorem ml0 (J : Mm) (z N : Nat) : mlF J z N (nI 0) = nI (cn (fun c => cd (litC J z N c)) 256) := by
  simp only [mlF]
  exact congrArg nI (cn_cg (fun c _ => cd_cg ⟨fun y => y.1, fun y => ⟨y, Or.inr rfl⟩⟩))
theorem ml1 (h : IV J z N) : mlF J z N (nI 1) = nI (liN J z N) := by
  simp only [mlF, liN]
  refine congrArg nI (cn_cg (fun c hc => cd_cg ⟨fun y => ?_, fun y => ?_⟩))
  · have ho := y.2.resolve_right (by decide)
    exact (litC_open h ho).mp y.1
  · have ho := h.litO hc y
    exact ⟨(litC_open h ho).mpr y, Or.inl ho⟩
theorem sm_cg {f g : Nat → Int32} : ∀ n, (∀ i, i < n → f i = g i) → sm f n = sm g n
  | 0, _ => rfl
  | n + 1, h => by
    simp only [sm]
    rw [sm_cg n (fun i hi => h i (by omega)), h n (by omega)]
theorem sm_cn {f : Nat → Int32} {p : Nat → Bool} : ∀ n, (∀ i, i < n → f i = bi (p i)) → sm f n = nI (cn p n)
  | 0, _ => rfl
  | n + 1, h => by
    simp only [sm]
    rw [sm_cn n (fun i hi => h i (by omega)), h n (by omega)]
    cases e : p n with
    | true => rw [cn_t e]; exact nI_add _ _
    | false => rw [cn_f e]; exact nI_add _ _
theorem sum4 (h : Rl z J k I N) (hI : IV J z N) : sm (fun i => I (k + 4) (31 * i + 4)) N = f_X0_buriedCrew J z N := by
  simp only [f_X0_buriedCrew]
  refine sm_cn N (fun i hi => ?_)
  have hN := hI.1.2.1
  rw [h.t (by omega) (by decide)]
  rcases hI.1.2.2.2.1 i (by omega) with e | e
  · rw [e]; rfl
  · rw [e]; rfl
theorem sum3 (h : Rl z J k I N) (hI : IV J z N) : sm (fun i => I (k + 4) (31 * i + 3)) N = f_X0_oilOfCrew J z N := by
  have hN := hI.1.2.1
  exact sm_cg N (fun i hi => h.t (by omega) (by decide))
theorem sum6 (h : Rl z J k I N) (hI : IV J z N) : sm (fun i => I (k + 4) (31 * i + 6)) N = f_X0_ordersOfCrew J z N := by
  have hN := hI.1.2.1
  exact sm_cg N (fun i hi => h.t6 (by omega))
theorem cn_diff {p q r : Nat → Bool} : ∀ n, (∀ i, i < n → p i = (q i && !r i) ∧ (r i = true → q i = true)) → cn p n + cn r n = cn q n
  | 0, _ => rfl
  | n + 1, h => by
    have ih := cn_diff n (fun i hi => h i (by omega))
    obtain ⟨h1, h2⟩ := h n (by omega)
    cases eq : q n with
    | true =>
      cases er : r n with
      | true => rw [cn_f (p := p) (by rw [h1, eq, er]; rfl), cn_t eq, cn_t er]; omega
      | false => rw [cn_t (p := p) (by rw [h1, eq, er]; rfl), cn_t eq, cn_f er]; omega
    | false =>
      cases er : r n with
      | true => rw [h2 er] at eq; exact absurd eq (by decide)
      | false => rw [cn_f (p := p) (by rw [h1, eq, er]; rfl), cn_f eq, cn_f er]; omega
noncomputable def lsN (J : Mm) (z : Nat) : Nat → Bool := fun c => cd (opn J z c ∧ ¬ heldP J z c)
theorem loose7 (h : IV J z N) : nI (cn (lsN J z) 256) = f_X3_openCells J (z + 1) - nI (cn (fun c => cd (heldP J z c)) 256) := by
  have e := cn_diff (p := lsN J z) (q := fun c => decide (J (z + 1 + 1) c = 0)) (r := fun c => cd (heldP J z c)) 256 (fun c hc => by
    refine ⟨?_, fun y => decide_eq_true (h.heldO hc (cd_i.mp y))⟩
    by_cases ho : J (z + 1 + 1) c = 0
    · by_cases hh : heldP J z c
      · rw [lsN, cd_f (fun y => y.2 hh), cd_t hh, decide_eq_true ho]; rfl
      · rw [lsN, cd_t ⟨ho, hh⟩, cd_f hh, decide_eq_true ho]; rfl
    · rw [lsN, cd_f (fun y => ho y.1), decide_eq_false ho]; rfl)
  simp only [f_X3_openCells]
  rw [← e, pk_sub (by omega), Nat.add_sub_cancel]
end TELL

set_option maxHeartbeats 4000000 in
set_option maxRecDepth 100000 in
theorem c_X6_peopleAt (l : Launch) (D : va_G) (cs : Nat → ClassId) (ad : Nat → Nat) (I : Mm) (sz : Nat) (k : Nat) (hk : kM.getD k 0 = 10) (c0 : Nat) (hc0 : c0 < 256) (b : Int32) (hb : b = 0 ∨ b = 1) (z : Nat) (J : Mm) (N : Nat) (hRl : Rl z J k I N) (hIV : IV J z N) : MetI l yX6_peopleAt wsX6_peopleAt ({ frames := 2, cells := 0, slots := 0, locals := 43 }) kM cs D ad I sz [.ref (ad k), .int (nI c0), .int b] (fun r u => r = pplF J z N c0 b ∧ u = I) 0 0 := by
  refine g_met (cc := cX6_peopleAt) (maxL := 5) (ret := (some .int)) (by decide) rfl (Nat.le_of_ble_eq_true rfl) ?_
  intro pg e s m args below meth c ls hx hb hr hml hts hown hlocks hsz hP hD hK hN hS hA hl
  have hown : s.vm.findClass RX6 = some m.cls := hown
  have hl : lv_has ls 5 [(0, .ref (ad k)), (1, .int (nI c0)), (2, .int b)] := hl
  have hN8 := hIV.1.2.1
  refine lv_iconst (v := nI 0) hx hb dX6_peopleAt_0 (by decide) ?_
  refine lv_istore_n (lv' := [(3, .int (nI 0)), (0, .ref (ad k)), (1, .int (nI c0)), (2, .int b)]) hx hb dX6_peopleAt_1 rfl hl (by decide) rfl (fun ls hl => ?_)
  refine lv_iconst (v := nI 0) hx hb dX6_peopleAt_2 (by decide) ?_
  refine lv_istore (lv' := [(4, .int (nI 0)), (3, .int (nI 0)), (0, .ref (ad k)), (1, .int (nI c0)), (2, .int b)]) hx hb dX6_peopleAt_3 hl (by decide) rfl (fun ls hl => ?_)
  suffices KL5 : ∀ (fuel : Nat) (i : Nat) (f : Int32) (H : Heap) (locs : List Loc) (ls : Array Slot), (i ≤ N) → (f = nI (cn (fun i => decide (J (z + 8 + (1 + i)) 0 = nI c0 ∧ (b = 0 ∨ ¬ J (z + 8 + (1 + i)) 4 = 0))) i)) → N - i < fuel → va_P D vwCl (gw kM cs ad I) H → va_D (gA kM ad sz) (gw kM cs ad I) → va_S (gA kM ad sz) s.heap H locs → lv_has ls 5 [(4, .int (nI i)), (3, .int f), (0, .ref (ad k)), (1, .int (nI c0)), (2, .int b)] → W pg l e ({ frames := 2, cells := 0, slots := 0, locals := 43 }) s m args below meth c H locs 0 0 (MQ below (va_Qi (fun r u => r = pplF J z N c0 b ∧ u = I) (wat kM cs D ad (gA kM ad sz)) (gA kM ad sz)) args s 0 0 (gA kM ad sz)) (F0 m 5 ls []) from KL5 _ 0 (nI 0) _ _ _ (Nat.zero_le _) rfl (Nat.lt_succ_self _) hP hD hS (lv_sub hl [0, 1, 2, 3, 4] rfl)
  intro fuel5
  induction fuel5 with
  | zero => intro _ _ _ _ _ _ _ hm; exact absurd hm (Nat.not_lt_zero _)
  | succ fuel5 ih5 =>
    intro i f H locs ls hi hf hm5 hP hD hS hl
    refine lv_iload hx hb dX6_peopleAt_5 (lv_at hl 0 rfl) ?_
    refine lv_aload_n hx hb dX6_peopleAt_7 rfl (lv_at hl 2 rfl) ?_
    refine g_get (κ := 10) (ci := 6) (v := .int (I k 6)) (C := RX6) (T := TX6) (N := 8) hx hb hts hown hK hP (k := k) hk (by decide) rfl (fun _ h => List.mem_cons_of_mem _ (List.mem_append_right _ h)) rfl 6 (by decide) (hts _ (List.mem_of_getElem? (i := 1) rfl)) (fun _ h9 => h9) rfl dX6_peopleAt_8 ?_
    rw [show I k 6 = nI N from hRl.n]
    refine lv_icmp_ge (tgt := 52) hx hb dX6_peopleAt_11 (by decide) (fun c_1 => ?_) (fun c_1 => ?_)
    · skip
      have nc_1 : N ≤ i := (nI_leI (a := N) (b := i) (by omega) (by omega)).mp c_1
      refine lv_iload_n hx hb dX6_peopleAt_52 rfl (lv_at hl 1 rfl) ?_
      exact g_iret (v := f) hx hb hr hlocks rfl hP hD hS ⟨by rw [hf, show i = N from by omega]; rfl, rfl⟩ dX6_peopleAt_53
    · skip
      have nc_1 : ¬ N ≤ i := fun z9_ => c_1 ((nI_leI (a := N) (b := i) (by omega) (by omega)).mpr z9_)
      refine lv_iload_n hx hb dX6_peopleAt_14 rfl (lv_at hl 1 rfl) ?_
      refine lv_aload_n hx hb dX6_peopleAt_15 rfl (lv_at hl 2 rfl) ?_
      refine lv_iload hx hb dX6_peopleAt_16 (lv_at hl 0 rfl) ?_
      refine lv_iconst (v := nI 0) hx hb dX6_peopleAt_18 (by decide) ?_
      refine g_callF (F := I (k + 4) (31 * i + 0)) hD hS hA (va_runV (As := [.int (nI i), .int (nI 0)]) (rest := [.int f]) ⟨hx, hb, hml, hown, hts⟩ (c_X6_get l D cs ad I H.size k hk i (by omega) 0 (by omega)) (cwV 2 hts gX6_peopleAt_X6_get rfl rfl rfl (by decide +kernel) ⟨Nat.le_of_ble_eq_true rfl, Nat.le_of_ble_eq_true rfl⟩) (g_preV hP hD hK hN (k := k) hk (by decide) rfl rfl rfl rfl) rfl rfl hl.1 rfl (lv_room (Nat.le_of_ble_eq_true rfl)) dX6_peopleAt_19 ⟨Nat.le_of_ble_eq_true rfl, Nat.le_of_ble_eq_true rfl⟩) (fun H locs hP hD hS => ?_)
      rw [show I (k + 4) (31 * i + 0) = J (z + 8 + (1 + i)) 0 from (hRl.t (by omega) (by decide))]
      refine lv_iload_n hx hb dX6_peopleAt_22 rfl (lv_at hl 3 rfl) ?_
      refine lv_icmp_ne (tgt := 43) hx hb dX6_peopleAt_23 (by decide) (fun c_2 => ?_) (fun c_2 => ?_)
      · skip
        refine lv_iconst (v := nI 0) hx hb dX6_peopleAt_43 (by decide) ?_
        refine lv_iadd hx hb dX6_peopleAt_44 ?_
        refine lv_istore_n (lv' := [(3, .int (f + (nI 0))), (4, .int (nI i)), (0, .ref (ad k)), (1, .int (nI c0)), (2, .int b)]) hx hb dX6_peopleAt_45 rfl hl (by decide) rfl (fun ls hl => ?_)
        refine lv_iinc (v := nI (i + 1)) (lv' := [(4, .int (nI (i + 1))), (3, .int (f + (nI 0))), (0, .ref (ad k)), (1, .int (nI c0)), (2, .int b)]) hx hb dX6_peopleAt_46 hl (k := 1) rfl (nI_1 i) (by decide) rfl (fun ls hl => ?_)
        refine lv_goto (tgt := 5) hx hb dX6_peopleAt_49 (by decide) ?_
        exact ih5 (i + 1) (f + (nI 0)) _ _ _ (by omega) (cn_step0 hf (decide_eq_false (fun y => c_2 y.1))) (by omega) hP hD hS (lv_sub hl [0, 1, 2, 3, 4] rfl)
      · skip
        refine lv_iload_n hx hb dX6_peopleAt_26 rfl (lv_at hl 4 rfl) ?_
        refine lv_if_eq (tgt := 39) hx hb dX6_peopleAt_27 (by decide) (fun c_3 => ?_) (fun c_3 => ?_)
        · skip
          refine lv_iconst (v := nI 1) hx hb dX6_peopleAt_39 (by decide) ?_
          refine lv_goto (tgt := 44) hx hb dX6_peopleAt_40 (by decide) ?_
          refine lv_iadd hx hb dX6_peopleAt_44 ?_
          refine lv_istore_n (lv' := [(3, .int (f + (nI 1))), (4, .int (nI i)), (0, .ref (ad k)), (1, .int (nI c0)), (2, .int b)]) hx hb dX6_peopleAt_45 rfl hl (by decide) rfl (fun ls hl => ?_)
          refine lv_iinc (v := nI (i + 1)) (lv' := [(4, .int (nI (i + 1))), (3, .int (f + (nI 1))), (0, .ref (ad k)), (1, .int (nI c0)), (2, .int b)]) hx hb dX6_peopleAt_46 hl (k := 1) rfl (nI_1 i) (by decide) rfl (fun ls hl => ?_)
          refine lv_goto (tgt := 5) hx hb dX6_peopleAt_49 (by decide) ?_
          exact ih5 (i + 1) (f + (nI 1)) _ _ _ (by omega) (cn_step1 hf (decide_eq_true ⟨c_2, Or.inl c_3⟩)) (by omega) hP hD hS (lv_sub hl [0, 1, 2, 3, 4] rfl)
        · skip
          refine lv_aload_n hx hb dX6_peopleAt_30 rfl (lv_at hl 2 rfl) ?_
          refine lv_iload hx hb dX6_peopleAt_31 (lv_at hl 0 rfl) ?_
          refine g_callF (F := f_X6_isFree I k i) hD hS hA (va_runV (As := [.int (nI i)]) (rest := [.int f]) ⟨hx, hb, hml, hown, hts⟩ (c_X6_isFree l D cs ad I H.size k hk i (by omega)) (cwV 1 hts gX6_peopleAt_X6_isFree rfl rfl rfl (by decide +kernel) ⟨Nat.le_of_ble_eq_true rfl, Nat.le_of_ble_eq_true rfl⟩) (g_preV hP hD hK hN (k := k) hk (by decide) rfl rfl rfl rfl) rfl rfl hl.1 rfl (lv_room (Nat.le_of_ble_eq_true rfl)) dX6_peopleAt_33 ⟨Nat.le_of_ble_eq_true rfl, Nat.le_of_ble_eq_true rfl⟩) (fun H locs hP hD hS => ?_)
          refine lv_if_ne (tgt := 43) hx hb dX6_peopleAt_36 (by decide) (fun c_4 => ?_) (fun c_4 => ?_)
          · skip
            refine lv_iconst (v := nI 0) hx hb dX6_peopleAt_43 (by decide) ?_
            refine lv_iadd hx hb dX6_peopleAt_44 ?_
            refine lv_istore_n (lv' := [(3, .int (f + (nI 0))), (4, .int (nI i)), (0, .ref (ad k)), (1, .int (nI c0)), (2, .int b)]) hx hb dX6_peopleAt_45 rfl hl (by decide) rfl (fun ls hl => ?_)
            refine lv_iinc (v := nI (i + 1)) (lv' := [(4, .int (nI (i + 1))), (3, .int (f + (nI 0))), (0, .ref (ad k)), (1, .int (nI c0)), (2, .int b)]) hx hb dX6_peopleAt_46 hl (k := 1) rfl (nI_1 i) (by decide) rfl (fun ls hl => ?_)
            refine lv_goto (tgt := 5) hx hb dX6_peopleAt_49 (by decide) ?_
            exact ih5 (i + 1) (f + (nI 0)) _ _ _ (by omega) (cn_step0 hf (decide_eq_false (fun y => y.2.elim c_3 (fun y => y (hRl.free1 (by omega) c_4))))) (by omega) hP hD hS (lv_sub hl [0, 1, 2, 3, 4] rfl)
          · skip
            refine lv_iconst (v := nI 1) hx hb dX6_peopleAt_39 (by decide) ?_
            refine lv_goto (tgt := 44) hx hb dX6_peopleAt_40 (by decide) ?_
            refine lv_iadd hx hb dX6_peopleAt_44 ?_
            refine lv_istore_n (lv' := [(3, .int (f + (nI 1))), (4, .int (nI i)), (0, .ref (ad k)), (1, .int (nI c0)), (2, .int b)]) hx hb dX6_peopleAt_45 rfl hl (by decide) rfl (fun ls hl => ?_)
            refine lv_iinc (v := nI (i + 1)) (lv' := [(4, .int (nI (i + 1))), (3, .int (f + (nI 1))), (0, .ref (ad k)), (1, .int (nI c0)), (2, .int b)]) hx hb dX6_peopleAt_46 hl (k := 1) rfl (nI_1 i) (by decide) rfl (fun ls hl => ?_)
            refine lv_goto (tgt := 5) hx hb dX6_peopleAt_49 (by decide) ?_
            exact ih5 (i + 1) (f + (nI 1)) _ _ _ (by omega) (cn_step1 hf (decide_eq_true ⟨c_2, Or.inr (hRl.free0 (by omega) c_4)⟩)) (by omega) hP hD hS (lv_sub hl [0, 1, 2, 3, 4] rfl)

set_option maxHeartbeats 4000000 in
set_option maxRecDepth 100000 in
theorem c_X6_manyOpen (l : Launch) (D : va_G) (cs : Nat → ClassId) (ad : Nat → Nat) (I : Mm) (sz : Nat) (k : Nat) (hk : kM.getD k 0 = 10) (z : Nat) (J : Mm) (N : Nat) (hRl : Rl z J k I N) (hIV : IV J z N) : MetI l yX6_manyOpen wsX6_manyOpen ({ frames := 1, cells := 0, slots := 0, locals := 21 }) kM cs D ad I sz [.ref (ad k)] (fun r u => r = nI (opN J z) ∧ u = I) 0 0 := by
  refine g_met (cc := cX6_manyOpen) (maxL := 3) (ret := (some .int)) (by decide) rfl (Nat.le_of_ble_eq_true rfl) ?_
  intro pg e s m args below meth c ls hx hb hr hml hts hown hlocks hsz hP hD hK hN hS hA hl
  have hown : s.vm.findClass RX6 = some m.cls := hown
  have hl : lv_has ls 3 [(0, .ref (ad k))] := hl
  have hN8 := hIV.1.2.1
  refine lv_iconst (v := nI 0) hx hb dX6_manyOpen_0 (by decide) ?_
  refine lv_istore_n (lv' := [(1, .int (nI 0)), (0, .ref (ad k))]) hx hb dX6_manyOpen_1 rfl hl (by decide) rfl (fun ls hl => ?_)
  refine lv_iconst (v := nI 0) hx hb dX6_manyOpen_2 (by decide) ?_
  refine lv_istore_n (lv' := [(2, .int (nI 0)), (1, .int (nI 0)), (0, .ref (ad k))]) hx hb dX6_manyOpen_3 rfl hl (by decide) rfl (fun ls hl => ?_)
  suffices KL4 : ∀ (fuel : Nat) (i : Nat) (f : Int32) (H : Heap) (locs : List Loc) (ls : Array Slot), (i ≤ 256) → (f = nI (cn (fun c => decide (J (z + 1 + 1) c = 0)) i)) → 256 - i < fuel → va_P D vwCl (gw kM cs ad I) H → va_D (gA kM ad sz) (gw kM cs ad I) → va_S (gA kM ad sz) s.heap H locs → lv_has ls 3 [(2, .int (nI i)), (1, .int f), (0, .ref (ad k))] → W pg l e ({ frames := 1, cells := 0, slots := 0, locals := 21 }) s m args below meth c H locs 0 0 (MQ below (va_Qi (fun r u => r = nI (opN J z) ∧ u = I) (wat kM cs D ad (gA kM ad sz)) (gA kM ad sz)) args s 0 0 (gA kM ad sz)) (F0 m 4 ls []) from KL4 _ 0 (nI 0) _ _ _ (Nat.zero_le _) rfl (Nat.lt_succ_self _) hP hD hS (lv_sub hl [0, 1, 2] rfl)
  intro fuel4
  induction fuel4 with
  | zero => intro _ _ _ _ _ _ _ hm; exact absurd hm (Nat.not_lt_zero _)
  | succ fuel4 ih4 =>
    intro i f H locs ls hi hf hm4 hP hD hS hl
    refine lv_iload_n hx hb dX6_manyOpen_4 rfl (lv_at hl 0 rfl) ?_
    refine lv_sipush (v := nI 256) hx hb dX6_manyOpen_5 (by decide) ?_
    refine lv_icmp_ge (tgt := 33) hx hb dX6_manyOpen_8 (by decide) (fun c_1 => ?_) (fun c_1 => ?_)
    · skip
      have nc_1 : 256 ≤ i := (nI_leI (a := 256) (b := i) (by omega) (by omega)).mp c_1
      refine lv_iload_n hx hb dX6_manyOpen_33 rfl (lv_at hl 1 rfl) ?_
      exact g_iret (v := f) hx hb hr hlocks rfl hP hD hS ⟨by rw [hf, show i = 256 from by omega]; rfl, rfl⟩ dX6_manyOpen_34
    · skip
      have nc_1 : ¬ 256 ≤ i := fun z9_ => c_1 ((nI_leI (a := 256) (b := i) (by omega) (by omega)).mpr z9_)
      refine lv_iload_n hx hb dX6_manyOpen_11 rfl (lv_at hl 1 rfl) ?_
      refine lv_aload_n hx hb dX6_manyOpen_12 rfl (lv_at hl 2 rfl) ?_
      refine lv_iload_n hx hb dX6_manyOpen_13 rfl (lv_at hl 0 rfl) ?_
      refine g_callF (F := f_X6_isOpen I k i) hD hS hA (va_runV (As := [.int (nI i)]) (rest := [.int f]) ⟨hx, hb, hml, hown, hts⟩ (c_X6_isOpen l D cs ad I H.size k hk i (by omega)) (cwV 1 hts gX6_manyOpen_X6_isOpen rfl rfl rfl (by decide +kernel) ⟨Nat.le_of_ble_eq_true rfl, Nat.le_of_ble_eq_true rfl⟩) (g_preV hP hD hK hN (k := k) hk (by decide) rfl rfl rfl rfl) rfl rfl hl.1 rfl (lv_room (Nat.le_of_ble_eq_true rfl)) dX6_manyOpen_14 ⟨Nat.le_of_ble_eq_true rfl, Nat.le_of_ble_eq_true rfl⟩) (fun H locs hP hD hS => ?_)
      refine lv_if_eq (tgt := 24) hx hb dX6_manyOpen_17 (by decide) (fun c_2 => ?_) (fun c_2 => ?_)
      · skip
        refine lv_iconst (v := nI 0) hx hb dX6_manyOpen_24 (by decide) ?_
        refine lv_iadd hx hb dX6_manyOpen_25 ?_
        refine lv_istore_n (lv' := [(1, .int (f + (nI 0))), (2, .int (nI i)), (0, .ref (ad k))]) hx hb dX6_manyOpen_26 rfl hl (by decide) rfl (fun ls hl => ?_)
        refine lv_iinc (v := nI (i + 1)) (lv' := [(2, .int (nI (i + 1))), (1, .int (f + (nI 0))), (0, .ref (ad k))]) hx hb dX6_manyOpen_27 hl (k := 1) rfl (nI_1 i) (by decide) rfl (fun ls hl => ?_)
        refine lv_goto (tgt := 4) hx hb dX6_manyOpen_30 (by decide) ?_
        exact ih4 (i + 1) (f + (nI 0)) _ _ _ (by omega) (cn_step0 hf (decide_eq_false (hRl.open0 (by omega) c_2))) (by omega) hP hD hS (lv_sub hl [0, 1, 2] rfl)
      · skip
        refine lv_iconst (v := nI 1) hx hb dX6_manyOpen_20 (by decide) ?_
        refine lv_goto (tgt := 25) hx hb dX6_manyOpen_21 (by decide) ?_
        refine lv_iadd hx hb dX6_manyOpen_25 ?_
        refine lv_istore_n (lv' := [(1, .int (f + (nI 1))), (2, .int (nI i)), (0, .ref (ad k))]) hx hb dX6_manyOpen_26 rfl hl (by decide) rfl (fun ls hl => ?_)
        refine lv_iinc (v := nI (i + 1)) (lv' := [(2, .int (nI (i + 1))), (1, .int (f + (nI 1))), (0, .ref (ad k))]) hx hb dX6_manyOpen_27 hl (k := 1) rfl (nI_1 i) (by decide) rfl (fun ls hl => ?_)
        refine lv_goto (tgt := 4) hx hb dX6_manyOpen_30 (by decide) ?_
        exact ih4 (i + 1) (f + (nI 1)) _ _ _ (by omega) (cn_step1 hf (decide_eq_true (p := J (z + 1 + 1) i = 0) (hRl.open1 (by omega) c_2))) (by omega) hP hD hS (lv_sub hl [0, 1, 2] rfl)

set_option maxHeartbeats 4000000 in
set_option maxRecDepth 100000 in
theorem c_X6_manyLit (l : Launch) (D : va_G) (cs : Nat → ClassId) (ad : Nat → Nat) (I : Mm) (sz : Nat) (k : Nat) (hk : kM.getD k 0 = 10) (b : Int32) (hb : b = 0 ∨ b = 1) (z : Nat) (J : Mm) (N : Nat) (hRl : Rl z J k I N) (hIV : IV J z N) : MetI l yX6_manyLit wsX6_manyLit ({ frames := 3, cells := 0, slots := 0, locals := 68 }) kM cs D ad I sz [.ref (ad k), .int b] (fun r u => EqW k u I ∧ r = mlF J z N b) 0 0 := by
  refine g_met (cc := cX6_manyLit) (maxL := 4) (ret := (some .int)) (by decide) rfl (Nat.le_of_ble_eq_true rfl) ?_
  intro pg e s m args below meth c ls hx hb hr hml hts hown hlocks hsz hP hD hK hN hS hA hl
  have hown : s.vm.findClass RX6 = some m.cls := hown
  have hl : lv_has ls 4 [(0, .ref (ad k)), (1, .int b)] := hl
  have hN8 := hIV.1.2.1
  refine lv_aload_n hx hb dX6_manyLit_0 rfl (lv_at hl 0 rfl) ?_
  refine g_callv hD hS hA (va_runV (As := []) (rest := []) ⟨hx, hb, hml, hown, hts⟩ (c_X6_shine l D cs ad I s.heap.size k hk z J N hRl hIV) (cwV 0 hts gX6_manyLit_X6_shine rfl rfl rfl (by decide +kernel) ⟨Nat.le_of_ble_eq_true rfl, Nat.le_of_ble_eq_true rfl⟩) (g_preV hP hD hK hN (k := k) hk (by decide) rfl rfl rfl rfl) rfl rfl hl.1 rfl (lv_room (Nat.le_of_ble_eq_true rfl)) dX6_manyLit_1 ⟨Nat.le_of_ble_eq_true rfl, Nat.le_of_ble_eq_true rfl⟩) (fun u1 H locs hu1 hP hD hS => ?_)
  have hsh := hu1
  refine lv_iconst (v := nI 0) hx hb dX6_manyLit_4 (by decide) ?_
  refine lv_istore_n (lv' := [(2, .int (nI 0)), (0, .ref (ad k)), (1, .int b)]) hx hb dX6_manyLit_5 rfl hl (by decide) rfl (fun ls hl => ?_)
  refine lv_iconst (v := nI 0) hx hb dX6_manyLit_6 (by decide) ?_
  refine lv_istore_n (lv' := [(3, .int (nI 0)), (2, .int (nI 0)), (0, .ref (ad k)), (1, .int b)]) hx hb dX6_manyLit_7 rfl hl (by decide) rfl (fun ls hl => ?_)
  suffices KL8 : ∀ (fuel : Nat) (i : Nat) (f : Int32) (H : Heap) (locs : List Loc) (ls : Array Slot), (i ≤ 256) → (f = nI (cn (fun c => cd (litC J z N c ∧ (opn J z c ∨ b = 0))) i)) → 256 - i < fuel → va_P D vwCl (gw kM cs ad u1) H → va_D (gA kM ad sz) (gw kM cs ad u1) → va_S (gA kM ad sz) s.heap H locs → lv_has ls 4 [(3, .int (nI i)), (2, .int f), (0, .ref (ad k)), (1, .int b)] → W pg l e ({ frames := 3, cells := 0, slots := 0, locals := 68 }) s m args below meth c H locs 0 0 (MQ below (va_Qi (fun r u => EqW k u I ∧ r = mlF J z N b) (wat kM cs D ad (gA kM ad sz)) (gA kM ad sz)) args s 0 0 (gA kM ad sz)) (F0 m 8 ls []) from KL8 _ 0 (nI 0) _ _ _ (Nat.zero_le _) rfl (Nat.lt_succ_self _) hP hD hS (lv_sub hl [0, 1, 2, 3] rfl)
  intro fuel8
  induction fuel8 with
  | zero => intro _ _ _ _ _ _ _ hm; exact absurd hm (Nat.not_lt_zero _)
  | succ fuel8 ih8 =>
    intro i f H locs ls hi hf hm8 hP hD hS hl
    refine lv_iload_n hx hb dX6_manyLit_8 rfl (lv_at hl 0 rfl) ?_
    refine lv_sipush (v := nI 256) hx hb dX6_manyLit_9 (by decide) ?_
    refine lv_icmp_ge (tgt := 49) hx hb dX6_manyLit_12 (by decide) (fun c_2 => ?_) (fun c_2 => ?_)
    · skip
      have nc_2 : 256 ≤ i := (nI_leI (a := 256) (b := i) (by omega) (by omega)).mp c_2
      refine lv_iload_n hx hb dX6_manyLit_49 rfl (lv_at hl 1 rfl) ?_
      exact g_iret (v := f) hx hb hr hlocks rfl hP hD hS ⟨hsh.1, by rw [hf, show i = 256 from by omega]; rfl⟩ dX6_manyLit_50
    · skip
      have nc_2 : ¬ 256 ≤ i := fun z9_ => c_2 ((nI_leI (a := 256) (b := i) (by omega) (by omega)).mpr z9_)
      refine lv_iload_n hx hb dX6_manyLit_15 rfl (lv_at hl 1 rfl) ?_
      refine lv_aload_n hx hb dX6_manyLit_16 rfl (lv_at hl 2 rfl) ?_
      refine lv_iload_n hx hb dX6_manyLit_17 rfl (lv_at hl 0 rfl) ?_
      refine g_callF (F := bi (cd (litC J z N i))) hD hS hA (va_runV (As := [.int (nI i)]) (rest := [.int f]) ⟨hx, hb, hml, hown, hts⟩ (c_X6_isLit l D cs ad u1 H.size k hk i (by omega) z J N (hRl.eqw hsh.1) hIV hsh.2) (cwV 1 hts gX6_manyLit_X6_isLit rfl rfl rfl (by decide +kernel) ⟨Nat.le_of_ble_eq_true rfl, Nat.le_of_ble_eq_true rfl⟩) (g_preV hP hD hK hN (k := k) hk (by decide) rfl rfl rfl rfl) rfl rfl hl.1 rfl (lv_room (Nat.le_of_ble_eq_true rfl)) dX6_manyLit_18 ⟨Nat.le_of_ble_eq_true rfl, Nat.le_of_ble_eq_true rfl⟩) (fun H locs hP hD hS => ?_)
      refine lv_if_eq (tgt := 40) hx hb dX6_manyLit_21 (by decide) (fun c_3 => ?_) (fun c_3 => ?_)
      · skip
        refine lv_iconst (v := nI 0) hx hb dX6_manyLit_40 (by decide) ?_
        refine lv_iadd hx hb dX6_manyLit_41 ?_
        refine lv_istore_n (lv' := [(2, .int (f + (nI 0))), (3, .int (nI i)), (0, .ref (ad k)), (1, .int b)]) hx hb dX6_manyLit_42 rfl hl (by decide) rfl (fun ls hl => ?_)
        refine lv_iinc (v := nI (i + 1)) (lv' := [(3, .int (nI (i + 1))), (2, .int (f + (nI 0))), (0, .ref (ad k)), (1, .int b)]) hx hb dX6_manyLit_43 hl (k := 1) rfl (nI_1 i) (by decide) rfl (fun ls hl => ?_)
        refine lv_goto (tgt := 8) hx hb dX6_manyLit_46 (by decide) ?_
        exact ih8 (i + 1) (f + (nI 0)) _ _ _ (by omega) (cn_step0 hf (cd_f (fun y => bi_cd0 c_3 y.1))) (by omega) hP hD hS (lv_sub hl [0, 1, 2, 3] rfl)
      · skip
        refine lv_aload_n hx hb dX6_manyLit_24 rfl (lv_at hl 2 rfl) ?_
        refine lv_iload_n hx hb dX6_manyLit_25 rfl (lv_at hl 0 rfl) ?_
        refine g_callF (F := f_X6_isOpen u1 k i) hD hS hA (va_runV (As := [.int (nI i)]) (rest := [.int f]) ⟨hx, hb, hml, hown, hts⟩ (c_X6_isOpen l D cs ad u1 H.size k hk i (by omega)) (cwV 1 hts gX6_manyLit_X6_isOpen rfl rfl rfl (by decide +kernel) ⟨Nat.le_of_ble_eq_true rfl, Nat.le_of_ble_eq_true rfl⟩) (g_preV hP hD hK hN (k := k) hk (by decide) rfl rfl rfl rfl) rfl rfl hl.1 rfl (lv_room (Nat.le_of_ble_eq_true rfl)) dX6_manyLit_26 ⟨Nat.le_of_ble_eq_true rfl, Nat.le_of_ble_eq_true rfl⟩) (fun H locs hP hD hS => ?_)
        refine lv_if_ne (tgt := 36) hx hb dX6_manyLit_29 (by decide) (fun c_4 => ?_) (fun c_4 => ?_)
        · skip
          refine lv_iconst (v := nI 1) hx hb dX6_manyLit_36 (by decide) ?_
          refine lv_goto (tgt := 41) hx hb dX6_manyLit_37 (by decide) ?_
          refine lv_iadd hx hb dX6_manyLit_41 ?_
          refine lv_istore_n (lv' := [(2, .int (f + (nI 1))), (3, .int (nI i)), (0, .ref (ad k)), (1, .int b)]) hx hb dX6_manyLit_42 rfl hl (by decide) rfl (fun ls hl => ?_)
          refine lv_iinc (v := nI (i + 1)) (lv' := [(3, .int (nI (i + 1))), (2, .int (f + (nI 1))), (0, .ref (ad k)), (1, .int b)]) hx hb dX6_manyLit_43 hl (k := 1) rfl (nI_1 i) (by decide) rfl (fun ls hl => ?_)
          refine lv_goto (tgt := 8) hx hb dX6_manyLit_46 (by decide) ?_
          exact ih8 (i + 1) (f + (nI 1)) _ _ _ (by omega) (cn_step1 hf (cd_t ⟨bi_cd1 c_3, Or.inl ((hRl.eqw hsh.1).open1 (by omega) c_4)⟩)) (by omega) hP hD hS (lv_sub hl [0, 1, 2, 3] rfl)
        · skip
          refine lv_iload_n hx hb dX6_manyLit_32 rfl (lv_at hl 3 rfl) ?_
          refine lv_if_ne (tgt := 40) hx hb dX6_manyLit_33 (by decide) (fun c_5 => ?_) (fun c_5 => ?_)
          · skip
            refine lv_iconst (v := nI 0) hx hb dX6_manyLit_40 (by decide) ?_
            refine lv_iadd hx hb dX6_manyLit_41 ?_
            refine lv_istore_n (lv' := [(2, .int (f + (nI 0))), (3, .int (nI i)), (0, .ref (ad k)), (1, .int b)]) hx hb dX6_manyLit_42 rfl hl (by decide) rfl (fun ls hl => ?_)
            refine lv_iinc (v := nI (i + 1)) (lv' := [(3, .int (nI (i + 1))), (2, .int (f + (nI 0))), (0, .ref (ad k)), (1, .int b)]) hx hb dX6_manyLit_43 hl (k := 1) rfl (nI_1 i) (by decide) rfl (fun ls hl => ?_)
            refine lv_goto (tgt := 8) hx hb dX6_manyLit_46 (by decide) ?_
            exact ih8 (i + 1) (f + (nI 0)) _ _ _ (by omega) (cn_step0 hf (cd_f (fun y => y.2.elim ((hRl.eqw hsh.1).open0 (by omega) c_4) c_5))) (by omega) hP hD hS (lv_sub hl [0, 1, 2, 3] rfl)
          · skip
            refine lv_iconst (v := nI 1) hx hb dX6_manyLit_36 (by decide) ?_
            refine lv_goto (tgt := 41) hx hb dX6_manyLit_37 (by decide) ?_
            refine lv_iadd hx hb dX6_manyLit_41 ?_
            refine lv_istore_n (lv' := [(2, .int (f + (nI 1))), (3, .int (nI i)), (0, .ref (ad k)), (1, .int b)]) hx hb dX6_manyLit_42 rfl hl (by decide) rfl (fun ls hl => ?_)
            refine lv_iinc (v := nI (i + 1)) (lv' := [(3, .int (nI (i + 1))), (2, .int (f + (nI 1))), (0, .ref (ad k)), (1, .int b)]) hx hb dX6_manyLit_43 hl (k := 1) rfl (nI_1 i) (by decide) rfl (fun ls hl => ?_)
            refine lv_goto (tgt := 8) hx hb dX6_manyLit_46 (by decide) ?_
            exact ih8 (i + 1) (f + (nI 1)) _ _ _ (by omega) (cn_step1 hf (cd_t ⟨bi_cd1 c_3, Or.inr c_5⟩)) (by omega) hP hD hS (lv_sub hl [0, 1, 2, 3] rfl)

set_option maxHeartbeats 4000000 in
set_option maxRecDepth 100000 in
theorem c_X6_sumOf (l : Launch) (D : va_G) (cs : Nat → ClassId) (ad : Nat → Nat) (I : Mm) (sz : Nat) (k : Nat) (hk : kM.getD k 0 = 10) (w : Nat) (hw : w < 31) (N : Nat) (hRn : I k 6 = nI N) (hN8 : N ≤ 8) : MetI l yX6_sumOf wsX6_sumOf ({ frames := 1, cells := 0, slots := 0, locals := 22 }) kM cs D ad I sz [.ref (ad k), .int (nI w)] (fun r u => r = sm (fun i => I (k + 4) (31 * i + w)) N ∧ u = I) 0 0 := by
  refine g_met (cc := cX6_sumOf) (maxL := 4) (ret := (some .int)) (by decide) rfl (Nat.le_of_ble_eq_true rfl) ?_
  intro pg e s m args below meth c ls hx hb hr hml hts hown hlocks hsz hP hD hK hN hS hA hl
  have hown : s.vm.findClass RX6 = some m.cls := hown
  have hl : lv_has ls 4 [(0, .ref (ad k)), (1, .int (nI w))] := hl
  refine lv_iconst (v := nI 0) hx hb dX6_sumOf_0 (by decide) ?_
  refine lv_istore_n (lv' := [(2, .int (nI 0)), (0, .ref (ad k)), (1, .int (nI w))]) hx hb dX6_sumOf_1 rfl hl (by decide) rfl (fun ls hl => ?_)
  refine lv_iconst (v := nI 0) hx hb dX6_sumOf_2 (by decide) ?_
  refine lv_istore_n (lv' := [(3, .int (nI 0)), (2, .int (nI 0)), (0, .ref (ad k)), (1, .int (nI w))]) hx hb dX6_sumOf_3 rfl hl (by decide) rfl (fun ls hl => ?_)
  suffices KL4 : ∀ (fuel : Nat) (i : Nat) (f : Int32) (H : Heap) (locs : List Loc) (ls : Array Slot), (i ≤ N) → (f = sm (fun i => I (k + 4) (31 * i + w)) i) → N - i < fuel → va_P D vwCl (gw kM cs ad I) H → va_D (gA kM ad sz) (gw kM cs ad I) → va_S (gA kM ad sz) s.heap H locs → lv_has ls 4 [(3, .int (nI i)), (2, .int f), (0, .ref (ad k)), (1, .int (nI w))] → W pg l e ({ frames := 1, cells := 0, slots := 0, locals := 22 }) s m args below meth c H locs 0 0 (MQ below (va_Qi (fun r u => r = sm (fun i => I (k + 4) (31 * i + w)) N ∧ u = I) (wat kM cs D ad (gA kM ad sz)) (gA kM ad sz)) args s 0 0 (gA kM ad sz)) (F0 m 4 ls []) from KL4 _ 0 (nI 0) _ _ _ (Nat.zero_le _) rfl (Nat.lt_succ_self _) hP hD hS (lv_sub hl [0, 1, 2, 3] rfl)
  intro fuel4
  induction fuel4 with
  | zero => intro _ _ _ _ _ _ _ hm; exact absurd hm (Nat.not_lt_zero _)
  | succ fuel4 ih4 =>
    intro i f H locs ls hi hf hm4 hP hD hS hl
    refine lv_iload_n hx hb dX6_sumOf_4 rfl (lv_at hl 0 rfl) ?_
    refine lv_aload_n hx hb dX6_sumOf_5 rfl (lv_at hl 2 rfl) ?_
    refine g_get (κ := 10) (ci := 6) (v := .int (I k 6)) (C := RX6) (T := TX6) (N := 8) hx hb hts hown hK hP (k := k) hk (by decide) rfl (fun _ h => List.mem_cons_of_mem _ (List.mem_append_right _ h)) rfl 6 (by decide) (hts _ (List.mem_of_getElem? (i := 1) rfl)) (fun _ h9 => h9) rfl dX6_sumOf_6 ?_
    rw [show I k 6 = nI N from hRn]
    refine lv_icmp_ge (tgt := 27) hx hb dX6_sumOf_9 (by decide) (fun c_1 => ?_) (fun c_1 => ?_)
    · skip
      have nc_1 : N ≤ i := (nI_leI (a := N) (b := i) (by omega) (by omega)).mp c_1
      refine lv_iload_n hx hb dX6_sumOf_27 rfl (lv_at hl 1 rfl) ?_
      exact g_iret (v := f) hx hb hr hlocks rfl hP hD hS ⟨by rw [hf, show i = N from by omega], rfl⟩ dX6_sumOf_28
    · skip
      have nc_1 : ¬ N ≤ i := fun z9_ => c_1 ((nI_leI (a := N) (b := i) (by omega) (by omega)).mpr z9_)
      refine lv_iload_n hx hb dX6_sumOf_12 rfl (lv_at hl 1 rfl) ?_
      refine lv_aload_n hx hb dX6_sumOf_13 rfl (lv_at hl 2 rfl) ?_
      refine lv_iload_n hx hb dX6_sumOf_14 rfl (lv_at hl 0 rfl) ?_
      refine lv_iload_n hx hb dX6_sumOf_15 rfl (lv_at hl 3 rfl) ?_
      refine g_callF (F := I (k + 4) (31 * i + w)) hD hS hA (va_runV (As := [.int (nI i), .int (nI w)]) (rest := [.int f]) ⟨hx, hb, hml, hown, hts⟩ (c_X6_get l D cs ad I H.size k hk i (by omega) w (by omega)) (cwV 2 hts gX6_sumOf_X6_get rfl rfl rfl (by decide +kernel) ⟨Nat.le_of_ble_eq_true rfl, Nat.le_of_ble_eq_true rfl⟩) (g_preV hP hD hK hN (k := k) hk (by decide) rfl rfl rfl rfl) rfl rfl hl.1 rfl (lv_room (Nat.le_of_ble_eq_true rfl)) dX6_sumOf_16 ⟨Nat.le_of_ble_eq_true rfl, Nat.le_of_ble_eq_true rfl⟩) (fun H locs hP hD hS => ?_)
      refine lv_iadd hx hb dX6_sumOf_19 ?_
      refine lv_istore_n (lv' := [(2, .int (f + (I (k + 4) (31 * i + w)))), (3, .int (nI i)), (0, .ref (ad k)), (1, .int (nI w))]) hx hb dX6_sumOf_20 rfl hl (by decide) rfl (fun ls hl => ?_)
      refine lv_iinc (v := nI (i + 1)) (lv' := [(3, .int (nI (i + 1))), (2, .int (f + (I (k + 4) (31 * i + w)))), (0, .ref (ad k)), (1, .int (nI w))]) hx hb dX6_sumOf_21 hl (k := 1) rfl (nI_1 i) (by decide) rfl (fun ls hl => ?_)
      refine lv_goto (tgt := 4) hx hb dX6_sumOf_24 (by decide) ?_
      exact ih4 (i + 1) (f + (I (k + 4) (31 * i + w))) _ _ _ (by omega) (by rw [hf]; rfl) (by omega) hP hD hS (lv_sub hl [0, 1, 2, 3] rfl)

set_option maxHeartbeats 4000000 in
set_option maxRecDepth 100000 in
theorem c_X6_counted (l : Launch) (D : va_G) (cs : Nat → ClassId) (ad : Nat → Nat) (I : Mm) (sz : Nat) (k : Nat) (hk : kM.getD k 0 = 10) (w : Nat) (hw : w < 9) (z : Nat) (J : Mm) (N : Nat) (hRl : Rl z J k I N) (hIV : IV J z N) : MetI l yX6_counted wsX6_counted ({ frames := 4, cells := 0, slots := 0, locals := 91 }) kM cs D ad I sz [.ref (ad k), .int (nI w)] (fun r u => EqW k u I ∧ r = countF J z N (nI w)) 0 0 := by
  refine g_met (cc := cX6_counted) (maxL := 4) (ret := (some .int)) (by decide) rfl (Nat.le_of_ble_eq_true rfl) ?_
  intro pg e s m args below meth c ls hx hb hr hml hts hown hlocks hsz hP hD hK hN hS hA hl
  have hown : s.vm.findClass RX6 = some m.cls := hown
  have hl : lv_has ls 4 [(0, .ref (ad k)), (1, .int (nI w))] := hl
  have hN8 := hIV.1.2.1
  refine lv_iconst (v := nI 0) hx hb dX6_counted_0 (by decide) ?_
  refine lv_istore_n (lv' := [(2, .int (nI 0)), (0, .ref (ad k)), (1, .int (nI w))]) hx hb dX6_counted_1 rfl hl (by decide) rfl (fun ls hl => ?_)
  refine lv_iload_n hx hb dX6_counted_2 rfl (lv_at hl 2 rfl) ?_
  by_cases c_1 : (nI w) = nI 0
  · skip
    refine lv_tableIn (tgt := 48) (off := 45) hx hb dX6_counted_3 (by rw [c_1]; decide) (by rw [c_1]; decide) (by rw [c_1]; decide) (by decide) ?_
    refine lv_aload_n hx hb dX6_counted_48 rfl (lv_at hl 1 rfl) ?_
    refine g_get (κ := 10) (ci := 6) (v := .ref (ad (k + 5))) (C := RX6) (T := TX6) (N := 8) hx hb hts hown hK hP (k := k) hk (by decide) rfl (fun _ h => List.mem_cons_of_mem _ (List.mem_append_right _ h)) rfl 5 (by decide) (hts _ (List.mem_of_getElem? (i := 1) rfl)) (fun _ h9 => h9) rfl dX6_counted_49 ?_
    refine lv_iconst (v := nI 0) hx hb dX6_counted_52 (by decide) ?_
    refine g_ialdn (n := 4) (i := 0) hx hb hK hP (k := (k + 5)) (kd_10_5 hk) (by decide) rfl (by omega) (by decide) dX6_counted_53 ?_
    rw [show I (k + 5) 0 = J z 4 from hRl.n0]
    exact g_iret (v := J z 4) hx hb hr hlocks rfl hP hD hS ⟨EqW.rf _ _, by simp only [countF]; rw [if_pos c_1]⟩ dX6_counted_54
  · skip
    by_cases c_2 : (nI w) = nI 1
    · skip
      refine lv_tableIn (tgt := 55) (off := 52) hx hb dX6_counted_3 (by rw [c_2]; decide) (by rw [c_2]; decide) (by rw [c_2]; decide) (by decide) ?_
      refine lv_aload_n hx hb dX6_counted_55 rfl (lv_at hl 1 rfl) ?_
      refine g_get (κ := 10) (ci := 6) (v := .int (I k 6)) (C := RX6) (T := TX6) (N := 8) hx hb hts hown hK hP (k := k) hk (by decide) rfl (fun _ h => List.mem_cons_of_mem _ (List.mem_append_right _ h)) rfl 6 (by decide) (hts _ (List.mem_of_getElem? (i := 2) rfl)) (fun _ h9 => h9) rfl dX6_counted_56 ?_
      rw [show I k 6 = nI N from hRl.n]
      exact g_iret (v := nI N) hx hb hr hlocks rfl hP hD hS ⟨EqW.rf _ _, by simp only [countF]; rw [if_neg c_1, if_pos c_2]; exact hIV.1.1.symm⟩ dX6_counted_59
    · skip
      by_cases c_3 : (nI w) = nI 2
      · skip
        refine lv_tableIn (tgt := 60) (off := 57) hx hb dX6_counted_3 (by rw [c_3]; decide) (by rw [c_3]; decide) (by rw [c_3]; decide) (by decide) ?_
        refine lv_aload_n hx hb dX6_counted_60 rfl (lv_at hl 1 rfl) ?_
        refine lv_iconst (v := nI 4) hx hb dX6_counted_61 (by decide) ?_
        refine g_callF (F := sm (fun i => I (k + 4) (31 * i + 4)) N) hD hS hA (va_runV (As := [.int (nI 4)]) (rest := []) ⟨hx, hb, hml, hown, hts⟩ (c_X6_sumOf l D cs ad I s.heap.size k hk 4 (by omega) N hRl.n hN8) (cwV 1 hts gX6_counted_X6_sumOf rfl rfl rfl (by decide +kernel) ⟨Nat.le_of_ble_eq_true rfl, Nat.le_of_ble_eq_true rfl⟩) (g_preV hP hD hK hN (k := k) hk (by decide) rfl rfl rfl rfl) rfl rfl hl.1 rfl (lv_room (Nat.le_of_ble_eq_true rfl)) dX6_counted_62 ⟨Nat.le_of_ble_eq_true rfl, Nat.le_of_ble_eq_true rfl⟩) (fun H locs hP hD hS => ?_)
        exact g_iret (v := sm (fun i => I (k + 4) (31 * i + 4)) N) hx hb hr hlocks rfl hP hD hS ⟨EqW.rf _ _, by simp only [countF]; rw [if_neg c_1, if_neg c_2, if_pos c_3]; exact sum4 hRl hIV⟩ dX6_counted_65
      · skip
        by_cases c_4 : (nI w) = nI 3
        · skip
          refine lv_tableIn (tgt := 66) (off := 63) hx hb dX6_counted_3 (by rw [c_4]; decide) (by rw [c_4]; decide) (by rw [c_4]; decide) (by decide) ?_
          refine lv_aload_n hx hb dX6_counted_66 rfl (lv_at hl 1 rfl) ?_
          refine g_callF (F := nI (opN J z)) hD hS hA (va_runV (As := []) (rest := []) ⟨hx, hb, hml, hown, hts⟩ (c_X6_manyOpen l D cs ad I s.heap.size k hk z J N hRl hIV) (cwV 0 hts gX6_counted_X6_manyOpen rfl rfl rfl (by decide +kernel) ⟨Nat.le_of_ble_eq_true rfl, Nat.le_of_ble_eq_true rfl⟩) (g_preV hP hD hK hN (k := k) hk (by decide) rfl rfl rfl rfl) rfl rfl hl.1 rfl (lv_room (Nat.le_of_ble_eq_true rfl)) dX6_counted_67 ⟨Nat.le_of_ble_eq_true rfl, Nat.le_of_ble_eq_true rfl⟩) (fun H locs hP hD hS => ?_)
          exact g_iret (v := nI (opN J z)) hx hb hr hlocks rfl hP hD hS ⟨EqW.rf _ _, by simp only [countF]; rw [if_neg c_1, if_neg c_2, if_neg c_3, if_pos c_4]; rfl⟩ dX6_counted_70
        · skip
          by_cases c_5 : (nI w) = nI 4
          · skip
            refine lv_tableIn (tgt := 71) (off := 68) hx hb dX6_counted_3 (by rw [c_5]; decide) (by rw [c_5]; decide) (by rw [c_5]; decide) (by decide) ?_
            refine lv_iconst (v := nI 0) hx hb dX6_counted_71 (by decide) ?_
            refine lv_istore_n (lv' := [(3, .int (nI 0)), (2, .int (nI 0)), (0, .ref (ad k)), (1, .int (nI w))]) hx hb dX6_counted_72 rfl hl (by decide) rfl (fun ls hl => ?_)
            suffices KL73 : ∀ (fuel : Nat) (i : Nat) (f : Int32) (H : Heap) (locs : List Loc) (ls : Array Slot), (i ≤ 256) → (f = sm (fun c => J (z + 1 + 3) c) i) → 256 - i < fuel → va_P D vwCl (gw kM cs ad I) H → va_D (gA kM ad sz) (gw kM cs ad I) → va_S (gA kM ad sz) s.heap H locs → lv_has ls 4 [(3, .int (nI i)), (2, .int f), (0, .ref (ad k)), (1, .int (nI w))] → W pg l e ({ frames := 4, cells := 0, slots := 0, locals := 91 }) s m args below meth c H locs 0 0 (MQ below (va_Qi (fun r u => EqW k u I ∧ r = countF J z N (nI w)) (wat kM cs D ad (gA kM ad sz)) (gA kM ad sz)) args s 0 0 (gA kM ad sz)) (F0 m 73 ls []) from KL73 _ 0 (nI 0) _ _ _ (Nat.zero_le _) rfl (Nat.lt_succ_self _) hP hD hS (lv_sub hl [0, 1, 2, 3] rfl)
            intro fuel73
            induction fuel73 with
            | zero => intro _ _ _ _ _ _ _ hm; exact absurd hm (Nat.not_lt_zero _)
            | succ fuel73 ih73 =>
              intro i f H locs ls hi hf hm73 hP hD hS hl
              refine lv_iload_n hx hb dX6_counted_73 rfl (lv_at hl 0 rfl) ?_
              refine lv_sipush (v := nI 256) hx hb dX6_counted_74 (by decide) ?_
              refine lv_icmp_ge (tgt := 95) hx hb dX6_counted_77 (by decide) (fun c_6 => ?_) (fun c_6 => ?_)
              · skip
                have nc_6 : 256 ≤ i := (nI_leI (a := 256) (b := i) (by omega) (by omega)).mp c_6
                refine lv_iload_n hx hb dX6_counted_95 rfl (lv_at hl 1 rfl) ?_
                exact g_iret (v := f) hx hb hr hlocks rfl hP hD hS ⟨EqW.rf _ _, by simp only [countF]; rw [if_neg c_1, if_neg c_2, if_neg c_3, if_neg c_4, if_pos c_5]; rw [hf, show i = 256 from by omega]; rfl⟩ dX6_counted_96
              · skip
                have nc_6 : ¬ 256 ≤ i := fun z9_ => c_6 ((nI_leI (a := 256) (b := i) (by omega) (by omega)).mpr z9_)
                refine lv_iload_n hx hb dX6_counted_80 rfl (lv_at hl 1 rfl) ?_
                refine lv_aload_n hx hb dX6_counted_81 rfl (lv_at hl 2 rfl) ?_
                refine g_get (κ := 10) (ci := 6) (v := .ref (ad (k + 3))) (C := RX6) (T := TX6) (N := 8) hx hb hts hown hK hP (k := k) hk (by decide) rfl (fun _ h => List.mem_cons_of_mem _ (List.mem_append_right _ h)) rfl 3 (by decide) (hts _ (List.mem_of_getElem? (i := 3) rfl)) (fun _ h9 => h9) rfl dX6_counted_82 ?_
                refine lv_iload_n hx hb dX6_counted_85 rfl (lv_at hl 0 rfl) ?_
                refine g_ialdn (n := 256) (i := i) hx hb hK hP (k := (k + 3)) (kd_10_3 hk) (by decide) rfl (by omega) (by decide) dX6_counted_86 ?_
                rw [show I (k + 3) i = J (z + 1 + 3) i from (hRl.c3 (by omega))]
                refine lv_iadd hx hb dX6_counted_87 ?_
                refine lv_istore_n (lv' := [(2, .int (f + (J (z + 1 + 3) i))), (3, .int (nI i)), (0, .ref (ad k)), (1, .int (nI w))]) hx hb dX6_counted_88 rfl hl (by decide) rfl (fun ls hl => ?_)
                refine lv_iinc (v := nI (i + 1)) (lv' := [(3, .int (nI (i + 1))), (2, .int (f + (J (z + 1 + 3) i))), (0, .ref (ad k)), (1, .int (nI w))]) hx hb dX6_counted_89 hl (k := 1) rfl (nI_1 i) (by decide) rfl (fun ls hl => ?_)
                refine lv_goto (tgt := 73) hx hb dX6_counted_92 (by decide) ?_
                exact ih73 (i + 1) (f + (J (z + 1 + 3) i)) _ _ _ (by omega) (by rw [hf]; rfl) (by omega) hP hD hS (lv_sub hl [0, 1, 2, 3] rfl)
          · skip
            by_cases c_7 : (nI w) = nI 5
            · skip
              refine lv_tableIn (tgt := 97) (off := 94) hx hb dX6_counted_3 (by rw [c_7]; decide) (by rw [c_7]; decide) (by rw [c_7]; decide) (by decide) ?_
              refine lv_aload_n hx hb dX6_counted_97 rfl (lv_at hl 1 rfl) ?_
              refine g_get (κ := 10) (ci := 6) (v := .ref (ad (k + 5))) (C := RX6) (T := TX6) (N := 8) hx hb hts hown hK hP (k := k) hk (by decide) rfl (fun _ h => List.mem_cons_of_mem _ (List.mem_append_right _ h)) rfl 5 (by decide) (hts _ (List.mem_of_getElem? (i := 1) rfl)) (fun _ h9 => h9) rfl dX6_counted_98 ?_
              refine lv_iconst (v := nI 1) hx hb dX6_counted_101 (by decide) ?_
              refine g_ialdn (n := 4) (i := 1) hx hb hK hP (k := (k + 5)) (kd_10_5 hk) (by decide) rfl (by omega) (by decide) dX6_counted_102 ?_
              rw [show I (k + 5) 1 = J z 5 from hRl.n1]
              exact g_iret (v := J z 5) hx hb hr hlocks rfl hP hD hS ⟨EqW.rf _ _, by simp only [countF]; rw [if_neg c_1, if_neg c_2, if_neg c_3, if_neg c_4, if_neg c_5, if_pos c_7]⟩ dX6_counted_103
            · skip
              by_cases c_8 : (nI w) = nI 6
              · skip
                refine lv_tableIn (tgt := 104) (off := 101) hx hb dX6_counted_3 (by rw [c_8]; decide) (by rw [c_8]; decide) (by rw [c_8]; decide) (by decide) ?_
                refine lv_aload_n hx hb dX6_counted_104 rfl (lv_at hl 1 rfl) ?_
                refine lv_iconst (v := nI 0) hx hb dX6_counted_105 (by decide) ?_
                refine g_calli hD hS hA (va_runV (As := [.int (nI 0)]) (rest := []) ⟨hx, hb, hml, hown, hts⟩ (c_X6_manyLit l D cs ad I s.heap.size k hk (nI 0) (by decide) z J N hRl hIV) (cwV 1 hts gX6_counted_X6_manyLit rfl rfl rfl (by decide +kernel) ⟨Nat.le_of_ble_eq_true rfl, Nat.le_of_ble_eq_true rfl⟩) (g_preV hP hD hK hN (k := k) hk (by decide) rfl rfl rfl rfl) rfl rfl hl.1 rfl (lv_room (Nat.le_of_ble_eq_true rfl)) dX6_counted_106 ⟨Nat.le_of_ble_eq_true rfl, Nat.le_of_ble_eq_true rfl⟩) (fun ru9 u9 H locs hu9 hP hD hS => ?_)
                obtain ⟨hu9, hru9⟩ := hu9
                rw [hru9]
                exact g_iret (v := mlF J z N (nI 0)) hx hb hr hlocks rfl hP hD hS ⟨hu9, by simp only [countF]; rw [if_neg c_1, if_neg c_2, if_neg c_3, if_neg c_4, if_neg c_5, if_neg c_7, if_pos c_8]; exact ml0 _ _ _⟩ dX6_counted_109
              · skip
                by_cases c_10 : (nI w) = nI 7
                · skip
                  refine lv_tableIn (tgt := 110) (off := 107) hx hb dX6_counted_3 (by rw [c_10]; decide) (by rw [c_10]; decide) (by rw [c_10]; decide) (by decide) ?_
                  refine lv_aload_n hx hb dX6_counted_110 rfl (lv_at hl 1 rfl) ?_
                  refine g_callv hD hS hA (va_runV (As := []) (rest := []) ⟨hx, hb, hml, hown, hts⟩ (c_X6_hold l D cs ad I s.heap.size k hk z J N hRl hIV) (cwV 0 hts gX6_counted_X6_hold rfl rfl rfl (by decide +kernel) ⟨Nat.le_of_ble_eq_true rfl, Nat.le_of_ble_eq_true rfl⟩) (g_preV hP hD hK hN (k := k) hk (by decide) rfl rfl rfl rfl) rfl rfl hl.1 rfl (lv_room (Nat.le_of_ble_eq_true rfl)) dX6_counted_111 ⟨Nat.le_of_ble_eq_true rfl, Nat.le_of_ble_eq_true rfl⟩) (fun u11 H locs hu11 hP hD hS => ?_)
                  have hsh := hu11
                  refine lv_iconst (v := nI 0) hx hb dX6_counted_114 (by decide) ?_
                  refine lv_istore_n (lv' := [(3, .int (nI 0)), (2, .int (nI 0)), (0, .ref (ad k)), (1, .int (nI w))]) hx hb dX6_counted_115 rfl hl (by decide) rfl (fun ls hl => ?_)
                  suffices KL116 : ∀ (fuel : Nat) (i : Nat) (f : Int32) (H : Heap) (locs : List Loc) (ls : Array Slot), (i ≤ 256) → (f = nI (cn (lsN J z) i)) → 256 - i < fuel → va_P D vwCl (gw kM cs ad u11) H → va_D (gA kM ad sz) (gw kM cs ad u11) → va_S (gA kM ad sz) s.heap H locs → lv_has ls 4 [(3, .int (nI i)), (2, .int f), (0, .ref (ad k)), (1, .int (nI w))] → W pg l e ({ frames := 4, cells := 0, slots := 0, locals := 91 }) s m args below meth c H locs 0 0 (MQ below (va_Qi (fun r u => EqW k u I ∧ r = countF J z N (nI w)) (wat kM cs D ad (gA kM ad sz)) (gA kM ad sz)) args s 0 0 (gA kM ad sz)) (F0 m 116 ls []) from KL116 _ 0 (nI 0) _ _ _ (Nat.zero_le _) rfl (Nat.lt_succ_self _) hP hD hS (lv_sub hl [0, 1, 2, 3] rfl)
                  intro fuel116
                  induction fuel116 with
                  | zero => intro _ _ _ _ _ _ _ hm; exact absurd hm (Nat.not_lt_zero _)
                  | succ fuel116 ih116 =>
                    intro i f H locs ls hi hf hm116 hP hD hS hl
                    refine lv_iload_n hx hb dX6_counted_116 rfl (lv_at hl 0 rfl) ?_
                    refine lv_sipush (v := nI 256) hx hb dX6_counted_117 (by decide) ?_
                    refine lv_icmp_ge (tgt := 153) hx hb dX6_counted_120 (by decide) (fun c_12 => ?_) (fun c_12 => ?_)
                    · skip
                      have nc_12 : 256 ≤ i := (nI_leI (a := 256) (b := i) (by omega) (by omega)).mp c_12
                      refine lv_iload_n hx hb dX6_counted_153 rfl (lv_at hl 1 rfl) ?_
                      exact g_iret (v := f) hx hb hr hlocks rfl hP hD hS ⟨hsh.1, by simp only [countF]; rw [if_neg c_1, if_neg c_2, if_neg c_3, if_neg c_4, if_neg c_5, if_neg c_7, if_neg c_8, if_pos c_10]; rw [hf, show i = 256 from by omega]; exact loose7 hIV⟩ dX6_counted_154
                    · skip
                      have nc_12 : ¬ 256 ≤ i := fun z9_ => c_12 ((nI_leI (a := 256) (b := i) (by omega) (by omega)).mpr z9_)
                      refine lv_iload_n hx hb dX6_counted_123 rfl (lv_at hl 1 rfl) ?_
                      refine lv_aload_n hx hb dX6_counted_124 rfl (lv_at hl 2 rfl) ?_
                      refine lv_iload_n hx hb dX6_counted_125 rfl (lv_at hl 0 rfl) ?_
                      refine g_callF (F := f_X6_isOpen u11 k i) hD hS hA (va_runV (As := [.int (nI i)]) (rest := [.int f]) ⟨hx, hb, hml, hown, hts⟩ (c_X6_isOpen l D cs ad u11 H.size k hk i (by omega)) (cwV 1 hts gX6_counted_X6_isOpen rfl rfl rfl (by decide +kernel) ⟨Nat.le_of_ble_eq_true rfl, Nat.le_of_ble_eq_true rfl⟩) (g_preV hP hD hK hN (k := k) hk (by decide) rfl rfl rfl rfl) rfl rfl hl.1 rfl (lv_room (Nat.le_of_ble_eq_true rfl)) dX6_counted_126 ⟨Nat.le_of_ble_eq_true rfl, Nat.le_of_ble_eq_true rfl⟩) (fun H locs hP hD hS => ?_)
                      refine lv_if_eq (tgt := 144) hx hb dX6_counted_129 (by decide) (fun c_13 => ?_) (fun c_13 => ?_)
                      · skip
                        refine lv_iconst (v := nI 0) hx hb dX6_counted_144 (by decide) ?_
                        refine lv_iadd hx hb dX6_counted_145 ?_
                        refine lv_istore_n (lv' := [(2, .int (f + (nI 0))), (3, .int (nI i)), (0, .ref (ad k)), (1, .int (nI w))]) hx hb dX6_counted_146 rfl hl (by decide) rfl (fun ls hl => ?_)
                        refine lv_iinc (v := nI (i + 1)) (lv' := [(3, .int (nI (i + 1))), (2, .int (f + (nI 0))), (0, .ref (ad k)), (1, .int (nI w))]) hx hb dX6_counted_147 hl (k := 1) rfl (nI_1 i) (by decide) rfl (fun ls hl => ?_)
                        refine lv_goto (tgt := 116) hx hb dX6_counted_150 (by decide) ?_
                        exact ih116 (i + 1) (f + (nI 0)) _ _ _ (by omega) (cn_step0 hf (cd_f (fun y => (hRl.eqw hsh.1).open0 (by omega) c_13 y.1))) (by omega) hP hD hS (lv_sub hl [0, 1, 2, 3] rfl)
                      · skip
                        refine lv_aload_n hx hb dX6_counted_132 rfl (lv_at hl 2 rfl) ?_
                        refine lv_iload_n hx hb dX6_counted_133 rfl (lv_at hl 0 rfl) ?_
                        refine g_callF (F := bi (cd (heldP J z i))) hD hS hA (va_runV (As := [.int (nI i)]) (rest := [.int f]) ⟨hx, hb, hml, hown, hts⟩ (c_X6_isHeld l D cs ad u11 H.size k hk i (by omega) z J N (hRl.eqw hsh.1) hIV hsh.2) (cwV 1 hts gX6_counted_X6_isHeld rfl rfl rfl (by decide +kernel) ⟨Nat.le_of_ble_eq_true rfl, Nat.le_of_ble_eq_true rfl⟩) (g_preV hP hD hK hN (k := k) hk (by decide) rfl rfl rfl rfl) rfl rfl hl.1 rfl (lv_room (Nat.le_of_ble_eq_true rfl)) dX6_counted_134 ⟨Nat.le_of_ble_eq_true rfl, Nat.le_of_ble_eq_true rfl⟩) (fun H locs hP hD hS => ?_)
                        refine lv_if_ne (tgt := 144) hx hb dX6_counted_137 (by decide) (fun c_14 => ?_) (fun c_14 => ?_)
                        · skip
                          refine lv_iconst (v := nI 0) hx hb dX6_counted_144 (by decide) ?_
                          refine lv_iadd hx hb dX6_counted_145 ?_
                          refine lv_istore_n (lv' := [(2, .int (f + (nI 0))), (3, .int (nI i)), (0, .ref (ad k)), (1, .int (nI w))]) hx hb dX6_counted_146 rfl hl (by decide) rfl (fun ls hl => ?_)
                          refine lv_iinc (v := nI (i + 1)) (lv' := [(3, .int (nI (i + 1))), (2, .int (f + (nI 0))), (0, .ref (ad k)), (1, .int (nI w))]) hx hb dX6_counted_147 hl (k := 1) rfl (nI_1 i) (by decide) rfl (fun ls hl => ?_)
                          refine lv_goto (tgt := 116) hx hb dX6_counted_150 (by decide) ?_
                          exact ih116 (i + 1) (f + (nI 0)) _ _ _ (by omega) (cn_step0 hf (cd_f (fun y => y.2 (bi_cd1 c_14)))) (by omega) hP hD hS (lv_sub hl [0, 1, 2, 3] rfl)
                        · skip
                          refine lv_iconst (v := nI 1) hx hb dX6_counted_140 (by decide) ?_
                          refine lv_goto (tgt := 145) hx hb dX6_counted_141 (by decide) ?_
                          refine lv_iadd hx hb dX6_counted_145 ?_
                          refine lv_istore_n (lv' := [(2, .int (f + (nI 1))), (3, .int (nI i)), (0, .ref (ad k)), (1, .int (nI w))]) hx hb dX6_counted_146 rfl hl (by decide) rfl (fun ls hl => ?_)
                          refine lv_iinc (v := nI (i + 1)) (lv' := [(3, .int (nI (i + 1))), (2, .int (f + (nI 1))), (0, .ref (ad k)), (1, .int (nI w))]) hx hb dX6_counted_147 hl (k := 1) rfl (nI_1 i) (by decide) rfl (fun ls hl => ?_)
                          refine lv_goto (tgt := 116) hx hb dX6_counted_150 (by decide) ?_
                          exact ih116 (i + 1) (f + (nI 1)) _ _ _ (by omega) (cn_step1 hf (cd_t ⟨(hRl.eqw hsh.1).open1 (by omega) c_13, bi_cd0 c_14⟩)) (by omega) hP hD hS (lv_sub hl [0, 1, 2, 3] rfl)
                · skip
                  have ho : ∀ j : Nat, j ≤ 7 → (nI w) ≠ nI j := by
                    intro j hj
                    rcases (show j = 0 ∨ j = 1 ∨ j = 2 ∨ j = 3 ∨ j = 4 ∨ j = 5 ∨ j = 6 ∨ j = 7 from by omega) with rfl | rfl | rfl | rfl | rfl | rfl | rfl | rfl
                    · exact c_1
                    · exact c_2
                    · exact c_3
                    · exact c_4
                    · exact c_5
                    · exact c_7
                    · exact c_8
                    · exact c_10
                  refine lv_tableOut (tgt := 155) hx hb dX6_counted_3 (tsw (n := 7) (by decide) ho) (by decide) ?_
                  refine lv_aload_n hx hb dX6_counted_155 rfl (lv_at hl 1 rfl) ?_
                  refine g_get (κ := 10) (ci := 6) (v := .ref (ad (k + 5))) (C := RX6) (T := TX6) (N := 8) hx hb hts hown hK hP (k := k) hk (by decide) rfl (fun _ h => List.mem_cons_of_mem _ (List.mem_append_right _ h)) rfl 5 (by decide) (hts _ (List.mem_of_getElem? (i := 1) rfl)) (fun _ h9 => h9) rfl dX6_counted_156 ?_
                  refine lv_iconst (v := nI 2) hx hb dX6_counted_159 (by decide) ?_
                  refine g_ialdn (n := 4) (i := 2) hx hb hK hP (k := (k + 5)) (kd_10_5 hk) (by decide) rfl (by omega) (by decide) dX6_counted_160 ?_
                  rw [show I (k + 5) 2 = J z 6 from hRl.n2]
                  exact g_iret (v := J z 6) hx hb hr hlocks rfl hP hD hS ⟨EqW.rf _ _, by simp only [countF]; rw [if_neg c_1, if_neg c_2, if_neg c_3, if_neg c_4, if_neg c_5, if_neg c_7, if_neg c_8, if_neg c_10]⟩ dX6_counted_161

set_option maxHeartbeats 4000000 in
set_option maxRecDepth 100000 in
theorem c_X6_cellTold (l : Launch) (D : va_G) (cs : Nat → ClassId) (ad : Nat → Nat) (I : Mm) (sz : Nat) (k : Nat) (hk : kM.getD k 0 = 10) (c0 : Nat) (hc0 : c0 < 256) (w : Nat) (hw : w < 6) (z : Nat) (J : Mm) (N : Nat) (hRl : Rl z J k I N) (hIV : IV J z N) : MetI l yX6_cellTold wsX6_cellTold ({ frames := 3, cells := 0, slots := 0, locals := 68 }) kM cs D ad I sz [.ref (ad k), .int (nI c0), .int (nI w)] (fun r u => EqW k u I ∧ r = cellF J z N c0 (nI w)) 0 0 := by
  refine g_met (cc := cX6_cellTold) (maxL := 3) (ret := (some .int)) (by decide) rfl (Nat.le_of_ble_eq_true rfl) ?_
  intro pg e s m args below meth c ls hx hb hr hml hts hown hlocks hsz hP hD hK hN hS hA hl
  have hown : s.vm.findClass RX6 = some m.cls := hown
  have hl : lv_has ls 3 [(0, .ref (ad k)), (1, .int (nI c0)), (2, .int (nI w))] := hl
  have hN8 := hIV.1.2.1
  refine lv_iload_n hx hb dX6_cellTold_0 rfl (lv_at hl 2 rfl) ?_
  by_cases c_1 : (nI w) = nI 0
  · skip
    refine lv_tableIn (tgt := 36) (off := 35) hx hb dX6_cellTold_1 (by rw [c_1]; decide) (by rw [c_1]; decide) (by rw [c_1]; decide) (by decide) ?_
    refine lv_aload_n hx hb dX6_cellTold_36 rfl (lv_at hl 0 rfl) ?_
    refine g_get (κ := 10) (ci := 6) (v := .ref (ad (k + 1))) (C := RX6) (T := TX6) (N := 8) hx hb hts hown hK hP (k := k) hk (by decide) rfl (fun _ h => List.mem_cons_of_mem _ (List.mem_append_right _ h)) rfl 1 (by decide) (hts _ (List.mem_of_getElem? (i := 1) rfl)) (fun _ h9 => h9) rfl dX6_cellTold_37 ?_
    refine lv_iload_n hx hb dX6_cellTold_40 rfl (lv_at hl 1 rfl) ?_
    refine g_ialdn (n := 256) (i := c0) hx hb hK hP (k := (k + 1)) (kd_10_1 hk) (by decide) rfl (by omega) (by decide) dX6_cellTold_41 ?_
    rw [show I (k + 1) c0 = J (z + 1 + 1) c0 from (hRl.c1 (by omega))]
    exact g_iret (v := J (z + 1 + 1) c0) hx hb hr hlocks rfl hP hD hS ⟨EqW.rf _ _, by simp only [cellF]; rw [if_pos c_1]⟩ dX6_cellTold_42
  · skip
    by_cases c_2 : (nI w) = nI 1
    · skip
      refine lv_tableIn (tgt := 43) (off := 42) hx hb dX6_cellTold_1 (by rw [c_2]; decide) (by rw [c_2]; decide) (by rw [c_2]; decide) (by decide) ?_
      refine lv_aload_n hx hb dX6_cellTold_43 rfl (lv_at hl 0 rfl) ?_
      refine g_get (κ := 10) (ci := 6) (v := .ref (ad (k + 2))) (C := RX6) (T := TX6) (N := 8) hx hb hts hown hK hP (k := k) hk (by decide) rfl (fun _ h => List.mem_cons_of_mem _ (List.mem_append_right _ h)) rfl 2 (by decide) (hts _ (List.mem_of_getElem? (i := 2) rfl)) (fun _ h9 => h9) rfl dX6_cellTold_44 ?_
      refine lv_iload_n hx hb dX6_cellTold_47 rfl (lv_at hl 1 rfl) ?_
      refine g_ialdn (n := 256) (i := c0) hx hb hK hP (k := (k + 2)) (kd_10_2 hk) (by decide) rfl (by omega) (by decide) dX6_cellTold_48 ?_
      rw [show I (k + 2) c0 = J (z + 1 + 2) c0 from (hRl.c2 (by omega))]
      exact g_iret (v := J (z + 1 + 2) c0) hx hb hr hlocks rfl hP hD hS ⟨EqW.rf _ _, by simp only [cellF]; rw [if_neg c_1, if_pos c_2]⟩ dX6_cellTold_49
    · skip
      by_cases c_3 : (nI w) = nI 2
      · skip
        refine lv_tableIn (tgt := 50) (off := 49) hx hb dX6_cellTold_1 (by rw [c_3]; decide) (by rw [c_3]; decide) (by rw [c_3]; decide) (by decide) ?_
        refine lv_aload_n hx hb dX6_cellTold_50 rfl (lv_at hl 0 rfl) ?_
        refine g_get (κ := 10) (ci := 6) (v := .ref (ad (k + 3))) (C := RX6) (T := TX6) (N := 8) hx hb hts hown hK hP (k := k) hk (by decide) rfl (fun _ h => List.mem_cons_of_mem _ (List.mem_append_right _ h)) rfl 3 (by decide) (hts _ (List.mem_of_getElem? (i := 3) rfl)) (fun _ h9 => h9) rfl dX6_cellTold_51 ?_
        refine lv_iload_n hx hb dX6_cellTold_54 rfl (lv_at hl 1 rfl) ?_
        refine g_ialdn (n := 256) (i := c0) hx hb hK hP (k := (k + 3)) (kd_10_3 hk) (by decide) rfl (by omega) (by decide) dX6_cellTold_55 ?_
        rw [show I (k + 3) c0 = J (z + 1 + 3) c0 from (hRl.c3 (by omega))]
        exact g_iret (v := J (z + 1 + 3) c0) hx hb hr hlocks rfl hP hD hS ⟨EqW.rf _ _, by simp only [cellF]; rw [if_neg c_1, if_neg c_2, if_pos c_3]⟩ dX6_cellTold_56
      · skip
        by_cases c_4 : (nI w) = nI 3
        · skip
          refine lv_tableIn (tgt := 57) (off := 56) hx hb dX6_cellTold_1 (by rw [c_4]; decide) (by rw [c_4]; decide) (by rw [c_4]; decide) (by decide) ?_
          refine lv_aload_n hx hb dX6_cellTold_57 rfl (lv_at hl 0 rfl) ?_
          refine g_callv hD hS hA (va_runV (As := []) (rest := []) ⟨hx, hb, hml, hown, hts⟩ (c_X6_hold l D cs ad I s.heap.size k hk z J N hRl hIV) (cwV 0 hts gX6_cellTold_X6_hold rfl rfl rfl (by decide +kernel) ⟨Nat.le_of_ble_eq_true rfl, Nat.le_of_ble_eq_true rfl⟩) (g_preV hP hD hK hN (k := k) hk (by decide) rfl rfl rfl rfl) rfl rfl hl.1 rfl (lv_room (Nat.le_of_ble_eq_true rfl)) dX6_cellTold_58 ⟨Nat.le_of_ble_eq_true rfl, Nat.le_of_ble_eq_true rfl⟩) (fun u5 H locs hu5 hP hD hS => ?_)
          have hsh := hu5
          refine lv_aload_n hx hb dX6_cellTold_61 rfl (lv_at hl 0 rfl) ?_
          refine lv_iload_n hx hb dX6_cellTold_62 rfl (lv_at hl 1 rfl) ?_
          refine g_callF (F := bi (cd (heldP J z c0))) hD hS hA (va_runV (As := [.int (nI c0)]) (rest := []) ⟨hx, hb, hml, hown, hts⟩ (c_X6_isHeld l D cs ad u5 H.size k hk c0 (by omega) z J N (hRl.eqw hsh.1) hIV hsh.2) (cwV 1 hts gX6_cellTold_X6_isHeld rfl rfl rfl (by decide +kernel) ⟨Nat.le_of_ble_eq_true rfl, Nat.le_of_ble_eq_true rfl⟩) (g_preV hP hD hK hN (k := k) hk (by decide) rfl rfl rfl rfl) rfl rfl hl.1 rfl (lv_room (Nat.le_of_ble_eq_true rfl)) dX6_cellTold_63 ⟨Nat.le_of_ble_eq_true rfl, Nat.le_of_ble_eq_true rfl⟩) (fun H locs hP hD hS => ?_)
          refine lv_if_eq (tgt := 73) hx hb dX6_cellTold_66 (by decide) (fun c_6 => ?_) (fun c_6 => ?_)
          · skip
            refine lv_iconst (v := nI 0) hx hb dX6_cellTold_73 (by decide) ?_
            exact g_iret (v := nI 0) hx hb hr hlocks rfl hP hD hS ⟨hsh.1, by simp only [cellF]; rw [if_neg c_1, if_neg c_2, if_neg c_3, if_pos c_4]; rw [cd_f (bi_cd0 c_6)]; rfl⟩ dX6_cellTold_74
          · skip
            refine lv_iconst (v := nI 1) hx hb dX6_cellTold_69 (by decide) ?_
            refine lv_goto (tgt := 74) hx hb dX6_cellTold_70 (by decide) ?_
            exact g_iret (v := nI 1) hx hb hr hlocks rfl hP hD hS ⟨hsh.1, by simp only [cellF]; rw [if_neg c_1, if_neg c_2, if_neg c_3, if_pos c_4]; rw [cd_t (bi_cd1 c_6)]; rfl⟩ dX6_cellTold_74
        · skip
          by_cases c_7 : (nI w) = nI 4
          · skip
            refine lv_tableIn (tgt := 75) (off := 74) hx hb dX6_cellTold_1 (by rw [c_7]; decide) (by rw [c_7]; decide) (by rw [c_7]; decide) (by decide) ?_
            refine lv_aload_n hx hb dX6_cellTold_75 rfl (lv_at hl 0 rfl) ?_
            refine g_callv hD hS hA (va_runV (As := []) (rest := []) ⟨hx, hb, hml, hown, hts⟩ (c_X6_shine l D cs ad I s.heap.size k hk z J N hRl hIV) (cwV 0 hts gX6_cellTold_X6_shine rfl rfl rfl (by decide +kernel) ⟨Nat.le_of_ble_eq_true rfl, Nat.le_of_ble_eq_true rfl⟩) (g_preV hP hD hK hN (k := k) hk (by decide) rfl rfl rfl rfl) rfl rfl hl.1 rfl (lv_room (Nat.le_of_ble_eq_true rfl)) dX6_cellTold_76 ⟨Nat.le_of_ble_eq_true rfl, Nat.le_of_ble_eq_true rfl⟩) (fun u8 H locs hu8 hP hD hS => ?_)
            have hsh := hu8
            refine lv_aload_n hx hb dX6_cellTold_79 rfl (lv_at hl 0 rfl) ?_
            refine lv_iload_n hx hb dX6_cellTold_80 rfl (lv_at hl 1 rfl) ?_
            refine g_callF (F := bi (cd (litC J z N c0))) hD hS hA (va_runV (As := [.int (nI c0)]) (rest := []) ⟨hx, hb, hml, hown, hts⟩ (c_X6_isLit l D cs ad u8 H.size k hk c0 (by omega) z J N (hRl.eqw hsh.1) hIV hsh.2) (cwV 1 hts gX6_cellTold_X6_isLit rfl rfl rfl (by decide +kernel) ⟨Nat.le_of_ble_eq_true rfl, Nat.le_of_ble_eq_true rfl⟩) (g_preV hP hD hK hN (k := k) hk (by decide) rfl rfl rfl rfl) rfl rfl hl.1 rfl (lv_room (Nat.le_of_ble_eq_true rfl)) dX6_cellTold_81 ⟨Nat.le_of_ble_eq_true rfl, Nat.le_of_ble_eq_true rfl⟩) (fun H locs hP hD hS => ?_)
            refine lv_if_eq (tgt := 91) hx hb dX6_cellTold_84 (by decide) (fun c_9 => ?_) (fun c_9 => ?_)
            · skip
              refine lv_iconst (v := nI 0) hx hb dX6_cellTold_91 (by decide) ?_
              exact g_iret (v := nI 0) hx hb hr hlocks rfl hP hD hS ⟨hsh.1, by simp only [cellF]; rw [if_neg c_1, if_neg c_2, if_neg c_3, if_neg c_4, if_pos c_7]; rw [cd_f (bi_cd0 c_9)]; rfl⟩ dX6_cellTold_92
            · skip
              refine lv_iconst (v := nI 1) hx hb dX6_cellTold_87 (by decide) ?_
              refine lv_goto (tgt := 92) hx hb dX6_cellTold_88 (by decide) ?_
              exact g_iret (v := nI 1) hx hb hr hlocks rfl hP hD hS ⟨hsh.1, by simp only [cellF]; rw [if_neg c_1, if_neg c_2, if_neg c_3, if_neg c_4, if_pos c_7]; rw [cd_t (bi_cd1 c_9)]; rfl⟩ dX6_cellTold_92
          · skip
            have ho : ∀ j : Nat, j ≤ 4 → (nI w) ≠ nI j := by
              intro j hj
              rcases (show j = 0 ∨ j = 1 ∨ j = 2 ∨ j = 3 ∨ j = 4 from by omega) with rfl | rfl | rfl | rfl | rfl
              · exact c_1
              · exact c_2
              · exact c_3
              · exact c_4
              · exact c_7
            refine lv_tableOut (tgt := 93) hx hb dX6_cellTold_1 (tsw (n := 4) (by decide) ho) (by decide) ?_
            refine lv_aload_n hx hb dX6_cellTold_93 rfl (lv_at hl 0 rfl) ?_
            refine lv_iload_n hx hb dX6_cellTold_94 rfl (lv_at hl 1 rfl) ?_
            refine lv_iconst (v := nI 0) hx hb dX6_cellTold_95 (by decide) ?_
            refine g_callF (F := pplF J z N c0 (nI 0)) hD hS hA (va_runV (As := [.int (nI c0), .int (nI 0)]) (rest := []) ⟨hx, hb, hml, hown, hts⟩ (c_X6_peopleAt l D cs ad I s.heap.size k hk c0 (by omega) (nI 0) (by decide) z J N hRl hIV) (cwV 2 hts gX6_cellTold_X6_peopleAt rfl rfl rfl (by decide +kernel) ⟨Nat.le_of_ble_eq_true rfl, Nat.le_of_ble_eq_true rfl⟩) (g_preV hP hD hK hN (k := k) hk (by decide) rfl rfl rfl rfl) rfl rfl hl.1 rfl (lv_room (Nat.le_of_ble_eq_true rfl)) dX6_cellTold_96 ⟨Nat.le_of_ble_eq_true rfl, Nat.le_of_ble_eq_true rfl⟩) (fun H locs hP hD hS => ?_)
            exact g_iret (v := pplF J z N c0 (nI 0)) hx hb hr hlocks rfl hP hD hS ⟨EqW.rf _ _, by simp only [cellF]; rw [if_neg c_1, if_neg c_2, if_neg c_3, if_neg c_4, if_neg c_7]; exact ppl0 _ _ _ _⟩ dX6_cellTold_99

set_option maxHeartbeats 4000000 in
set_option maxRecDepth 100000 in
theorem c_X6_manTold (l : Launch) (D : va_G) (cs : Nat → ClassId) (ad : Nat → Nat) (I : Mm) (sz : Nat) (k : Nat) (hk : kM.getD k 0 = 10) (mn : Nat) (hmn : mn < 8) (w : Nat) (hw : w < 9) (z : Nat) (J : Mm) (N : Nat) (hRl : Rl z J k I N) (hIV : IV J z N) (hmn : mn < N) : MetI l yX6_manTold wsX6_manTold ({ frames := 1, cells := 0, slots := 0, locals := 22 }) kM cs D ad I sz [.ref (ad k), .int (nI mn), .int (nI w)] (fun r u => r = tunF J (z + 8 + (1 + mn)) (nI w) ∧ u = I) 0 0 := by
  refine g_met (cc := cX6_manTold) (maxL := 3) (ret := (some .int)) (by decide) rfl (Nat.le_of_ble_eq_true rfl) ?_
  intro pg e s m args below meth c ls hx hb hr hml hts hown hlocks hsz hP hD hK hN hS hA hl
  have hown : s.vm.findClass RX6 = some m.cls := hown
  have hl : lv_has ls 3 [(0, .ref (ad k)), (1, .int (nI mn)), (2, .int (nI w))] := hl
  have hN8 := hIV.1.2.1
  obtain ⟨w9, hw9, ew⟩ := hIV.1.2.2.2.2 mn hmn
  refine lv_iload_n hx hb dX6_manTold_0 rfl (lv_at hl 2 rfl) ?_
  by_cases c_1 : (nI w) = nI 0
  · skip
    refine lv_tableIn (tgt := 48) (off := 47) hx hb dX6_manTold_1 (by rw [c_1]; decide) (by rw [c_1]; decide) (by rw [c_1]; decide) (by decide) ?_
    refine lv_aload_n hx hb dX6_manTold_48 rfl (lv_at hl 0 rfl) ?_
    refine lv_iload_n hx hb dX6_manTold_49 rfl (lv_at hl 1 rfl) ?_
    refine lv_iconst (v := nI 0) hx hb dX6_manTold_50 (by decide) ?_
    refine g_callF (F := I (k + 4) (31 * mn + 0)) hD hS hA (va_runV (As := [.int (nI mn), .int (nI 0)]) (rest := []) ⟨hx, hb, hml, hown, hts⟩ (c_X6_get l D cs ad I s.heap.size k hk mn (by omega) 0 (by omega)) (cwV 2 hts gX6_manTold_X6_get rfl rfl rfl (by decide +kernel) ⟨Nat.le_of_ble_eq_true rfl, Nat.le_of_ble_eq_true rfl⟩) (g_preV hP hD hK hN (k := k) hk (by decide) rfl rfl rfl rfl) rfl rfl hl.1 rfl (lv_room (Nat.le_of_ble_eq_true rfl)) dX6_manTold_51 ⟨Nat.le_of_ble_eq_true rfl, Nat.le_of_ble_eq_true rfl⟩) (fun H locs hP hD hS => ?_)
    rw [show I (k + 4) (31 * mn + 0) = J (z + 8 + (1 + mn)) 0 from (hRl.t (by omega) (by decide))]
    refine lv_bipush (v := nI 16) hx hb dX6_manTold_54 (by decide) ?_
    refine lv_irem hx hb dX6_manTold_56 (by decide) ?_
    exact g_iret (v := (J (z + 8 + (1 + mn)) 0) - (J (z + 8 + (1 + mn)) 0) / (nI 16) * (nI 16)) hx hb hr hlocks rfl hP hD hS ⟨by simp only [tunF]; rw [if_pos c_1], rfl⟩ dX6_manTold_57
  · skip
    by_cases c_2 : (nI w) = nI 1
    · skip
      refine lv_tableIn (tgt := 58) (off := 57) hx hb dX6_manTold_1 (by rw [c_2]; decide) (by rw [c_2]; decide) (by rw [c_2]; decide) (by decide) ?_
      refine lv_aload_n hx hb dX6_manTold_58 rfl (lv_at hl 0 rfl) ?_
      refine lv_iload_n hx hb dX6_manTold_59 rfl (lv_at hl 1 rfl) ?_
      refine lv_iconst (v := nI 0) hx hb dX6_manTold_60 (by decide) ?_
      refine g_callF (F := I (k + 4) (31 * mn + 0)) hD hS hA (va_runV (As := [.int (nI mn), .int (nI 0)]) (rest := []) ⟨hx, hb, hml, hown, hts⟩ (c_X6_get l D cs ad I s.heap.size k hk mn (by omega) 0 (by omega)) (cwV 2 hts gX6_manTold_X6_get rfl rfl rfl (by decide +kernel) ⟨Nat.le_of_ble_eq_true rfl, Nat.le_of_ble_eq_true rfl⟩) (g_preV hP hD hK hN (k := k) hk (by decide) rfl rfl rfl rfl) rfl rfl hl.1 rfl (lv_room (Nat.le_of_ble_eq_true rfl)) dX6_manTold_61 ⟨Nat.le_of_ble_eq_true rfl, Nat.le_of_ble_eq_true rfl⟩) (fun H locs hP hD hS => ?_)
      rw [show I (k + 4) (31 * mn + 0) = J (z + 8 + (1 + mn)) 0 from (hRl.t (by omega) (by decide))]
      refine lv_bipush (v := nI 16) hx hb dX6_manTold_64 (by decide) ?_
      refine lv_idiv hx hb dX6_manTold_66 (by decide) ?_
      exact g_iret (v := (J (z + 8 + (1 + mn)) 0) / (nI 16)) hx hb hr hlocks rfl hP hD hS ⟨by simp only [tunF]; rw [if_neg c_1, if_pos c_2], rfl⟩ dX6_manTold_67
    · skip
      by_cases c_3 : (nI w) = nI 2
      · skip
        refine lv_tableIn (tgt := 68) (off := 67) hx hb dX6_manTold_1 (by rw [c_3]; decide) (by rw [c_3]; decide) (by rw [c_3]; decide) (by decide) ?_
        refine lv_aload_n hx hb dX6_manTold_68 rfl (lv_at hl 0 rfl) ?_
        refine lv_iload_n hx hb dX6_manTold_69 rfl (lv_at hl 1 rfl) ?_
        refine lv_iconst (v := nI 1) hx hb dX6_manTold_70 (by decide) ?_
        refine g_callF (F := I (k + 4) (31 * mn + 1)) hD hS hA (va_runV (As := [.int (nI mn), .int (nI 1)]) (rest := []) ⟨hx, hb, hml, hown, hts⟩ (c_X6_get l D cs ad I s.heap.size k hk mn (by omega) 1 (by omega)) (cwV 2 hts gX6_manTold_X6_get rfl rfl rfl (by decide +kernel) ⟨Nat.le_of_ble_eq_true rfl, Nat.le_of_ble_eq_true rfl⟩) (g_preV hP hD hK hN (k := k) hk (by decide) rfl rfl rfl rfl) rfl rfl hl.1 rfl (lv_room (Nat.le_of_ble_eq_true rfl)) dX6_manTold_71 ⟨Nat.le_of_ble_eq_true rfl, Nat.le_of_ble_eq_true rfl⟩) (fun H locs hP hD hS => ?_)
        rw [show I (k + 4) (31 * mn + 1) = J (z + 8 + (1 + mn)) 1 from (hRl.t (by omega) (by decide))]
        exact g_iret (v := J (z + 8 + (1 + mn)) 1) hx hb hr hlocks rfl hP hD hS ⟨by simp only [tunF]; rw [if_neg c_1, if_neg c_2, if_pos c_3], rfl⟩ dX6_manTold_74
      · skip
        by_cases c_4 : (nI w) = nI 3
        · skip
          refine lv_tableIn (tgt := 75) (off := 74) hx hb dX6_manTold_1 (by rw [c_4]; decide) (by rw [c_4]; decide) (by rw [c_4]; decide) (by decide) ?_
          refine lv_aload_n hx hb dX6_manTold_75 rfl (lv_at hl 0 rfl) ?_
          refine lv_iload_n hx hb dX6_manTold_76 rfl (lv_at hl 1 rfl) ?_
          refine lv_iconst (v := nI 2) hx hb dX6_manTold_77 (by decide) ?_
          refine g_callF (F := I (k + 4) (31 * mn + 2)) hD hS hA (va_runV (As := [.int (nI mn), .int (nI 2)]) (rest := []) ⟨hx, hb, hml, hown, hts⟩ (c_X6_get l D cs ad I s.heap.size k hk mn (by omega) 2 (by omega)) (cwV 2 hts gX6_manTold_X6_get rfl rfl rfl (by decide +kernel) ⟨Nat.le_of_ble_eq_true rfl, Nat.le_of_ble_eq_true rfl⟩) (g_preV hP hD hK hN (k := k) hk (by decide) rfl rfl rfl rfl) rfl rfl hl.1 rfl (lv_room (Nat.le_of_ble_eq_true rfl)) dX6_manTold_78 ⟨Nat.le_of_ble_eq_true rfl, Nat.le_of_ble_eq_true rfl⟩) (fun H locs hP hD hS => ?_)
          rw [show I (k + 4) (31 * mn + 2) = J (z + 8 + (1 + mn)) 2 from (hRl.t (by omega) (by decide))]
          exact g_iret (v := J (z + 8 + (1 + mn)) 2) hx hb hr hlocks rfl hP hD hS ⟨by simp only [tunF]; rw [if_neg c_1, if_neg c_2, if_neg c_3, if_pos c_4], rfl⟩ dX6_manTold_81
        · skip
          by_cases c_5 : (nI w) = nI 4
          · skip
            refine lv_tableIn (tgt := 82) (off := 81) hx hb dX6_manTold_1 (by rw [c_5]; decide) (by rw [c_5]; decide) (by rw [c_5]; decide) (by decide) ?_
            refine lv_aload_n hx hb dX6_manTold_82 rfl (lv_at hl 0 rfl) ?_
            refine lv_iload_n hx hb dX6_manTold_83 rfl (lv_at hl 1 rfl) ?_
            refine lv_iconst (v := nI 3) hx hb dX6_manTold_84 (by decide) ?_
            refine g_callF (F := I (k + 4) (31 * mn + 3)) hD hS hA (va_runV (As := [.int (nI mn), .int (nI 3)]) (rest := []) ⟨hx, hb, hml, hown, hts⟩ (c_X6_get l D cs ad I s.heap.size k hk mn (by omega) 3 (by omega)) (cwV 2 hts gX6_manTold_X6_get rfl rfl rfl (by decide +kernel) ⟨Nat.le_of_ble_eq_true rfl, Nat.le_of_ble_eq_true rfl⟩) (g_preV hP hD hK hN (k := k) hk (by decide) rfl rfl rfl rfl) rfl rfl hl.1 rfl (lv_room (Nat.le_of_ble_eq_true rfl)) dX6_manTold_85 ⟨Nat.le_of_ble_eq_true rfl, Nat.le_of_ble_eq_true rfl⟩) (fun H locs hP hD hS => ?_)
            rw [show I (k + 4) (31 * mn + 3) = J (z + 8 + (1 + mn)) 3 from (hRl.t (by omega) (by decide))]
            exact g_iret (v := J (z + 8 + (1 + mn)) 3) hx hb hr hlocks rfl hP hD hS ⟨by simp only [tunF]; rw [if_neg c_1, if_neg c_2, if_neg c_3, if_neg c_4, if_pos c_5], rfl⟩ dX6_manTold_88
          · skip
            by_cases c_6 : (nI w) = nI 5
            · skip
              refine lv_tableIn (tgt := 89) (off := 88) hx hb dX6_manTold_1 (by rw [c_6]; decide) (by rw [c_6]; decide) (by rw [c_6]; decide) (by decide) ?_
              refine lv_aload_n hx hb dX6_manTold_89 rfl (lv_at hl 0 rfl) ?_
              refine lv_iload_n hx hb dX6_manTold_90 rfl (lv_at hl 1 rfl) ?_
              refine lv_bipush (v := nI 6) hx hb dX6_manTold_91 (by decide) ?_
              refine g_callF (F := I (k + 4) (31 * mn + 6)) hD hS hA (va_runV (As := [.int (nI mn), .int (nI 6)]) (rest := []) ⟨hx, hb, hml, hown, hts⟩ (c_X6_get l D cs ad I s.heap.size k hk mn (by omega) 6 (by omega)) (cwV 2 hts gX6_manTold_X6_get rfl rfl rfl (by decide +kernel) ⟨Nat.le_of_ble_eq_true rfl, Nat.le_of_ble_eq_true rfl⟩) (g_preV hP hD hK hN (k := k) hk (by decide) rfl rfl rfl rfl) rfl rfl hl.1 rfl (lv_room (Nat.le_of_ble_eq_true rfl)) dX6_manTold_93 ⟨Nat.le_of_ble_eq_true rfl, Nat.le_of_ble_eq_true rfl⟩) (fun H locs hP hD hS => ?_)
              rw [show I (k + 4) (31 * mn + 6) = J (z + 8 + (1 + mn)) 7 from (hRl.t6 (by omega))]
              exact g_iret (v := J (z + 8 + (1 + mn)) 7) hx hb hr hlocks rfl hP hD hS ⟨by simp only [tunF]; rw [if_neg c_1, if_neg c_2, if_neg c_3, if_neg c_4, if_neg c_5, if_pos c_6], rfl⟩ dX6_manTold_96
            · skip
              by_cases c_7 : (nI w) = nI 6
              · skip
                refine lv_tableIn (tgt := 97) (off := 96) hx hb dX6_manTold_1 (by rw [c_7]; decide) (by rw [c_7]; decide) (by rw [c_7]; decide) (by decide) ?_
                refine lv_aload_n hx hb dX6_manTold_97 rfl (lv_at hl 0 rfl) ?_
                refine lv_iload_n hx hb dX6_manTold_98 rfl (lv_at hl 1 rfl) ?_
                refine lv_bipush (v := nI 6) hx hb dX6_manTold_99 (by decide) ?_
                refine g_callF (F := I (k + 4) (31 * mn + 6)) hD hS hA (va_runV (As := [.int (nI mn), .int (nI 6)]) (rest := []) ⟨hx, hb, hml, hown, hts⟩ (c_X6_get l D cs ad I s.heap.size k hk mn (by omega) 6 (by omega)) (cwV 2 hts gX6_manTold_X6_get rfl rfl rfl (by decide +kernel) ⟨Nat.le_of_ble_eq_true rfl, Nat.le_of_ble_eq_true rfl⟩) (g_preV hP hD hK hN (k := k) hk (by decide) rfl rfl rfl rfl) rfl rfl hl.1 rfl (lv_room (Nat.le_of_ble_eq_true rfl)) dX6_manTold_101 ⟨Nat.le_of_ble_eq_true rfl, Nat.le_of_ble_eq_true rfl⟩) (fun H locs hP hD hS => ?_)
                rw [show I (k + 4) (31 * mn + 6) = J (z + 8 + (1 + mn)) 7 from (hRl.t6 (by omega))]
                refine lv_if_ne (tgt := 111) hx hb dX6_manTold_104 (by decide) (fun c_8 => ?_) (fun c_8 => ?_)
                · skip
                  refine lv_aload_n hx hb dX6_manTold_111 rfl (lv_at hl 0 rfl) ?_
                  refine lv_iload_n hx hb dX6_manTold_112 rfl (lv_at hl 1 rfl) ?_
                  refine lv_bipush (v := nI 7) hx hb dX6_manTold_113 (by decide) ?_
                  refine g_callF (F := I (k + 4) (31 * mn + 7)) hD hS hA (va_runV (As := [.int (nI mn), .int (nI 7)]) (rest := []) ⟨hx, hb, hml, hown, hts⟩ (c_X6_get l D cs ad I H.size k hk mn (by omega) 7 (by omega)) (cwV 2 hts gX6_manTold_X6_get rfl rfl rfl (by decide +kernel) ⟨Nat.le_of_ble_eq_true rfl, Nat.le_of_ble_eq_true rfl⟩) (g_preV hP hD hK hN (k := k) hk (by decide) rfl rfl rfl rfl) rfl rfl hl.1 rfl (lv_room (Nat.le_of_ble_eq_true rfl)) dX6_manTold_115 ⟨Nat.le_of_ble_eq_true rfl, Nat.le_of_ble_eq_true rfl⟩) (fun H locs hP hD hS => ?_)
                  rw [show I (k + 4) (31 * mn + 7) = J (z + 8 + (1 + mn) + 8) 0 from (hRl.o0 (by omega))]
                  exact g_iret (v := J (z + 8 + (1 + mn) + 8) 0) hx hb hr hlocks rfl hP hD hS ⟨by simp only [tunF]; rw [if_neg c_1, if_neg c_2, if_neg c_3, if_neg c_4, if_neg c_5, if_neg c_6, if_pos c_7]; simp only [f_X4_firstOrder]; rw [if_neg (fun y => c_8 (by rw [ew] at y ⊢; rw [show w9 = 0 from Nat.le_zero.mp ((nI_leI (a := w9) (b := 0) (by omega) (by decide)).mp y)]; rfl))], rfl⟩ dX6_manTold_118
                · skip
                  refine lv_iconst (v := -1) hx hb dX6_manTold_107 (by decide) ?_
                  refine lv_goto (tgt := 118) hx hb dX6_manTold_108 (by decide) ?_
                  exact g_iret (v := -1) hx hb hr hlocks rfl hP hD hS ⟨by simp only [tunF]; rw [if_neg c_1, if_neg c_2, if_neg c_3, if_neg c_4, if_neg c_5, if_neg c_6, if_pos c_7]; simp only [f_X4_firstOrder]; rw [if_pos (by rw [c_8]; decide)], rfl⟩ dX6_manTold_118
              · skip
                by_cases c_9 : (nI w) = nI 7
                · skip
                  refine lv_tableIn (tgt := 119) (off := 118) hx hb dX6_manTold_1 (by rw [c_9]; decide) (by rw [c_9]; decide) (by rw [c_9]; decide) (by decide) ?_
                  refine lv_aload_n hx hb dX6_manTold_119 rfl (lv_at hl 0 rfl) ?_
                  refine lv_iload_n hx hb dX6_manTold_120 rfl (lv_at hl 1 rfl) ?_
                  refine lv_iconst (v := nI 4) hx hb dX6_manTold_121 (by decide) ?_
                  refine g_callF (F := I (k + 4) (31 * mn + 4)) hD hS hA (va_runV (As := [.int (nI mn), .int (nI 4)]) (rest := []) ⟨hx, hb, hml, hown, hts⟩ (c_X6_get l D cs ad I s.heap.size k hk mn (by omega) 4 (by omega)) (cwV 2 hts gX6_manTold_X6_get rfl rfl rfl (by decide +kernel) ⟨Nat.le_of_ble_eq_true rfl, Nat.le_of_ble_eq_true rfl⟩) (g_preV hP hD hK hN (k := k) hk (by decide) rfl rfl rfl rfl) rfl rfl hl.1 rfl (lv_room (Nat.le_of_ble_eq_true rfl)) dX6_manTold_122 ⟨Nat.le_of_ble_eq_true rfl, Nat.le_of_ble_eq_true rfl⟩) (fun H locs hP hD hS => ?_)
                  rw [show I (k + 4) (31 * mn + 4) = J (z + 8 + (1 + mn)) 4 from (hRl.t (by omega) (by decide))]
                  exact g_iret (v := J (z + 8 + (1 + mn)) 4) hx hb hr hlocks rfl hP hD hS ⟨by simp only [tunF]; rw [if_neg c_1, if_neg c_2, if_neg c_3, if_neg c_4, if_neg c_5, if_neg c_6, if_neg c_7, if_pos c_9]; rcases hIV.1.2.2.2.1 mn (by omega) with e | e <;> rw [e] <;> rfl, rfl⟩ dX6_manTold_125
                · skip
                  have ho : ∀ j : Nat, j ≤ 7 → (nI w) ≠ nI j := by
                    intro j hj
                    rcases (show j = 0 ∨ j = 1 ∨ j = 2 ∨ j = 3 ∨ j = 4 ∨ j = 5 ∨ j = 6 ∨ j = 7 from by omega) with rfl | rfl | rfl | rfl | rfl | rfl | rfl | rfl
                    · exact c_1
                    · exact c_2
                    · exact c_3
                    · exact c_4
                    · exact c_5
                    · exact c_6
                    · exact c_7
                    · exact c_9
                  refine lv_tableOut (tgt := 126) hx hb dX6_manTold_1 (tsw (n := 7) (by decide) ho) (by decide) ?_
                  refine lv_aload_n hx hb dX6_manTold_126 rfl (lv_at hl 0 rfl) ?_
                  refine lv_iload_n hx hb dX6_manTold_127 rfl (lv_at hl 1 rfl) ?_
                  refine lv_iconst (v := nI 5) hx hb dX6_manTold_128 (by decide) ?_
                  refine g_callF (F := I (k + 4) (31 * mn + 5)) hD hS hA (va_runV (As := [.int (nI mn), .int (nI 5)]) (rest := []) ⟨hx, hb, hml, hown, hts⟩ (c_X6_get l D cs ad I s.heap.size k hk mn (by omega) 5 (by omega)) (cwV 2 hts gX6_manTold_X6_get rfl rfl rfl (by decide +kernel) ⟨Nat.le_of_ble_eq_true rfl, Nat.le_of_ble_eq_true rfl⟩) (g_preV hP hD hK hN (k := k) hk (by decide) rfl rfl rfl rfl) rfl rfl hl.1 rfl (lv_room (Nat.le_of_ble_eq_true rfl)) dX6_manTold_129 ⟨Nat.le_of_ble_eq_true rfl, Nat.le_of_ble_eq_true rfl⟩) (fun H locs hP hD hS => ?_)
                  rw [show I (k + 4) (31 * mn + 5) = J (z + 8 + (1 + mn)) 5 from (hRl.t (by omega) (by decide))]
                  exact g_iret (v := J (z + 8 + (1 + mn)) 5) hx hb hr hlocks rfl hP hD hS ⟨by simp only [tunF]; rw [if_neg c_1, if_neg c_2, if_neg c_3, if_neg c_4, if_neg c_5, if_neg c_6, if_neg c_7, if_neg c_9], rfl⟩ dX6_manTold_132
