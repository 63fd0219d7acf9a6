theorem fil_0 (I : Mm) (k : Nat) (b : Int32) : wrA I k (fun j => if j < 0 then b else I k j) = I := by
  funext a j
  simp only [wrA]
  split
  · rename_i h; subst h; simp
  · rfl
theorem fil_s (I : Mm) (k : Nat) (b : Int32) (i : Nat) : wr (wrA I k (fun j => if j < i then b else I k j)) k i b = wrA I k (fun j => if j < i + 1 then b else I k j) := by
  funext a j
  by_cases ha : a = k
  · subst ha
    rw [wrA_s]
    by_cases hj : j = i
    · subst hj; rw [wr_ss, if_pos (by omega)]
    · rw [wr_sn _ _ _ hj, wrA_s]
      by_cases h2 : j < i
      · rw [if_pos h2, if_pos (by omega)]
      · rw [if_neg h2, if_neg (by omega)]
  · rw [wr_n _ _ _ ha, wrA_n _ _ ha, wrA_n _ _ ha]

set_option maxHeartbeats 4000000 in
set_option maxRecDepth 100000 in
theorem c_J7_fill_53178 {K : List Nat} (l : Launch) (D : va_G) (cs : Nat → ClassId) (ad : Nat → Nat) (I : Mm) (sz : Nat) (k : Nat) (hk : K.getD k 0 = 8) (b : Int32) : MetN l yJ7_fill_53178 wsJ7_fill_53178 ({ frames := 0, cells := 0, slots := 0, locals := 0 }) K cs D ad I sz [.ref (ad k), .int b] (fun u => u = wrA I k (fun j => if j < 256 then b else I k j)) 0 0 := by
  refine g_met (cc := cJ7_fill_53178) (maxL := 4) (ret := none) (by decide) rfl (Nat.le_of_ble_eq_true rfl) ?_
  intro pg e s m args below meth c ls hx hb hr hml hts hown hlocks hsz hP hD hK hN hS hA hl
  have hown : s.vm.findClass RJ7 = some m.cls := hown
  have hl : lv_has ls 4 [(0, .ref (ad k)), (1, .int b)] := hl
  refine lv_iconst (v := nI 0) hx hb dJ7_fill_53178_0 (by decide) ?_
  refine lv_istore_n (lv' := [(2, .int (nI 0)), (0, .ref (ad k)), (1, .int b)]) hx hb dJ7_fill_53178_1 rfl hl (by decide) rfl (fun ls hl => ?_)
  refine lv_aload_n hx hb dJ7_fill_53178_2 rfl (lv_at hl 1 rfl) ?_
  refine va_alen (v := nI 256) hx hb hK hP k 0 (gw_at hk (by decide) rfl) rfl rfl dJ7_fill_53178_3 ?_
  refine lv_istore_n (lv' := [(3, .int (nI 256)), (2, .int (nI 0)), (0, .ref (ad k)), (1, .int b)]) hx hb dJ7_fill_53178_4 rfl hl (by decide) rfl (fun ls hl => ?_)
  suffices KL5 : ∀ (fuel : Nat) (i : Nat) (u : Mm) (H : Heap) (locs : List Loc) (ls : Array Slot), (i ≤ 256) → (u = wrA I k (fun j => if j < i then b else I k j)) → 256 - i < fuel → va_P D vwCl (gw K cs ad u) H → va_D (gA K ad sz) (gw K cs ad u) → va_S (gA K ad sz) s.heap H locs → lv_has ls 4 [(3, .int (nI 256)), (2, .int (nI i)), (0, .ref (ad k)), (1, .int b)] → W pg l e ({ frames := 0, cells := 0, slots := 0, locals := 0 }) s m args below meth c H locs 0 0 (MQ below (va_Qv (fun u => u = wrA I k (fun j => if j < 256 then b else I k j)) (wat K cs D ad (gA K ad sz)) (gA K ad sz)) args s 0 0 (gA K ad sz)) (F0 m 5 ls []) from KL5 _ 0 I _ _ _ (by omega) (fil_0 I k b).symm (Nat.lt_succ_self _) hP hD hS (lv_sub hl [0, 1, 2, 3] rfl)
  intro fuel5
  induction fuel5 with
  | zero => intro _ _ _ _ _ _ _ hm; exact absurd hm (Nat.not_lt_zero _)
  | succ fuel5 ih5 =>
    intro i u H locs ls hi hu hm5 hP hD hS hl
    refine lv_iload_n hx hb dJ7_fill_53178_5 rfl (lv_at hl 1 rfl) ?_
    refine lv_iload_n hx hb dJ7_fill_53178_6 rfl (lv_at hl 0 rfl) ?_
    refine lv_icmp_ge (tgt := 20) hx hb dJ7_fill_53178_7 (by decide) (fun c_1 => ?_) (fun c_1 => ?_)
    · skip
      have nc_1 : 256 ≤ i := (nI_leI (a := 256) (b := i) (by omega) (by omega)).mp c_1
      exact g_vret hx hb hr hlocks hP hD hS (by rw [hu, show i = 256 from by omega]) dJ7_fill_53178_20
    · skip
      have nc_1 : ¬ 256 ≤ i := fun z9_ => c_1 ((nI_leI (a := 256) (b := i) (by omega) (by omega)).mpr z9_)
      refine lv_aload_n hx hb dJ7_fill_53178_10 rfl (lv_at hl 2 rfl) ?_
      refine lv_iload_n hx hb dJ7_fill_53178_11 rfl (lv_at hl 1 rfl) ?_
      refine lv_iload_n hx hb dJ7_fill_53178_12 rfl (lv_at hl 3 rfl) ?_
      refine g_iastn (n := 256) (i := i) hx hb hK hP hD hS (k := k) hk (by decide) (fun _ => rfl) (by omega) (by decide) dJ7_fill_53178_13 (fun u2 H locs hu2 hP hD hS => ?_)
      refine lv_iinc (v := nI (i + 1)) (lv' := [(2, .int (nI (i + 1))), (3, .int (nI 256)), (0, .ref (ad k)), (1, .int b)]) hx hb dJ7_fill_53178_14 hl (k := 1) rfl (nI_1 i) (by decide) rfl (fun ls hl => ?_)
      refine lv_goto (tgt := 5) hx hb dJ7_fill_53178_17 (by decide) ?_
      exact ih5 (i + 1) u2 _ _ _ (by omega) (by rw [hu2, hu]; exact fil_s I k b i) (by omega) hP hD hS (lv_sub hl [1, 0, 2, 3] rfl)

def f_X2_sumTo (I : Mm) (k : Nat) (a : Int32) : Int32 := (if a < 0 then -1 else (if (nI 256) ≤ a then -1 else I (k + 1) a.toNatClampNeg))
set_option maxHeartbeats 4000000 in
set_option maxRecDepth 100000 in
theorem c_X2_sumTo (l : Launch) (D : va_G) (cs : Nat → ClassId) (ad : Nat → Nat) (I : Mm) (sz : Nat) (k : Nat) (hk : kC.getD k 0 = 7) (a : Int32) : MetI l yX2_sumTo wsX2_sumTo ({ frames := 0, cells := 0, slots := 0, locals := 0 }) kC cs D ad I sz [.ref (ad k), .int a] (fun r u => r = f_X2_sumTo I k a ∧ u = I) 0 0 := by
  refine g_met (cc := cX2_sumTo) (maxL := 2) (ret := (some .int)) (by decide) rfl (Nat.le_of_ble_eq_true rfl) ?_
  intro pg e s m args below meth c ls hx hb hr hml hts hown hlocks hsz hP hD hK hN hS hA hl
  have hown : s.vm.findClass RX2 = some m.cls := hown
  have hl : lv_has ls 2 [(0, .ref (ad k)), (1, .int a)] := hl
  refine lv_iload_n hx hb dX2_sumTo_0 rfl (lv_at hl 1 rfl) ?_
  refine lv_if_lt (tgt := 20) hx hb dX2_sumTo_1 (by decide) (fun c_1 => ?_) (fun c_1 => ?_)
  · skip
    refine lv_iconst (v := -1) hx hb dX2_sumTo_20 (by decide) ?_
    exact g_iret (v := -1) hx hb hr hlocks rfl hP hD hS ⟨(by simp only [f_X2_sumTo, if_pos c_1]), rfl⟩ dX2_sumTo_21
  · skip
    refine lv_iload_n hx hb dX2_sumTo_4 rfl (lv_at hl 1 rfl) ?_
    refine lv_sipush (v := nI 256) hx hb dX2_sumTo_5 (by decide) ?_
    refine lv_icmp_ge (tgt := 20) hx hb dX2_sumTo_8 (by decide) (fun c_2 => ?_) (fun c_2 => ?_)
    · skip
      refine lv_iconst (v := -1) hx hb dX2_sumTo_20 (by decide) ?_
      exact g_iret (v := -1) hx hb hr hlocks rfl hP hD hS ⟨(by simp only [f_X2_sumTo, if_neg c_1, if_pos c_2]), rfl⟩ dX2_sumTo_21
    · skip
      refine lv_aload_n hx hb dX2_sumTo_11 rfl (lv_at hl 0 rfl) ?_
      refine g_get (κ := 7) (ci := 2) (v := .ref (ad (k + 1))) (C := RX2) (T := TX2) (N := 3) hx hb hts hown hK hP (k := k) hk (by decide) rfl (fun _ h => List.mem_cons_of_mem _ (List.mem_append_right _ h)) rfl 0 (by decide) (hts _ (List.mem_of_getElem? (i := 1) rfl)) (fun _ h9 => h9) rfl dX2_sumTo_12 ?_
      refine lv_iload_n hx hb dX2_sumTo_15 rfl (lv_at hl 1 rfl) ?_
      refine g_iald (n := 256) (i := a) hx hb hK hP (k := (k + 1)) (kd_7_0 hk) (by decide) rfl (vp_in_c c_1 c_2 (by decide)) dX2_sumTo_16 ?_
      refine lv_goto (tgt := 21) hx hb dX2_sumTo_17 (by decide) ?_
      exact g_iret (v := I (k + 1) a.toNatClampNeg) hx hb hr hlocks rfl hP hD hS ⟨(by simp only [f_X2_sumTo, if_neg c_1, if_neg c_2]), rfl⟩ dX2_sumTo_21

/-- the queue of a shaft: its cells by their sums -/
def DQ (I : Mm) (k n : Nat) (q S : Nat → Nat) : Prop := n ≤ 256 ∧ I k 2 = nI n ∧ (∀ j, j < n → q j < 256 ∧ I (k + 2) j = nI (q j) ∧ I (k + 1) (q j) = nI (S (q j)) ∧ S (q j) ≤ 10 * n) ∧ (∀ c, c < 256 → I (k + 1) c ≠ -1 → ∃ j, j < n ∧ q j = c) ∧ cn (fun c => decide (I (k + 1) c ≠ -1)) 256 = n ∧ (∀ i j, i ≤ j → j < n → S (q i) ≤ S (q j))
/-- what enter does: nothing, or one cell more at its place -/
def EN (I : Mm) (k t n : Nat) (q S hd : Nat → Nat) (a : Int32) (s : Nat) (u : Mm) : Prop :=
  (u = I ∧ (¬ (∃ c, c < 256 ∧ a = nI c ∧ hd c ≠ 10 ∧ I (k + 1) c = -1))) ∨
  (∃ c sl, c < 256 ∧ a = nI c ∧ hd c ≠ 10 ∧ I (k + 1) c = -1 ∧ n < 256 ∧ sl ≤ n ∧ (∀ j, j < sl → S (q j) ≤ s + hd c) ∧ (∀ j, sl ≤ j → j < n → s + hd c < S (q j)) ∧
    u = wr (wr (wrA I (k + 2) (fun j => if j < sl then I (k + 2) j else if j = sl then nI c else if j ≤ n then I (k + 2) (j - 1) else I (k + 2) j)) (k + 1) c (nI (s + hd c))) k 2 (nI (n + 1)))
theorem sum_in {I : Mm} {k c : Nat} (hc : c < 256) : f_X2_sumTo I k (nI c) = I (k + 1) c := by
  simp only [f_X2_sumTo]
  rw [if_neg (nI_pos (by omega)), if_neg (fun z => absurd ((nI_leI (by decide) (by omega)).mp z) (by omega)), nI_clamp (by omega)]
theorem sort_in {I : Mm} {k c : Nat} (hc : c < 256) : f_X3_sortAt I k (nI c) = I (k + 1) c := by
  simp only [f_X3_sortAt]
  rw [if_neg (nI_pos (by omega)), if_neg (fun z => absurd ((nI_leI (by decide) (by omega)).mp z) (by omega)), nI_clamp (by omega)]
theorem vp_nat {x : Int32} (h1 : ¬ x < 0) (h2 : ¬ nI 256 ≤ x) : ∃ c, c < 256 ∧ x = nI c := by
  obtain ⟨j, hj, e⟩ := nI_of h1
  subst e
  exact ⟨j, Nat.lt_of_not_le fun y => h2 (nI_le y hj), rfl⟩
def Hd (I : Mm) (t : Nat) (hd : Nat → Nat) : Prop := ∀ c, c < 256 → hd c ≤ 10 ∧ I (t + 1) c = nI (hd c)
theorem DQ_room {I : Mm} {k n : Nat} {q S : Nat → Nat} (h : DQ I k n q S) {c : Nat} (hc : c < 256) (hm : I (k + 1) c = -1) : n < 256 := by
  have := cn_lt (p := fun c => decide (I (k + 1) c ≠ -1)) (c := c) (decide_eq_false (fun z => z hm)) hc
  have := h.2.2.2.2.1
  omega
theorem ice_hd {I : Mm} {t : Nat} {hd : Nat → Nat} (h : Hd I t hd) {c : Nat} (hc : c < 256) : f_X3_sortAt I t (nI c) = nI 10 ↔ hd c = 10 := by
  rw [sort_in hc, (h c hc).2]
  have := (h c hc).1
  exact nI_eq (by omega) (by decide)

theorem en_fin {I v : Mm} {k n sl : Nat} {c : Nat} {x y : Int32} (hv1 : ∀ a, a ≠ k + 2 → v a = I a) (hv2 : ∀ j, j ≤ sl → v (k + 2) j = I (k + 2) j) (hv3 : ∀ j, sl < j → j ≤ n → v (k + 2) j = I (k + 2) (j - 1)) (hv4 : ∀ j, n < j → v (k + 2) j = I (k + 2) j) : wr (wr (wr v (k + 2) sl (nI c)) (k + 1) c x) k 2 y = wr (wr (wrA I (k + 2) (fun j => if j < sl then I (k + 2) j else if j = sl then nI c else if j ≤ n then I (k + 2) (j - 1) else I (k + 2) j)) (k + 1) c x) k 2 y := by
  have e : wr v (k + 2) sl (nI c) = wrA I (k + 2) (fun j => if j < sl then I (k + 2) j else if j = sl then nI c else if j ≤ n then I (k + 2) (j - 1) else I (k + 2) j) := by
    funext a
    by_cases ha : a = k + 2
    · subst ha
      rw [wrA_s]
      funext j
      by_cases h1 : j = sl
      · subst h1; rw [wr_ss, if_neg (by omega), if_pos rfl]
      · rw [wr_sn _ _ _ h1]
        by_cases h2 : j < sl
        · rw [if_pos h2]; exact hv2 j (by omega)
        · rw [if_neg h2, if_neg h1]
          by_cases h3 : j ≤ n
          · rw [if_pos h3]; exact hv3 j (by omega) h3
          · rw [if_neg h3]; exact hv4 j (by omega)
    · rw [wr_n _ _ _ ha, wrA_n _ _ ha]; exact hv1 a ha
  rw [e]
theorem en_s {v u : Mm} {I : Mm} {k n sl : Nat} (hsl : 0 < sl) (e : u = wr v (k + 2) sl (nI 0 + v (k + 2) (sl - 1))) : True := trivial

theorem en_sh {I v : Mm} {k n sl q : Nat} (hv2 : ∀ j, j ≤ sl → v (k + 2) j = I (k + 2) j) (hv3 : ∀ j, sl < j → j ≤ n → v (k + 2) j = I (k + 2) (j - 1)) (hq : I (k + 2) (sl - 1) = nI q) (hsl : 0 < sl) (j : Nat) (h1 : sl - 1 < j) (h2 : j ≤ n) : wr v (k + 2) sl (nI q) (k + 2) j = I (k + 2) (j - 1) := by
  by_cases e : j = sl
  · subst e; rw [wr_ss, hq]
  · rw [wr_sn _ _ _ e]; exact hv3 j (by omega) h2

set_option maxHeartbeats 4000000 in
set_option maxRecDepth 100000 in
theorem c_X2_enter (l : Launch) (D : va_G) (cs : Nat → ClassId) (ad : Nat → Nat) (I : Mm) (sz : Nat) (k : Nat) (hk : kC.getD k 0 = 7) (t : Nat) (ht : kC.getD t 0 = 3) (a : Int32) (sb : Nat) (n : Nat) (q : Nat → Nat) (S : Nat → Nat) (hd : Nat → Nat) (hq : DQ I k n q S) (hh : Hd I t hd) (hs : sb ≤ 10 * n) : MetN l yX2_enter wsX2_enter ({ frames := 1, cells := 0, slots := 0, locals := 21 }) kC cs D ad I sz [.ref (ad k), .ref (ad t), .int a, .int (nI sb)] (fun u => EN I k t n q S hd a sb u) 0 0 := by
  refine g_met (cc := cX2_enter) (maxL := 7) (ret := none) (by decide) rfl (Nat.le_of_ble_eq_true rfl) ?_
  intro pg e s m args below meth c ls hx hb hr hml hts hown hlocks hsz hP hD hK hN hS hA hl
  have hown : s.vm.findClass RX2 = some m.cls := hown
  have hl : lv_has ls 7 [(0, .ref (ad k)), (1, .ref (ad t)), (2, .int a), (3, .int (nI sb))] := hl
  have hn256 := hq.1
  refine lv_aload_n hx hb dX2_enter_0 rfl (lv_at hl 1 rfl) ?_
  refine lv_iload_n hx hb dX2_enter_1 rfl (lv_at hl 2 rfl) ?_
  refine g_callF (F := f_X3_sortAt I t a) hD hS hA (va_runV (As := [.int a]) (rest := []) ⟨hx, hb, hml, hown, hts⟩ (c_X3_sortAt l D cs ad I s.heap.size t ht a) (cwV 1 hts gX2_enter_X3_sortAt rfl rfl rfl (by decide +kernel) ⟨Nat.le_of_ble_eq_true rfl, Nat.le_of_ble_eq_true rfl⟩) (g_preV hP hD hK hN (k := t) ht (by decide) rfl rfl rfl rfl) rfl rfl hl.1 rfl (lv_room (Nat.le_of_ble_eq_true rfl)) dX2_enter_2 ⟨Nat.le_of_ble_eq_true rfl, Nat.le_of_ble_eq_true rfl⟩) (fun H locs hP hD hS => ?_)
  refine lv_istore (lv' := [(4, .int (f_X3_sortAt I t a)), (0, .ref (ad k)), (1, .ref (ad t)), (2, .int a), (3, .int (nI sb))]) hx hb dX2_enter_5 hl (by decide) rfl (fun ls hl => ?_)
  refine lv_iload hx hb dX2_enter_7 (lv_at hl 0 rfl) ?_
  refine lv_bipush (v := nI 10) hx hb dX2_enter_9 (by decide) ?_
  refine lv_icmp_eq (tgt := 45) hx hb dX2_enter_11 (by decide) (fun c_1 => ?_) (fun c_1 => ?_)
  · skip
    exact g_vret hx hb hr hlocks hP hD hS (Or.inl ⟨rfl, fun ⟨c9, g1, g2, g3, _⟩ => g3 ((ice_hd hh g1).mp (by rw [← g2]; exact c_1))⟩) dX2_enter_45
  · skip
    refine lv_iload_n hx hb dX2_enter_14 rfl (lv_at hl 3 rfl) ?_
    refine lv_if_lt (tgt := 45) hx hb dX2_enter_15 (by decide) (fun c_2 => ?_) (fun c_2 => ?_)
    · skip
      exact g_vret hx hb hr hlocks hP hD hS (Or.inl ⟨rfl, fun ⟨c9, g1, g2, _, _⟩ => nI_pos (show c9 < 2 ^ 31 from by omega) (by rw [← g2]; exact c_2)⟩) dX2_enter_45
    · skip
      refine lv_iload_n hx hb dX2_enter_18 rfl (lv_at hl 3 rfl) ?_
      refine lv_sipush (v := nI 256) hx hb dX2_enter_19 (by decide) ?_
      refine lv_icmp_ge (tgt := 45) hx hb dX2_enter_22 (by decide) (fun c_3 => ?_) (fun c_3 => ?_)
      · skip
        exact g_vret hx hb hr hlocks hP hD hS (Or.inl ⟨rfl, fun ⟨c9, g1, g2, _, _⟩ => absurd ((nI_leI (by decide) (by omega)).mp (by rw [← g2]; exact c_3)) (show ¬ 256 ≤ c9 from by omega)⟩) dX2_enter_45
      · skip
        refine lv_aload_n hx hb dX2_enter_25 rfl (lv_at hl 1 rfl) ?_
        refine g_get (κ := 7) (ci := 2) (v := .ref (ad (k + 1))) (C := RX2) (T := TX2) (N := 3) hx hb hts hown hK hP (k := k) hk (by decide) rfl (fun _ h => List.mem_cons_of_mem _ (List.mem_append_left _ (List.mem_append_right _ h))) rfl 0 (by decide) (hts _ (List.mem_of_getElem? (i := 1) rfl)) (fun _ h9 => h9) rfl dX2_enter_26 ?_
        refine lv_iload_n hx hb dX2_enter_29 rfl (lv_at hl 3 rfl) ?_
        refine g_iald (n := 256) (i := a) hx hb hK hP (k := (k + 1)) (kd_7_0 hk) (by decide) rfl (vp_in_c c_2 c_3 (by decide)) dX2_enter_30 ?_
        refine lv_iconst (v := -1) hx hb dX2_enter_31 (by decide) ?_
        refine lv_icmp_ne (tgt := 45) hx hb dX2_enter_32 (by decide) (fun c_4 => ?_) (fun c_4 => ?_)
        · skip
          exact g_vret hx hb hr hlocks hP hD hS (Or.inl ⟨rfl, fun ⟨c9, g1, g2, _, g4⟩ => c_4 (by rw [g2, nI_clamp (by omega)]; exact g4)⟩) dX2_enter_45
        · skip
          refine lv_aload_n hx hb dX2_enter_35 rfl (lv_at hl 1 rfl) ?_
          refine g_get (κ := 7) (ci := 2) (v := .int (I k 2)) (C := RX2) (T := TX2) (N := 3) hx hb hts hown hK hP (k := k) hk (by decide) rfl (fun _ h => List.mem_cons_of_mem _ (List.mem_append_left _ (List.mem_append_right _ h))) rfl 2 (by decide) (hts _ (List.mem_of_getElem? (i := 2) rfl)) (fun _ h9 => h9) rfl dX2_enter_36 ?_
          rw [show I k 2 = nI n from hq.2.1]
          refine lv_sipush (v := nI 256) hx hb dX2_enter_39 (by decide) ?_
          refine lv_icmp_lt (tgt := 46) hx hb dX2_enter_42 (by decide) (fun c_5 => ?_) (fun c_5 => ?_)
          · skip
            have nc_5 : n < 256 := (nI_ltI (a := n) (b := 256) (by omega) (by omega)).mp c_5
            obtain ⟨ca, hca, eca⟩ := vp_nat c_2 c_3
            have hhd := hh ca hca
            refine lv_iload_n hx hb dX2_enter_46 rfl (lv_at hl 4 rfl) ?_
            refine lv_iload hx hb dX2_enter_47 (lv_at hl 0 rfl) ?_
            refine lv_topi (fun y9 ey9 => ?_)
            obtain rfl : y9 = nI (hd ca) := ey9.trans (by rw [eca, sort_in hca]; exact hhd.2)
            refine lv_iadd hx hb dX2_enter_49 ?_
            rw [nI_add sb (hd ca)]
            refine lv_istore (lv' := [(5, .int (nI (sb + (hd ca)))), (4, .int (f_X3_sortAt I t a)), (0, .ref (ad k)), (1, .ref (ad t)), (2, .int a), (3, .int (nI sb))]) hx hb dX2_enter_50 hl (by decide) rfl (fun ls hl => ?_)
            refine lv_aload_n hx hb dX2_enter_52 rfl (lv_at hl 2 rfl) ?_
            refine g_get (κ := 7) (ci := 2) (v := .int (I k 2)) (C := RX2) (T := TX2) (N := 3) hx hb hts hown hK hP (k := k) hk (by decide) rfl (fun _ h => List.mem_cons_of_mem _ (List.mem_append_left _ (List.mem_append_right _ h))) rfl 2 (by decide) (hts _ (List.mem_of_getElem? (i := 2) rfl)) (fun _ h9 => h9) rfl dX2_enter_53 ?_
            rw [show I k 2 = nI n from hq.2.1]
            refine lv_istore (lv' := [(6, .int (nI n)), (5, .int (nI (sb + (hd ca)))), (4, .int (f_X3_sortAt I t a)), (0, .ref (ad k)), (1, .ref (ad t)), (2, .int a), (3, .int (nI sb))]) hx hb dX2_enter_56 hl (by decide) rfl (fun ls hl => ?_)
            suffices KL58 : ∀ (fuel : Nat) (sl : Nat) (v : Mm) (H : Heap) (locs : List Loc) (ls : Array Slot), (sl ≤ n) → (∀ a, a ≠ k + 2 → v a = I a) → (∀ j, j ≤ sl → v (k + 2) j = I (k + 2) j) → (∀ j, sl < j → j ≤ n → v (k + 2) j = I (k + 2) (j - 1)) → (∀ j, n < j → v (k + 2) j = I (k + 2) j) → (∀ j, sl ≤ j → j < n → sb + hd ca < S (q j)) → sl < fuel → va_P D vwCl (gw kC cs ad v) H → va_D (gA kC ad sz) (gw kC cs ad v) → va_S (gA kC ad sz) s.heap H locs → lv_has ls 7 [(6, .int (nI sl)), (5, .int (nI (sb + (hd ca)))), (4, .int (f_X3_sortAt I t a)), (0, .ref (ad k)), (1, .ref (ad t)), (2, .int a), (3, .int (nI sb))] → W pg l e ({ frames := 1, cells := 0, slots := 0, locals := 21 }) s m args below meth c H locs 0 0 (MQ below (va_Qv (fun u => EN I k t n q S hd a sb u) (wat kC cs D ad (gA kC ad sz)) (gA kC ad sz)) args s 0 0 (gA kC ad sz)) (F0 m 58 ls []) from KL58 _ n I _ _ _ (Nat.le_refl _) (fun _ _ => rfl) (fun _ _ => rfl) (fun j h1 h2 => absurd h1 (Nat.not_lt.mpr h2)) (fun _ _ => rfl) (fun j h1 h2 => absurd h2 (Nat.not_lt.mpr h1)) (Nat.lt_succ_self _) hP hD hS (lv_sub hl [0, 1, 2, 3, 4, 5, 6] rfl)
            intro fuel58
            induction fuel58 with
            | zero => intro _ _ _ _ _ _ _ _ _ _ _ hm; exact absurd hm (Nat.not_lt_zero _)
            | succ fuel58 ih58 =>
              intro sl v H locs ls hsl hv1 hv2 hv3 hv4 hgt hm58 hP hD hS hl
              refine lv_iload hx hb dX2_enter_58 (lv_at hl 0 rfl) ?_
              refine lv_if_le (tgt := 103) hx hb dX2_enter_60 (by decide) (fun c_6 => ?_) (fun c_6 => ?_)
              · skip
                have nc_6 : sl ≤ 0 := (nI_leI (a := sl) (b := 0) (by omega) (by omega)).mp c_6
                refine lv_aload_n hx hb dX2_enter_103 rfl (lv_at hl 3 rfl) ?_
                refine g_get (κ := 7) (ci := 2) (v := .ref (ad (k + 2))) (C := RX2) (T := TX2) (N := 3) hx hb hts hown hK hP (k := k) hk (by decide) rfl (fun _ h => List.mem_cons_of_mem _ (List.mem_append_left _ (List.mem_append_right _ h))) rfl 1 (by decide) (hts _ (List.mem_of_getElem? (i := 3) rfl)) (fun _ h9 => h9) rfl dX2_enter_104 ?_
                refine lv_iload hx hb dX2_enter_107 (lv_at hl 0 rfl) ?_
                refine lv_iload_n hx hb dX2_enter_109 rfl (lv_at hl 5 rfl) ?_
                refine g_iastn (n := 256) (i := sl) hx hb hK hP hD hS (k := (k + 2)) (kd_7_1 hk) (by decide) (fun _ => rfl) (by omega) (by decide) dX2_enter_110 (fun u7 H locs hu7 hP hD hS => ?_)
                refine lv_aload_n hx hb dX2_enter_111 rfl (lv_at hl 3 rfl) ?_
                refine g_get (κ := 7) (ci := 2) (v := .ref (ad (k + 1))) (C := RX2) (T := TX2) (N := 3) hx hb hts hown hK hP (k := k) hk (by decide) rfl (fun _ h => List.mem_cons_of_mem _ (List.mem_append_left _ (List.mem_append_right _ h))) rfl 0 (by decide) (hts _ (List.mem_of_getElem? (i := 1) rfl)) (fun _ h9 => h9) rfl dX2_enter_112 ?_
                refine lv_iload_n hx hb dX2_enter_115 rfl (lv_at hl 5 rfl) ?_
                refine lv_iload hx hb dX2_enter_116 (lv_at hl 1 rfl) ?_
                refine g_iast (n := 256) (i := a) hx hb hK hP hD hS (k := (k + 1)) (kd_7_0 hk) (by decide) (fun _ => rfl) (vp_in_c c_2 c_3 (by decide)) dX2_enter_118 (fun u8 H locs hu8 hP hD hS => ?_)
                refine lv_aload_n hx hb dX2_enter_119 rfl (lv_at hl 3 rfl) ?_
                refine lv_dup hx hb dX2_enter_120 rfl ?_
                refine g_get (κ := 7) (ci := 2) (v := .int (u8 k 2)) (C := RX2) (T := TX2) (N := 3) hx hb hts hown hK hP (k := k) hk (by decide) rfl (fun _ h => List.mem_cons_of_mem _ (List.mem_append_left _ (List.mem_append_right _ h))) rfl 2 (by decide) (hts _ (List.mem_of_getElem? (i := 2) rfl)) (fun _ h9 => h9) rfl dX2_enter_121 ?_
                rw [show u8 k 2 = nI n from (by rw [hu8, wr_n _ _ _ (by omega), hu7, wr_n _ _ _ (by omega), hv1 k (by omega)]; exact hq.2.1)]
                refine lv_iconst (v := nI 1) hx hb dX2_enter_124 (by decide) ?_
                refine lv_iadd hx hb dX2_enter_125 ?_
                rw [nI_add n 1]
                refine g_put (κ := 7) (ci := 2) (v := nI (n + 1)) (ty := .int) (C := RX2) (T := TX2) (N := 3) hx hb hts hown hK hP hD hS (k := k) hk (by decide) rfl (fun _ h => List.mem_cons_of_mem _ (List.mem_append_left _ (List.mem_append_right _ h))) tyX2 tyX2_ok nmX2 rfl 2 (by decide) (hts _ (List.mem_of_getElem? (i := 2) rfl)) (fun _ h9 => h9) rfl (by decide +kernel) rfl rfl (Nat.le_of_ble_eq_true rfl) rfl dX2_enter_126 (fun u9 H locs hu9 hP hD hS => ?_)
                exact g_vret hx hb hr hlocks hP hD hS (Or.inr ⟨ca, sl, hca, eca, fun y => c_1 (by rw [eca]; exact (ice_hd hh hca).mpr y), (by have y := c_4; rw [eca, nI_clamp (by omega)] at y; exact y), (by omega), hsl, (by first | (intro j hj; exact absurd hj (by omega)) | (intro j hj; have := hq.2.2.2.2.2 j (sl - 1) (by omega) (by omega); omega)), hgt, by rw [hu9, hu8, hu7, eca, nI_clamp (show ca < 2 ^ 31 from by omega)]; exact en_fin hv1 hv2 hv3 hv4⟩) dX2_enter_129
              · skip
                have nc_6 : ¬ sl ≤ 0 := fun z9_ => c_6 ((nI_leI (a := sl) (b := 0) (by omega) (by omega)).mpr z9_)
                have hsq := hq.2.2.1 (sl - 1) (by omega)
                refine lv_aload_n hx hb dX2_enter_63 rfl (lv_at hl 3 rfl) ?_
                refine lv_aload_n hx hb dX2_enter_64 rfl (lv_at hl 3 rfl) ?_
                refine g_get (κ := 7) (ci := 2) (v := .ref (ad (k + 2))) (C := RX2) (T := TX2) (N := 3) hx hb hts hown hK hP (k := k) hk (by decide) rfl (fun _ h => List.mem_cons_of_mem _ (List.mem_append_left _ (List.mem_append_right _ h))) rfl 1 (by decide) (hts _ (List.mem_of_getElem? (i := 3) rfl)) (fun _ h9 => h9) rfl dX2_enter_65 ?_
                refine lv_iload hx hb dX2_enter_68 (lv_at hl 0 rfl) ?_
                refine lv_iconst (v := nI 1) hx hb dX2_enter_70 (by decide) ?_
                refine lv_isub hx hb dX2_enter_71 ?_
                rw [pk_sub (a := sl) (b := 1) (by omega)]
                refine g_ialdn (n := 256) (i := (sl - 1)) hx hb hK hP (k := (k + 2)) (kd_7_1 hk) (by decide) rfl (by omega) (by decide) dX2_enter_72 ?_
                rw [show v (k + 2) (sl - 1) = nI (q (sl - 1)) from (by rw [hv2 _ (by omega)]; exact (hq.2.2.1 _ (by omega)).2.1)]
                refine g_callF (F := f_X2_sumTo v k (nI (q (sl - 1)))) hD hS hA (va_runV (As := [.int (nI (q (sl - 1)))]) (rest := []) ⟨hx, hb, hml, hown, hts⟩ (c_X2_sumTo l D cs ad v H.size k hk (nI (q (sl - 1)))) (cwV 1 hts gX2_enter_X2_sumTo rfl rfl rfl (by decide +kernel) ⟨Nat.le_of_ble_eq_true rfl, Nat.le_of_ble_eq_true rfl⟩) (g_preV hP hD hK hN (k := k) hk (by decide) rfl rfl rfl rfl) rfl rfl hl.1 rfl (lv_room (Nat.le_of_ble_eq_true rfl)) dX2_enter_73 ⟨Nat.le_of_ble_eq_true rfl, Nat.le_of_ble_eq_true rfl⟩) (fun H locs hP hD hS => ?_)
                rw [show f_X2_sumTo v k (nI (q (sl - 1))) = nI (S (q (sl - 1))) from (by rw [sum_in (hq.2.2.1 _ (by omega)).1, hv1 _ (by omega)]; exact (hq.2.2.1 _ (by omega)).2.2.1)]
                refine lv_iload hx hb dX2_enter_76 (lv_at hl 1 rfl) ?_
                refine lv_icmp_le (tgt := 103) hx hb dX2_enter_78 (by decide) (fun c_10 => ?_) (fun c_10 => ?_)
                · skip
                  have nc_10 : (S (q (sl - 1))) ≤ (sb + (hd ca)) := (nI_leI (a := (S (q (sl - 1)))) (b := (sb + (hd ca))) (by omega) (by omega)).mp c_10
                  refine lv_aload_n hx hb dX2_enter_103 rfl (lv_at hl 3 rfl) ?_
                  refine g_get (κ := 7) (ci := 2) (v := .ref (ad (k + 2))) (C := RX2) (T := TX2) (N := 3) hx hb hts hown hK hP (k := k) hk (by decide) rfl (fun _ h => List.mem_cons_of_mem _ (List.mem_append_left _ (List.mem_append_right _ h))) rfl 1 (by decide) (hts _ (List.mem_of_getElem? (i := 3) rfl)) (fun _ h9 => h9) rfl dX2_enter_104 ?_
                  refine lv_iload hx hb dX2_enter_107 (lv_at hl 0 rfl) ?_
                  refine lv_iload_n hx hb dX2_enter_109 rfl (lv_at hl 5 rfl) ?_
                  refine g_iastn (n := 256) (i := sl) hx hb hK hP hD hS (k := (k + 2)) (kd_7_1 hk) (by decide) (fun _ => rfl) (by omega) (by decide) dX2_enter_110 (fun u11 H locs hu11 hP hD hS => ?_)
                  refine lv_aload_n hx hb dX2_enter_111 rfl (lv_at hl 3 rfl) ?_
                  refine g_get (κ := 7) (ci := 2) (v := .ref (ad (k + 1))) (C := RX2) (T := TX2) (N := 3) hx hb hts hown hK hP (k := k) hk (by decide) rfl (fun _ h => List.mem_cons_of_mem _ (List.mem_append_left _ (List.mem_append_right _ h))) rfl 0 (by decide) (hts _ (List.mem_of_getElem? (i := 1) rfl)) (fun _ h9 => h9) rfl dX2_enter_112 ?_
                  refine lv_iload_n hx hb dX2_enter_115 rfl (lv_at hl 5 rfl) ?_
                  refine lv_iload hx hb dX2_enter_116 (lv_at hl 1 rfl) ?_
                  refine g_iast (n := 256) (i := a) hx hb hK hP hD hS (k := (k + 1)) (kd_7_0 hk) (by decide) (fun _ => rfl) (vp_in_c c_2 c_3 (by decide)) dX2_enter_118 (fun u12 H locs hu12 hP hD hS => ?_)
                  refine lv_aload_n hx hb dX2_enter_119 rfl (lv_at hl 3 rfl) ?_
                  refine lv_dup hx hb dX2_enter_120 rfl ?_
                  refine g_get (κ := 7) (ci := 2) (v := .int (u12 k 2)) (C := RX2) (T := TX2) (N := 3) hx hb hts hown hK hP (k := k) hk (by decide) rfl (fun _ h => List.mem_cons_of_mem _ (List.mem_append_left _ (List.mem_append_right _ h))) rfl 2 (by decide) (hts _ (List.mem_of_getElem? (i := 2) rfl)) (fun _ h9 => h9) rfl dX2_enter_121 ?_
                  rw [show u12 k 2 = nI n from (by rw [hu12, wr_n _ _ _ (by omega), hu11, wr_n _ _ _ (by omega), hv1 k (by omega)]; exact hq.2.1)]
                  refine lv_iconst (v := nI 1) hx hb dX2_enter_124 (by decide) ?_
                  refine lv_iadd hx hb dX2_enter_125 ?_
                  rw [nI_add n 1]
                  refine g_put (κ := 7) (ci := 2) (v := nI (n + 1)) (ty := .int) (C := RX2) (T := TX2) (N := 3) hx hb hts hown hK hP hD hS (k := k) hk (by decide) rfl (fun _ h => List.mem_cons_of_mem _ (List.mem_append_left _ (List.mem_append_right _ h))) tyX2 tyX2_ok nmX2 rfl 2 (by decide) (hts _ (List.mem_of_getElem? (i := 2) rfl)) (fun _ h9 => h9) rfl (by decide +kernel) rfl rfl (Nat.le_of_ble_eq_true rfl) rfl dX2_enter_126 (fun u13 H locs hu13 hP hD hS => ?_)
                  exact g_vret hx hb hr hlocks hP hD hS (Or.inr ⟨ca, sl, hca, eca, fun y => c_1 (by rw [eca]; exact (ice_hd hh hca).mpr y), (by have y := c_4; rw [eca, nI_clamp (by omega)] at y; exact y), (by omega), hsl, (by first | (intro j hj; exact absurd hj (by omega)) | (intro j hj; have := hq.2.2.2.2.2 j (sl - 1) (by omega) (by omega); omega)), hgt, by rw [hu13, hu12, hu11, eca, nI_clamp (show ca < 2 ^ 31 from by omega)]; exact en_fin hv1 hv2 hv3 hv4⟩) dX2_enter_129
                · skip
                  have nc_10 : ¬ (S (q (sl - 1))) ≤ (sb + (hd ca)) := fun z9_ => c_10 ((nI_leI (a := (S (q (sl - 1)))) (b := (sb + (hd ca))) (by omega) (by omega)).mpr z9_)
                  refine lv_aload_n hx hb dX2_enter_81 rfl (lv_at hl 3 rfl) ?_
                  refine g_get (κ := 7) (ci := 2) (v := .ref (ad (k + 2))) (C := RX2) (T := TX2) (N := 3) hx hb hts hown hK hP (k := k) hk (by decide) rfl (fun _ h => List.mem_cons_of_mem _ (List.mem_append_left _ (List.mem_append_right _ h))) rfl 1 (by decide) (hts _ (List.mem_of_getElem? (i := 3) rfl)) (fun _ h9 => h9) rfl dX2_enter_82 ?_
                  refine lv_iload hx hb dX2_enter_85 (lv_at hl 0 rfl) ?_
                  refine lv_aload_n hx hb dX2_enter_87 rfl (lv_at hl 3 rfl) ?_
                  refine g_get (κ := 7) (ci := 2) (v := .ref (ad (k + 2))) (C := RX2) (T := TX2) (N := 3) hx hb hts hown hK hP (k := k) hk (by decide) rfl (fun _ h => List.mem_cons_of_mem _ (List.mem_append_left _ (List.mem_append_right _ h))) rfl 1 (by decide) (hts _ (List.mem_of_getElem? (i := 3) rfl)) (fun _ h9 => h9) rfl dX2_enter_88 ?_
                  refine lv_iload hx hb dX2_enter_91 (lv_at hl 0 rfl) ?_
                  refine lv_iconst (v := nI 1) hx hb dX2_enter_93 (by decide) ?_
                  refine lv_isub hx hb dX2_enter_94 ?_
                  rw [pk_sub (a := sl) (b := 1) (by omega)]
                  refine g_ialdn (n := 256) (i := (sl - 1)) hx hb hK hP (k := (k + 2)) (kd_7_1 hk) (by decide) rfl (by omega) (by decide) dX2_enter_95 ?_
                  rw [show v (k + 2) (sl - 1) = nI (q (sl - 1)) from (by rw [hv2 _ (by omega)]; exact (hq.2.2.1 _ (by omega)).2.1)]
                  refine g_iastn (n := 256) (i := sl) hx hb hK hP hD hS (k := (k + 2)) (kd_7_1 hk) (by decide) (fun _ => rfl) (by omega) (by decide) dX2_enter_96 (fun u14 H locs hu14 hP hD hS => ?_)
                  refine lv_iinc (v := nI (sl - 1)) (lv' := [(6, .int (nI (sl - 1))), (5, .int (nI (sb + (hd ca)))), (4, .int (f_X3_sortAt I t a)), (0, .ref (ad k)), (1, .ref (ad t)), (2, .int a), (3, .int (nI sb))]) hx hb dX2_enter_97 hl (k := 0) rfl (nI_dec (by omega)) (by decide) rfl (fun ls hl => ?_)
                  refine lv_goto (tgt := 58) hx hb dX2_enter_100 (by decide) ?_
                  exact ih58 (sl - 1) u14 _ _ _ (by omega) (fun a9 ha => by rw [hu14, wr_n _ _ _ ha]; exact hv1 a9 ha) (fun j hj => by rw [hu14, wr_sn _ _ _ (by omega)]; exact hv2 j (by omega)) (fun j h1 h2 => by rw [hu14]; exact en_sh hv2 hv3 (hq.2.2.1 _ (by omega)).2.1 (by omega) j h1 h2) (fun j hj => by rw [hu14, wr_sn _ _ _ (by omega)]; exact hv4 j hj) (fun j h1 h2 => by by_cases e9 : j = sl - 1 <;> first | (rw [e9]; omega) | exact hgt j (by omega) h2) (by omega) hP hD hS (lv_sub hl [0, 1, 2, 3, 4, 5, 6] rfl)
          · skip
            have nc_5 : ¬ n < 256 := fun z9_ => c_5 ((nI_ltI (a := n) (b := 256) (by omega) (by omega)).mpr z9_)
            exact g_vret hx hb hr hlocks hP hD hS (Or.inl ⟨rfl, fun ⟨c9, g1, g2, _, g4⟩ => absurd (DQ_room hq g1 g4) nc_5⟩) dX2_enter_45
