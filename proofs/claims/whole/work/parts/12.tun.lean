theorem tsw {x : Int32} {n : Nat} (hn : n < 2 ^ 31) (h : ∀ j : Nat, j ≤ n → x ≠ nI j) : x.toInt < ((0 : Nat) : Int) ∨ (n : Int) < x.toInt := by
  by_cases a : x.toInt < 0
  · exact Or.inl a
  · by_cases b : (n : Int) < x.toInt
    · exact Or.inr b
    · refine absurd ?_ (h x.toInt.toNat (by omega))
      apply Int32.toInt_inj.mp
      rw [nI_toInt (by omega)]
      omega
def bi (b : Bool) : Int32 := if b then nI 1 else nI 0
theorem bi_t : bi true = nI 1 := rfl
theorem bi_f : bi false = nI 0 := rfl
theorem bi_eq {b : Bool} (h : bi b = 0) : b = false := by
  cases b
  · rfl
  · exact absurd h (by decide)
theorem bi_ne {b : Bool} (h : ¬ bi b = 0) : b = true := by
  cases b
  · exact absurd rfl h
  · rfl
theorem bi_nar (b : Bool) : narrow .boolean (.int (bi b)) = .int (bi b) := by cases b <;> rfl
theorem bo_nar {x : Int32} (h : x = 0 ∨ x = 1) : narrow .boolean (.int x) = .int x := by rcases h with rfl | rfl <;> rfl
theorem bo_fit {x : Int32} (h : x = 0 ∨ x = 1) : fits .boolean (.int x) = true := by rcases h with rfl | rfl <;> rfl
theorem bi_bo (b : Bool) : bi b = 0 ∨ bi b = 1 := by
  cases b
  · exact Or.inl rfl
  · exact Or.inr rfl
theorem bi_fit (b : Bool) : fits .boolean (.int (bi b)) = true := by cases b <;> rfl

def f_X5_beside (a : Int32) (b : Int32) : Int32 := (if b = nI 0 then (if (a / (nI 16)) ≤ 0 then -1 else a - (nI 16)) else (if b = nI 1 then (if (nI 15) ≤ (a - a / (nI 16) * (nI 16)) then -1 else a + (nI 1)) else (if b = nI 2 then (if (nI 15) ≤ (a / (nI 16)) then -1 else a + (nI 16)) else (if b = nI 3 then (if (a - a / (nI 16) * (nI 16)) ≤ 0 then -1 else a - (nI 1)) else -1))))
set_option maxHeartbeats 4000000 in
set_option maxRecDepth 100000 in
theorem c_X5_beside (l : Launch) (D : va_G) (cs : Nat → ClassId) (ad : Nat → Nat) (I : Mm) (sz : Nat) (a : Int32) (b : Int32) : MetI l yX5_beside wsX5_beside ({ frames := 0, cells := 0, slots := 0, locals := 0 }) kC cs D ad I sz [.int a, .int b] (fun r u => r = f_X5_beside a b ∧ u = I) 0 0 := by
  refine g_met (cc := cX5_beside) (maxL := 4) (ret := (some .int)) (by decide) rfl (Nat.le_of_ble_eq_true rfl) ?_
  intro pg e s m args below meth c ls hx hb hr hml hts hown hlocks hsz hP hD hK hN hS hA hl
  have hown : s.vm.findClass RX5 = some m.cls := hown
  have hl : lv_has ls 4 [(0, .int a), (1, .int b)] := hl
  refine lv_iload_n hx hb dX5_beside_0 rfl (lv_at hl 0 rfl) ?_
  refine lv_bipush (v := nI 16) hx hb dX5_beside_1 (by decide) ?_
  refine lv_irem hx hb dX5_beside_3 (by decide) ?_
  refine lv_istore_n (lv' := [(2, .int (a - a / (nI 16) * (nI 16))), (0, .int a), (1, .int b)]) hx hb dX5_beside_4 rfl hl (by decide) rfl (fun ls hl => ?_)
  refine lv_iload_n hx hb dX5_beside_5 rfl (lv_at hl 1 rfl) ?_
  refine lv_bipush (v := nI 16) hx hb dX5_beside_6 (by decide) ?_
  refine lv_idiv hx hb dX5_beside_8 (by decide) ?_
  refine lv_istore_n (lv' := [(3, .int (a / (nI 16))), (2, .int (a - a / (nI 16) * (nI 16))), (0, .int a), (1, .int b)]) hx hb dX5_beside_9 rfl hl (by decide) rfl (fun ls hl => ?_)
  refine lv_iload_n hx hb dX5_beside_10 rfl (lv_at hl 3 rfl) ?_
  by_cases c_1 : b = nI 0
  · skip
    refine lv_tableIn (tgt := 40) (off := 29) hx hb dX5_beside_11 (by rw [c_1]; decide) (by rw [c_1]; decide) (by rw [c_1]; decide) (by decide) ?_
    refine lv_iload_n hx hb dX5_beside_40 rfl (lv_at hl 0 rfl) ?_
    refine lv_if_le (tgt := 51) hx hb dX5_beside_41 (by decide) (fun c_2 => ?_) (fun c_2 => ?_)
    · skip
      refine lv_iconst (v := -1) hx hb dX5_beside_51 (by decide) ?_
      exact g_iret (v := -1) hx hb hr hlocks rfl hP hD hS ⟨(by simp only [f_X5_beside, if_pos c_1, if_pos c_2]), rfl⟩ dX5_beside_52
    · skip
      refine lv_iload_n hx hb dX5_beside_44 rfl (lv_at hl 2 rfl) ?_
      refine lv_bipush (v := nI 16) hx hb dX5_beside_45 (by decide) ?_
      refine lv_isub hx hb dX5_beside_47 ?_
      refine lv_goto (tgt := 52) hx hb dX5_beside_48 (by decide) ?_
      exact g_iret (v := a - (nI 16)) hx hb hr hlocks rfl hP hD hS ⟨(by simp only [f_X5_beside, if_pos c_1, if_neg c_2]), rfl⟩ dX5_beside_52
  · skip
    by_cases c_3 : b = nI 1
    · skip
      refine lv_tableIn (tgt := 53) (off := 42) hx hb dX5_beside_11 (by rw [c_3]; decide) (by rw [c_3]; decide) (by rw [c_3]; decide) (by decide) ?_
      refine lv_iload_n hx hb dX5_beside_53 rfl (lv_at hl 1 rfl) ?_
      refine lv_bipush (v := nI 15) hx hb dX5_beside_54 (by decide) ?_
      refine lv_icmp_ge (tgt := 65) hx hb dX5_beside_56 (by decide) (fun c_4 => ?_) (fun c_4 => ?_)
      · skip
        refine lv_iconst (v := -1) hx hb dX5_beside_65 (by decide) ?_
        exact g_iret (v := -1) hx hb hr hlocks rfl hP hD hS ⟨(by simp only [f_X5_beside, if_neg c_1, if_pos c_3, if_pos c_4]), rfl⟩ dX5_beside_66
      · skip
        refine lv_iload_n hx hb dX5_beside_59 rfl (lv_at hl 2 rfl) ?_
        refine lv_iconst (v := nI 1) hx hb dX5_beside_60 (by decide) ?_
        refine lv_iadd hx hb dX5_beside_61 ?_
        refine lv_goto (tgt := 66) hx hb dX5_beside_62 (by decide) ?_
        exact g_iret (v := a + (nI 1)) hx hb hr hlocks rfl hP hD hS ⟨(by simp only [f_X5_beside, if_neg c_1, if_pos c_3, if_neg c_4]), rfl⟩ dX5_beside_66
    · skip
      by_cases c_5 : b = nI 2
      · skip
        refine lv_tableIn (tgt := 67) (off := 56) hx hb dX5_beside_11 (by rw [c_5]; decide) (by rw [c_5]; decide) (by rw [c_5]; decide) (by decide) ?_
        refine lv_iload_n hx hb dX5_beside_67 rfl (lv_at hl 0 rfl) ?_
        refine lv_bipush (v := nI 15) hx hb dX5_beside_68 (by decide) ?_
        refine lv_icmp_ge (tgt := 80) hx hb dX5_beside_70 (by decide) (fun c_6 => ?_) (fun c_6 => ?_)
        · skip
          refine lv_iconst (v := -1) hx hb dX5_beside_80 (by decide) ?_
          exact g_iret (v := -1) hx hb hr hlocks rfl hP hD hS ⟨(by simp only [f_X5_beside, if_neg c_1, if_neg c_3, if_pos c_5, if_pos c_6]), rfl⟩ dX5_beside_81
        · skip
          refine lv_iload_n hx hb dX5_beside_73 rfl (lv_at hl 2 rfl) ?_
          refine lv_bipush (v := nI 16) hx hb dX5_beside_74 (by decide) ?_
          refine lv_iadd hx hb dX5_beside_76 ?_
          refine lv_goto (tgt := 81) hx hb dX5_beside_77 (by decide) ?_
          exact g_iret (v := a + (nI 16)) hx hb hr hlocks rfl hP hD hS ⟨(by simp only [f_X5_beside, if_neg c_1, if_neg c_3, if_pos c_5, if_neg c_6]), rfl⟩ dX5_beside_81
      · skip
        by_cases c_7 : b = nI 3
        · skip
          refine lv_tableIn (tgt := 82) (off := 71) hx hb dX5_beside_11 (by rw [c_7]; decide) (by rw [c_7]; decide) (by rw [c_7]; decide) (by decide) ?_
          refine lv_iload_n hx hb dX5_beside_82 rfl (lv_at hl 1 rfl) ?_
          refine lv_if_le (tgt := 92) hx hb dX5_beside_83 (by decide) (fun c_8 => ?_) (fun c_8 => ?_)
          · skip
            refine lv_iconst (v := -1) hx hb dX5_beside_92 (by decide) ?_
            exact g_iret (v := -1) hx hb hr hlocks rfl hP hD hS ⟨(by simp only [f_X5_beside, if_neg c_1, if_neg c_3, if_neg c_5, if_pos c_7, if_pos c_8]), rfl⟩ dX5_beside_93
          · skip
            refine lv_iload_n hx hb dX5_beside_86 rfl (lv_at hl 2 rfl) ?_
            refine lv_iconst (v := nI 1) hx hb dX5_beside_87 (by decide) ?_
            refine lv_isub hx hb dX5_beside_88 ?_
            refine lv_goto (tgt := 93) hx hb dX5_beside_89 (by decide) ?_
            exact g_iret (v := a - (nI 1)) hx hb hr hlocks rfl hP hD hS ⟨(by simp only [f_X5_beside, if_neg c_1, if_neg c_3, if_neg c_5, if_pos c_7, if_neg c_8]), rfl⟩ dX5_beside_93
        · skip
          have ho : ∀ j : Nat, j ≤ 3 → b ≠ nI j := by
            intro j hj
            rcases (show j = 0 ∨ j = 1 ∨ j = 2 ∨ j = 3 from by omega) with rfl | rfl | rfl | rfl
            · exact c_1
            · exact c_3
            · exact c_5
            · exact c_7
          refine lv_tableOut (tgt := 94) hx hb dX5_beside_11 (tsw (n := 3) (by decide) ho) (by decide) ?_
          refine lv_iconst (v := -1) hx hb dX5_beside_94 (by decide) ?_
          exact g_iret (v := -1) hx hb hr hlocks rfl hP hD hS ⟨(by simp only [f_X5_beside, if_neg c_1, if_neg c_3, if_neg c_5, if_neg c_7]), rfl⟩ dX5_beside_95

def nr (a b : Int32) : Nat → Bool
  | 0 => decide (a = b)
  | n + 1 => nr a b n || decide (f_X5_beside a (nI n) = b)
theorem nr_t {a b : Int32} {n : Nat} (h : nr a b n = true) : nr a b (n + 1) = true := by simp [nr, h]
theorem nr_c {a b : Int32} {n : Nat} (h : nr a b n = false) : nr a b (n + 1) = decide (f_X5_beside a (nI n) = b) := by simp [nr, h]
def f_X5_isNear (a b : Int32) : Int32 := bi (nr a b 4)

set_option maxHeartbeats 4000000 in
set_option maxRecDepth 100000 in
theorem c_X5_isNear (l : Launch) (D : va_G) (cs : Nat → ClassId) (ad : Nat → Nat) (I : Mm) (sz : Nat) (a : Int32) (b : Int32) : MetI l yX5_isNear wsX5_isNear ({ frames := 1, cells := 0, slots := 0, locals := 23 }) kC cs D ad I sz [.int a, .int b] (fun r u => r = f_X5_isNear a b ∧ u = I) 0 0 := by
  refine g_met (cc := cX5_isNear) (maxL := 4) (ret := (some .boolean)) (by decide) rfl (Nat.le_of_ble_eq_true rfl) ?_
  intro pg e s m args below meth c ls hx hb hr hml hts hown hlocks hsz hP hD hK hN hS hA hl
  have hown : s.vm.findClass RX5 = some m.cls := hown
  have hl : lv_has ls 4 [(0, .int a), (1, .int b)] := hl
  refine lv_iload_n hx hb dX5_isNear_0 rfl (lv_at hl 0 rfl) ?_
  refine lv_iload_n hx hb dX5_isNear_1 rfl (lv_at hl 1 rfl) ?_
  refine lv_icmp_ne (tgt := 9) hx hb dX5_isNear_2 (by decide) (fun c_1 => ?_) (fun c_1 => ?_)
  · skip
    refine lv_iconst (v := nI 0) hx hb dX5_isNear_9 (by decide) ?_
    refine lv_istore_n (lv' := [(2, .int (nI 0)), (0, .int a), (1, .int b)]) hx hb dX5_isNear_10 rfl hl (by decide) rfl (fun ls hl => ?_)
    refine lv_iconst (v := nI 0) hx hb dX5_isNear_11 (by decide) ?_
    refine lv_istore_n (lv' := [(3, .int (nI 0)), (2, .int (nI 0)), (0, .int a), (1, .int b)]) hx hb dX5_isNear_12 rfl hl (by decide) rfl (fun ls hl => ?_)
    suffices KL13 : ∀ (fuel : Nat) (i : Nat) (f : Int32) (H : Heap) (locs : List Loc) (ls : Array Slot), (i ≤ 4) → (f = bi (nr a b i)) → 4 - i < fuel → va_P D vwCl (gw kC cs ad I) H → va_D (gA kC ad sz) (gw kC cs ad I) → va_S (gA kC ad sz) s.heap H locs → lv_has ls 4 [(3, .int (nI i)), (2, .int f), (0, .int a), (1, .int b)] → W pg l e ({ frames := 1, cells := 0, slots := 0, locals := 23 }) s m args below meth c H locs 0 0 (MQ below (va_Qi (fun r u => r = f_X5_isNear a b ∧ u = I) (wat kC cs D ad (gA kC ad sz)) (gA kC ad sz)) args s 0 0 (gA kC ad sz)) (F0 m 13 ls []) from KL13 _ 0 (nI 0) _ _ _ (by omega) (by simp [nr, bi, c_1]) (Nat.lt_succ_self _) hP hD hS (lv_sub hl [0, 1, 2, 3] rfl)
    intro fuel13
    induction fuel13 with
    | zero => intro _ _ _ _ _ _ _ hm; exact absurd hm (Nat.not_lt_zero _)
    | succ fuel13 ih13 =>
      intro i f H locs ls hi hf hm13 hP hD hS hl
      refine lv_iload_n hx hb dX5_isNear_13 rfl (lv_at hl 0 rfl) ?_
      refine lv_iconst (v := nI 4) hx hb dX5_isNear_14 (by decide) ?_
      refine lv_icmp_ge (tgt := 43) hx hb dX5_isNear_15 (by decide) (fun c_2 => ?_) (fun c_2 => ?_)
      · skip
        have nc_2 : 4 ≤ i := (nI_leI (a := 4) (b := i) (by omega) (by omega)).mp c_2
        refine lv_iload_n hx hb dX5_isNear_43 rfl (lv_at hl 1 rfl) ?_
        exact g_iret (v := f) hx hb hr hlocks (by rw [hf]; exact bi_nar _) hP hD hS ⟨by rw [hf, show i = 4 from by omega]; rfl, rfl⟩ dX5_isNear_44
      · skip
        have nc_2 : ¬ 4 ≤ i := fun z9_ => c_2 ((nI_leI (a := 4) (b := i) (by omega) (by omega)).mpr z9_)
        refine lv_iload_n hx hb dX5_isNear_18 rfl (lv_at hl 1 rfl) ?_
        refine lv_if_ne (tgt := 31) hx hb dX5_isNear_19 (by decide) (fun c_3 => ?_) (fun c_3 => ?_)
        · skip
          refine lv_iconst (v := nI 1) hx hb dX5_isNear_31 (by decide) ?_
          refine lv_goto (tgt := 36) hx hb dX5_isNear_32 (by decide) ?_
          refine lv_istore_n (lv' := [(2, .int (nI 1)), (3, .int (nI i)), (0, .int a), (1, .int b)]) hx hb dX5_isNear_36 rfl hl (by decide) rfl (fun ls hl => ?_)
          refine lv_iinc (v := nI (i + 1)) (lv' := [(3, .int (nI (i + 1))), (2, .int (nI 1)), (0, .int a), (1, .int b)]) hx hb dX5_isNear_37 hl (k := 1) rfl (nI_1 i) (by decide) rfl (fun ls hl => ?_)
          refine lv_goto (tgt := 13) hx hb dX5_isNear_40 (by decide) ?_
          exact ih13 (i + 1) (nI 1) _ _ _ (by omega) (by rw [nr_t (bi_ne (by rw [← hf]; exact c_3))]; rfl) (by omega) hP hD hS (lv_sub hl [0, 1, 2, 3] rfl)
        · skip
          refine lv_iload_n hx hb dX5_isNear_22 rfl (lv_at hl 2 rfl) ?_
          refine lv_iload_n hx hb dX5_isNear_23 rfl (lv_at hl 0 rfl) ?_
          refine g_callF (F := f_X5_beside a (nI i)) hD hS hA (va_runS (As := [.int a, .int (nI i)]) (rest := []) ⟨hx, hb, hml, hown, hts⟩ (c_X5_beside l D cs ad I H.size a (nI i)) (va_cwS 2 hts gX5_isNear_X5_beside rfl rfl rfl (by decide +kernel) ⟨Nat.le_of_ble_eq_true rfl, Nat.le_of_ble_eq_true rfl⟩) (g_preS hP hD hK hN) rfl rfl hl.1 rfl (lv_room (Nat.le_of_ble_eq_true rfl)) dX5_isNear_24 ⟨Nat.le_of_ble_eq_true rfl, Nat.le_of_ble_eq_true rfl⟩) (fun H locs hP hD hS => ?_)
          refine lv_iload_n hx hb dX5_isNear_27 rfl (lv_at hl 3 rfl) ?_
          refine lv_icmp_ne (tgt := 35) hx hb dX5_isNear_28 (by decide) (fun c_4 => ?_) (fun c_4 => ?_)
          · skip
            refine lv_iconst (v := nI 0) hx hb dX5_isNear_35 (by decide) ?_
            refine lv_istore_n (lv' := [(2, .int (nI 0)), (3, .int (nI i)), (0, .int a), (1, .int b)]) hx hb dX5_isNear_36 rfl hl (by decide) rfl (fun ls hl => ?_)
            refine lv_iinc (v := nI (i + 1)) (lv' := [(3, .int (nI (i + 1))), (2, .int (nI 0)), (0, .int a), (1, .int b)]) hx hb dX5_isNear_37 hl (k := 1) rfl (nI_1 i) (by decide) rfl (fun ls hl => ?_)
            refine lv_goto (tgt := 13) hx hb dX5_isNear_40 (by decide) ?_
            exact ih13 (i + 1) (nI 0) _ _ _ (by omega) (by rw [nr_c (bi_eq (by rw [← hf]; exact c_3)), decide_eq_false (p := f_X5_beside a (nI i) = b) c_4]; rfl) (by omega) hP hD hS (lv_sub hl [0, 1, 2, 3] rfl)
          · skip
            refine lv_iconst (v := nI 1) hx hb dX5_isNear_31 (by decide) ?_
            refine lv_goto (tgt := 36) hx hb dX5_isNear_32 (by decide) ?_
            refine lv_istore_n (lv' := [(2, .int (nI 1)), (3, .int (nI i)), (0, .int a), (1, .int b)]) hx hb dX5_isNear_36 rfl hl (by decide) rfl (fun ls hl => ?_)
            refine lv_iinc (v := nI (i + 1)) (lv' := [(3, .int (nI (i + 1))), (2, .int (nI 1)), (0, .int a), (1, .int b)]) hx hb dX5_isNear_37 hl (k := 1) rfl (nI_1 i) (by decide) rfl (fun ls hl => ?_)
            refine lv_goto (tgt := 13) hx hb dX5_isNear_40 (by decide) ?_
            exact ih13 (i + 1) (nI 1) _ _ _ (by omega) (by rw [nr_c (bi_eq (by rw [← hf]; exact c_3)), decide_eq_true (p := f_X5_beside a (nI i) = b) c_4]; rfl) (by omega) hP hD hS (lv_sub hl [0, 1, 2, 3] rfl)
  · skip
    refine lv_iconst (v := nI 1) hx hb dX5_isNear_5 (by decide) ?_
    refine lv_goto (tgt := 10) hx hb dX5_isNear_6 (by decide) ?_
    refine lv_istore_n (lv' := [(2, .int (nI 1)), (0, .int a), (1, .int b)]) hx hb dX5_isNear_10 rfl hl (by decide) rfl (fun ls hl => ?_)
    refine lv_iconst (v := nI 0) hx hb dX5_isNear_11 (by decide) ?_
    refine lv_istore_n (lv' := [(3, .int (nI 0)), (2, .int (nI 1)), (0, .int a), (1, .int b)]) hx hb dX5_isNear_12 rfl hl (by decide) rfl (fun ls hl => ?_)
    suffices KL13 : ∀ (fuel : Nat) (i : Nat) (f : Int32) (H : Heap) (locs : List Loc) (ls : Array Slot), (i ≤ 4) → (f = bi (nr a b i)) → 4 - i < fuel → va_P D vwCl (gw kC cs ad I) H → va_D (gA kC ad sz) (gw kC cs ad I) → va_S (gA kC ad sz) s.heap H locs → lv_has ls 4 [(3, .int (nI i)), (2, .int f), (0, .int a), (1, .int b)] → W pg l e ({ frames := 1, cells := 0, slots := 0, locals := 23 }) s m args below meth c H locs 0 0 (MQ below (va_Qi (fun r u => r = f_X5_isNear a b ∧ u = I) (wat kC cs D ad (gA kC ad sz)) (gA kC ad sz)) args s 0 0 (gA kC ad sz)) (F0 m 13 ls []) from KL13 _ 0 (nI 1) _ _ _ (by omega) (by simp [nr, bi, c_1]) (Nat.lt_succ_self _) hP hD hS (lv_sub hl [0, 1, 2, 3] rfl)
    intro fuel13
    induction fuel13 with
    | zero => intro _ _ _ _ _ _ _ hm; exact absurd hm (Nat.not_lt_zero _)
    | succ fuel13 ih13 =>
      intro i f H locs ls hi hf hm13 hP hD hS hl
      refine lv_iload_n hx hb dX5_isNear_13 rfl (lv_at hl 0 rfl) ?_
      refine lv_iconst (v := nI 4) hx hb dX5_isNear_14 (by decide) ?_
      refine lv_icmp_ge (tgt := 43) hx hb dX5_isNear_15 (by decide) (fun c_5 => ?_) (fun c_5 => ?_)
      · skip
        have nc_5 : 4 ≤ i := (nI_leI (a := 4) (b := i) (by omega) (by omega)).mp c_5
        refine lv_iload_n hx hb dX5_isNear_43 rfl (lv_at hl 1 rfl) ?_
        exact g_iret (v := f) hx hb hr hlocks (by rw [hf]; exact bi_nar _) hP hD hS ⟨by rw [hf, show i = 4 from by omega]; rfl, rfl⟩ dX5_isNear_44
      · skip
        have nc_5 : ¬ 4 ≤ i := fun z9_ => c_5 ((nI_leI (a := 4) (b := i) (by omega) (by omega)).mpr z9_)
        refine lv_iload_n hx hb dX5_isNear_18 rfl (lv_at hl 1 rfl) ?_
        refine lv_if_ne (tgt := 31) hx hb dX5_isNear_19 (by decide) (fun c_6 => ?_) (fun c_6 => ?_)
        · skip
          refine lv_iconst (v := nI 1) hx hb dX5_isNear_31 (by decide) ?_
          refine lv_goto (tgt := 36) hx hb dX5_isNear_32 (by decide) ?_
          refine lv_istore_n (lv' := [(2, .int (nI 1)), (3, .int (nI i)), (0, .int a), (1, .int b)]) hx hb dX5_isNear_36 rfl hl (by decide) rfl (fun ls hl => ?_)
          refine lv_iinc (v := nI (i + 1)) (lv' := [(3, .int (nI (i + 1))), (2, .int (nI 1)), (0, .int a), (1, .int b)]) hx hb dX5_isNear_37 hl (k := 1) rfl (nI_1 i) (by decide) rfl (fun ls hl => ?_)
          refine lv_goto (tgt := 13) hx hb dX5_isNear_40 (by decide) ?_
          exact ih13 (i + 1) (nI 1) _ _ _ (by omega) (by rw [nr_t (bi_ne (by rw [← hf]; exact c_6))]; rfl) (by omega) hP hD hS (lv_sub hl [0, 1, 2, 3] rfl)
        · skip
          refine lv_iload_n hx hb dX5_isNear_22 rfl (lv_at hl 2 rfl) ?_
          refine lv_iload_n hx hb dX5_isNear_23 rfl (lv_at hl 0 rfl) ?_
          refine g_callF (F := f_X5_beside a (nI i)) hD hS hA (va_runS (As := [.int a, .int (nI i)]) (rest := []) ⟨hx, hb, hml, hown, hts⟩ (c_X5_beside l D cs ad I H.size a (nI i)) (va_cwS 2 hts gX5_isNear_X5_beside rfl rfl rfl (by decide +kernel) ⟨Nat.le_of_ble_eq_true rfl, Nat.le_of_ble_eq_true rfl⟩) (g_preS hP hD hK hN) rfl rfl hl.1 rfl (lv_room (Nat.le_of_ble_eq_true rfl)) dX5_isNear_24 ⟨Nat.le_of_ble_eq_true rfl, Nat.le_of_ble_eq_true rfl⟩) (fun H locs hP hD hS => ?_)
          refine lv_iload_n hx hb dX5_isNear_27 rfl (lv_at hl 3 rfl) ?_
          refine lv_icmp_ne (tgt := 35) hx hb dX5_isNear_28 (by decide) (fun c_7 => ?_) (fun c_7 => ?_)
          · skip
            refine lv_iconst (v := nI 0) hx hb dX5_isNear_35 (by decide) ?_
            refine lv_istore_n (lv' := [(2, .int (nI 0)), (3, .int (nI i)), (0, .int a), (1, .int b)]) hx hb dX5_isNear_36 rfl hl (by decide) rfl (fun ls hl => ?_)
            refine lv_iinc (v := nI (i + 1)) (lv' := [(3, .int (nI (i + 1))), (2, .int (nI 0)), (0, .int a), (1, .int b)]) hx hb dX5_isNear_37 hl (k := 1) rfl (nI_1 i) (by decide) rfl (fun ls hl => ?_)
            refine lv_goto (tgt := 13) hx hb dX5_isNear_40 (by decide) ?_
            exact ih13 (i + 1) (nI 0) _ _ _ (by omega) (by rw [nr_c (bi_eq (by rw [← hf]; exact c_6)), decide_eq_false (p := f_X5_beside a (nI i) = b) c_7]; rfl) (by omega) hP hD hS (lv_sub hl [0, 1, 2, 3] rfl)
          · skip
            refine lv_iconst (v := nI 1) hx hb dX5_isNear_31 (by decide) ?_
            refine lv_goto (tgt := 36) hx hb dX5_isNear_32 (by decide) ?_
            refine lv_istore_n (lv' := [(2, .int (nI 1)), (3, .int (nI i)), (0, .int a), (1, .int b)]) hx hb dX5_isNear_36 rfl hl (by decide) rfl (fun ls hl => ?_)
            refine lv_iinc (v := nI (i + 1)) (lv' := [(3, .int (nI (i + 1))), (2, .int (nI 1)), (0, .int a), (1, .int b)]) hx hb dX5_isNear_37 hl (k := 1) rfl (nI_1 i) (by decide) rfl (fun ls hl => ?_)
            refine lv_goto (tgt := 13) hx hb dX5_isNear_40 (by decide) ?_
            exact ih13 (i + 1) (nI 1) _ _ _ (by omega) (by rw [nr_c (bi_eq (by rw [← hf]; exact c_6)), decide_eq_true (p := f_X5_beside a (nI i) = b) c_7]; rfl) (by omega) hP hD hS (lv_sub hl [0, 1, 2, 3] rfl)

def f_X4_firstOrder (I : Mm) (k : Nat) : Int32 := (if (I k 7) ≤ 0 then -1 else I (k + 8) 0)
set_option maxHeartbeats 4000000 in
set_option maxRecDepth 100000 in
theorem c_X4_firstOrder (l : Launch) (D : va_G) (cs : Nat → ClassId) (ad : Nat → Nat) (I : Mm) (sz : Nat) (k : Nat) (hk : kC.getD k 0 = 6) : MetI l yX4_firstOrder wsX4_firstOrder ({ frames := 0, cells := 0, slots := 0, locals := 0 }) kC cs D ad I sz [.ref (ad k)] (fun r u => r = f_X4_firstOrder I k ∧ u = I) 0 0 := by
  refine g_met (cc := cX4_firstOrder) (maxL := 1) (ret := (some .int)) (by decide) rfl (Nat.le_of_ble_eq_true rfl) ?_
  intro pg e s m args below meth c ls hx hb hr hml hts hown hlocks hsz hP hD hK hN hS hA hl
  have hown : s.vm.findClass RX4 = some m.cls := hown
  have hl : lv_has ls 1 [(0, .ref (ad k))] := hl
  refine lv_aload_n hx hb dX4_firstOrder_0 rfl (lv_at hl 0 rfl) ?_
  refine g_get (κ := 6) (ci := 4) (v := .int (I k 7)) (C := RX4) (T := TX4) (N := 8) hx hb hts hown hK hP (k := k) hk (by decide) rfl (fun _ h => List.mem_cons_of_mem _ (List.mem_append_right _ h)) rfl 7 (by decide) (hts _ (List.mem_of_getElem? (i := 1) rfl)) (fun _ h9 => h9) rfl dX4_firstOrder_1 ?_
  refine lv_if_le (tgt := 16) hx hb dX4_firstOrder_4 (by decide) (fun c_1 => ?_) (fun c_1 => ?_)
  · skip
    refine lv_iconst (v := -1) hx hb dX4_firstOrder_16 (by decide) ?_
    exact g_iret (v := -1) hx hb hr hlocks rfl hP hD hS ⟨(by simp only [f_X4_firstOrder, if_pos c_1]), rfl⟩ dX4_firstOrder_17
  · skip
    refine lv_aload_n hx hb dX4_firstOrder_7 rfl (lv_at hl 0 rfl) ?_
    refine g_get (κ := 6) (ci := 4) (v := .ref (ad (k + 8))) (C := RX4) (T := TX4) (N := 8) hx hb hts hown hK hP (k := k) hk (by decide) rfl (fun _ h => List.mem_cons_of_mem _ (List.mem_append_right _ h)) rfl 6 (by decide) (hts _ (List.mem_of_getElem? (i := 2) rfl)) (fun _ h9 => h9) rfl dX4_firstOrder_8 ?_
    refine lv_iconst (v := nI 0) hx hb dX4_firstOrder_11 (by decide) ?_
    refine g_ialdn (n := 24) (i := 0) hx hb hK hP (k := (k + 8)) (kd_6_6 hk) (by decide) rfl (by omega) (by decide) dX4_firstOrder_12 ?_
    refine lv_goto (tgt := 17) hx hb dX4_firstOrder_13 (by decide) ?_
    exact g_iret (v := I (k + 8) 0) hx hb hr hlocks rfl hP hD hS ⟨(by simp only [f_X4_firstOrder, if_neg c_1]), rfl⟩ dX4_firstOrder_17

def m_X4_burnOil (I : Mm) (k : Nat) : Mm := (if (I k 3) ≤ 0 then (if (I k 3) = 0 then (if (I k 2) ≤ 0 then I else (wr (wr I k 2 ((I k 2) - (nI 1))) k 3 (nI 60))) else I) else (if ((wr I k 3 ((I k 3) - (nI 1))) k 3) = 0 then (if ((wr I k 3 ((I k 3) - (nI 1))) k 2) ≤ 0 then (wr I k 3 ((I k 3) - (nI 1))) else (wr (wr (wr I k 3 ((I k 3) - (nI 1))) k 2 (((wr I k 3 ((I k 3) - (nI 1))) k 2) - (nI 1))) k 3 (nI 60))) else (wr I k 3 ((I k 3) - (nI 1)))))
set_option maxHeartbeats 4000000 in
set_option maxRecDepth 100000 in
theorem c_X4_burnOil (l : Launch) (D : va_G) (cs : Nat → ClassId) (ad : Nat → Nat) (I : Mm) (sz : Nat) (k : Nat) (hk : kC.getD k 0 = 6) : MetN l yX4_burnOil wsX4_burnOil ({ frames := 0, cells := 0, slots := 0, locals := 0 }) kC cs D ad I sz [.ref (ad k)] (fun u => u = m_X4_burnOil I k) 0 0 := by
  refine g_met (cc := cX4_burnOil) (maxL := 1) (ret := none) (by decide) rfl (Nat.le_of_ble_eq_true rfl) ?_
  intro pg e s m args below meth c ls hx hb hr hml hts hown hlocks hsz hP hD hK hN hS hA hl
  have hown : s.vm.findClass RX4 = some m.cls := hown
  have hl : lv_has ls 1 [(0, .ref (ad k))] := hl
  refine lv_aload_n hx hb dX4_burnOil_0 rfl (lv_at hl 0 rfl) ?_
  refine g_get (κ := 6) (ci := 4) (v := .int (I k 3)) (C := RX4) (T := TX4) (N := 8) hx hb hts hown hK hP (k := k) hk (by decide) rfl (fun _ h => List.mem_cons_of_mem _ (List.mem_append_right _ h)) rfl 3 (by decide) (hts _ (List.mem_of_getElem? (i := 1) rfl)) (fun _ h9 => h9) rfl dX4_burnOil_1 ?_
  refine lv_if_le (tgt := 17) hx hb dX4_burnOil_4 (by decide) (fun c_1 => ?_) (fun c_1 => ?_)
  · skip
    refine lv_aload_n hx hb dX4_burnOil_17 rfl (lv_at hl 0 rfl) ?_
    refine g_get (κ := 6) (ci := 4) (v := .int (I k 3)) (C := RX4) (T := TX4) (N := 8) hx hb hts hown hK hP (k := k) hk (by decide) rfl (fun _ h => List.mem_cons_of_mem _ (List.mem_append_right _ h)) rfl 3 (by decide) (hts _ (List.mem_of_getElem? (i := 1) rfl)) (fun _ h9 => h9) rfl dX4_burnOil_18 ?_
    refine lv_if_ne (tgt := 47) hx hb dX4_burnOil_21 (by decide) (fun c_2 => ?_) (fun c_2 => ?_)
    · skip
      exact g_vret hx hb hr hlocks hP hD hS (by simp only [m_X4_burnOil, if_pos c_1, if_neg c_2]) dX4_burnOil_47
    · skip
      refine lv_aload_n hx hb dX4_burnOil_24 rfl (lv_at hl 0 rfl) ?_
      refine g_get (κ := 6) (ci := 4) (v := .int (I k 2)) (C := RX4) (T := TX4) (N := 8) hx hb hts hown hK hP (k := k) hk (by decide) rfl (fun _ h => List.mem_cons_of_mem _ (List.mem_append_right _ h)) rfl 2 (by decide) (hts _ (List.mem_of_getElem? (i := 2) rfl)) (fun _ h9 => h9) rfl dX4_burnOil_25 ?_
      refine lv_if_le (tgt := 47) hx hb dX4_burnOil_28 (by decide) (fun c_3 => ?_) (fun c_3 => ?_)
      · skip
        exact g_vret hx hb hr hlocks hP hD hS (by simp only [m_X4_burnOil, if_pos c_1, if_pos c_2, if_pos c_3]) dX4_burnOil_47
      · skip
        refine lv_aload_n hx hb dX4_burnOil_31 rfl (lv_at hl 0 rfl) ?_
        refine lv_dup hx hb dX4_burnOil_32 rfl ?_
        refine g_get (κ := 6) (ci := 4) (v := .int (I k 2)) (C := RX4) (T := TX4) (N := 8) hx hb hts hown hK hP (k := k) hk (by decide) rfl (fun _ h => List.mem_cons_of_mem _ (List.mem_append_right _ h)) rfl 2 (by decide) (hts _ (List.mem_of_getElem? (i := 2) rfl)) (fun _ h9 => h9) rfl dX4_burnOil_33 ?_
        refine lv_iconst (v := nI 1) hx hb dX4_burnOil_36 (by decide) ?_
        refine lv_isub hx hb dX4_burnOil_37 ?_
        refine g_put (κ := 6) (ci := 4) (v := (I k 2) - (nI 1)) (ty := .int) (C := RX4) (T := TX4) (N := 8) hx hb hts hown hK hP hD hS (k := k) hk (by decide) rfl (fun _ h => List.mem_cons_of_mem _ (List.mem_append_right _ h)) tyX4 tyX4_ok nmX4 rfl 2 (by decide) (hts _ (List.mem_of_getElem? (i := 2) rfl)) (fun _ h9 => h9) rfl (by decide +kernel) rfl rfl (Nat.le_of_ble_eq_true rfl) rfl dX4_burnOil_38 (fun u4 H locs hu4 hP hD hS => ?_)
        refine lv_aload_n hx hb dX4_burnOil_41 rfl (lv_at hl 0 rfl) ?_
        refine lv_bipush (v := nI 60) hx hb dX4_burnOil_42 (by decide) ?_
        refine g_put (κ := 6) (ci := 4) (v := nI 60) (ty := .int) (C := RX4) (T := TX4) (N := 8) hx hb hts hown hK hP hD hS (k := k) hk (by decide) rfl (fun _ h => List.mem_cons_of_mem _ (List.mem_append_right _ h)) tyX4 tyX4_ok nmX4 rfl 3 (by decide) (hts _ (List.mem_of_getElem? (i := 1) rfl)) (fun _ h9 => h9) rfl (by decide +kernel) rfl rfl (Nat.le_of_ble_eq_true rfl) rfl dX4_burnOil_44 (fun u5 H locs hu5 hP hD hS => ?_)
        exact g_vret hx hb hr hlocks hP hD hS (by subst hu4; subst hu5; simp only [m_X4_burnOil, if_pos c_1, if_pos c_2, if_neg c_3]) dX4_burnOil_47
  · skip
    refine lv_aload_n hx hb dX4_burnOil_7 rfl (lv_at hl 0 rfl) ?_
    refine lv_dup hx hb dX4_burnOil_8 rfl ?_
    refine g_get (κ := 6) (ci := 4) (v := .int (I k 3)) (C := RX4) (T := TX4) (N := 8) hx hb hts hown hK hP (k := k) hk (by decide) rfl (fun _ h => List.mem_cons_of_mem _ (List.mem_append_right _ h)) rfl 3 (by decide) (hts _ (List.mem_of_getElem? (i := 1) rfl)) (fun _ h9 => h9) rfl dX4_burnOil_9 ?_
    refine lv_iconst (v := nI 1) hx hb dX4_burnOil_12 (by decide) ?_
    refine lv_isub hx hb dX4_burnOil_13 ?_
    refine g_put (κ := 6) (ci := 4) (v := (I k 3) - (nI 1)) (ty := .int) (C := RX4) (T := TX4) (N := 8) hx hb hts hown hK hP hD hS (k := k) hk (by decide) rfl (fun _ h => List.mem_cons_of_mem _ (List.mem_append_right _ h)) tyX4 tyX4_ok nmX4 rfl 3 (by decide) (hts _ (List.mem_of_getElem? (i := 1) rfl)) (fun _ h9 => h9) rfl (by decide +kernel) rfl rfl (Nat.le_of_ble_eq_true rfl) rfl dX4_burnOil_14 (fun u6 H locs hu6 hP hD hS => ?_)
    refine lv_aload_n hx hb dX4_burnOil_17 rfl (lv_at hl 0 rfl) ?_
    refine g_get (κ := 6) (ci := 4) (v := .int (u6 k 3)) (C := RX4) (T := TX4) (N := 8) hx hb hts hown hK hP (k := k) hk (by decide) rfl (fun _ h => List.mem_cons_of_mem _ (List.mem_append_right _ h)) rfl 3 (by decide) (hts _ (List.mem_of_getElem? (i := 1) rfl)) (fun _ h9 => h9) rfl dX4_burnOil_18 ?_
    refine lv_if_ne (tgt := 47) hx hb dX4_burnOil_21 (by decide) (fun c_7 => ?_) (fun c_7 => ?_)
    · skip
      exact g_vret hx hb hr hlocks hP hD hS (by subst hu6; simp only [m_X4_burnOil, if_neg c_1, if_neg c_7]) dX4_burnOil_47
    · skip
      refine lv_aload_n hx hb dX4_burnOil_24 rfl (lv_at hl 0 rfl) ?_
      refine g_get (κ := 6) (ci := 4) (v := .int (u6 k 2)) (C := RX4) (T := TX4) (N := 8) hx hb hts hown hK hP (k := k) hk (by decide) rfl (fun _ h => List.mem_cons_of_mem _ (List.mem_append_right _ h)) rfl 2 (by decide) (hts _ (List.mem_of_getElem? (i := 2) rfl)) (fun _ h9 => h9) rfl dX4_burnOil_25 ?_
      refine lv_if_le (tgt := 47) hx hb dX4_burnOil_28 (by decide) (fun c_8 => ?_) (fun c_8 => ?_)
      · skip
        exact g_vret hx hb hr hlocks hP hD hS (by subst hu6; simp only [m_X4_burnOil, if_neg c_1, if_pos c_7, if_pos c_8]) dX4_burnOil_47
      · skip
        refine lv_aload_n hx hb dX4_burnOil_31 rfl (lv_at hl 0 rfl) ?_
        refine lv_dup hx hb dX4_burnOil_32 rfl ?_
        refine g_get (κ := 6) (ci := 4) (v := .int (u6 k 2)) (C := RX4) (T := TX4) (N := 8) hx hb hts hown hK hP (k := k) hk (by decide) rfl (fun _ h => List.mem_cons_of_mem _ (List.mem_append_right _ h)) rfl 2 (by decide) (hts _ (List.mem_of_getElem? (i := 2) rfl)) (fun _ h9 => h9) rfl dX4_burnOil_33 ?_
        refine lv_iconst (v := nI 1) hx hb dX4_burnOil_36 (by decide) ?_
        refine lv_isub hx hb dX4_burnOil_37 ?_
        refine g_put (κ := 6) (ci := 4) (v := (u6 k 2) - (nI 1)) (ty := .int) (C := RX4) (T := TX4) (N := 8) hx hb hts hown hK hP hD hS (k := k) hk (by decide) rfl (fun _ h => List.mem_cons_of_mem _ (List.mem_append_right _ h)) tyX4 tyX4_ok nmX4 rfl 2 (by decide) (hts _ (List.mem_of_getElem? (i := 2) rfl)) (fun _ h9 => h9) rfl (by decide +kernel) rfl rfl (Nat.le_of_ble_eq_true rfl) rfl dX4_burnOil_38 (fun u9 H locs hu9 hP hD hS => ?_)
        refine lv_aload_n hx hb dX4_burnOil_41 rfl (lv_at hl 0 rfl) ?_
        refine lv_bipush (v := nI 60) hx hb dX4_burnOil_42 (by decide) ?_
        refine g_put (κ := 6) (ci := 4) (v := nI 60) (ty := .int) (C := RX4) (T := TX4) (N := 8) hx hb hts hown hK hP hD hS (k := k) hk (by decide) rfl (fun _ h => List.mem_cons_of_mem _ (List.mem_append_right _ h)) tyX4 tyX4_ok nmX4 rfl 3 (by decide) (hts _ (List.mem_of_getElem? (i := 1) rfl)) (fun _ h9 => h9) rfl (by decide +kernel) rfl rfl (Nat.le_of_ble_eq_true rfl) rfl dX4_burnOil_44 (fun u10 H locs hu10 hP hD hS => ?_)
        exact g_vret hx hb hr hlocks hP hD hS (by subst hu6; subst hu9; subst hu10; simp only [m_X4_burnOil, if_neg c_1, if_pos c_7, if_neg c_8]) dX4_burnOil_47

def m_X3_becomeLike (I : Mm) (k : Nat) (k2 : Nat) : Mm := (wrA (wrA (wrA I (k + 1) (cpy (I (k2 + 1)) (I (k + 1)) 256)) (k + 2) (cpy ((wrA I (k + 1) (cpy (I (k2 + 1)) (I (k + 1)) 256)) (k2 + 2)) ((wrA I (k + 1) (cpy (I (k2 + 1)) (I (k + 1)) 256)) (k + 2)) 256)) (k + 3) (cpy ((wrA (wrA I (k + 1) (cpy (I (k2 + 1)) (I (k + 1)) 256)) (k + 2) (cpy ((wrA I (k + 1) (cpy (I (k2 + 1)) (I (k + 1)) 256)) (k2 + 2)) ((wrA I (k + 1) (cpy (I (k2 + 1)) (I (k + 1)) 256)) (k + 2)) 256)) (k2 + 3)) ((wrA (wrA I (k + 1) (cpy (I (k2 + 1)) (I (k + 1)) 256)) (k + 2) (cpy ((wrA I (k + 1) (cpy (I (k2 + 1)) (I (k + 1)) 256)) (k2 + 2)) ((wrA I (k + 1) (cpy (I (k2 + 1)) (I (k + 1)) 256)) (k + 2)) 256)) (k + 3)) 256))
set_option maxHeartbeats 4000000 in
set_option maxRecDepth 100000 in
theorem c_X3_becomeLike (l : Launch) (D : va_G) (cs : Nat → ClassId) (ad : Nat → Nat) (I : Mm) (sz : Nat) (k : Nat) (hk : kC.getD k 0 = 3) (k2 : Nat) (hk2 : kC.getD k2 0 = 3) : MetN l yX3_becomeLike wsX3_becomeLike ({ frames := 1, cells := 0, slots := 0, locals := 18 }) kC cs D ad I sz [.ref (ad k), .ref (ad k2)] (fun u => u = m_X3_becomeLike I k k2) 0 0 := by
  refine g_met (cc := cX3_becomeLike) (maxL := 2) (ret := none) (by decide) rfl (Nat.le_of_ble_eq_true rfl) ?_
  intro pg e s m args below meth c ls hx hb hr hml hts hown hlocks hsz hP hD hK hN hS hA hl
  have hown : s.vm.findClass RX3 = some m.cls := hown
  have hl : lv_has ls 2 [(0, .ref (ad k)), (1, .ref (ad k2))] := hl
  refine lv_aload_n hx hb dX3_becomeLike_0 rfl (lv_at hl 1 rfl) ?_
  refine g_get (κ := 3) (ci := 3) (v := .ref (ad (k2 + 1))) (C := RX3) (T := TX3) (N := 3) hx hb hts hown hK hP (k := k2) hk2 (by decide) rfl (fun _ h => List.mem_cons_of_mem _ (List.mem_append_right _ h)) rfl 0 (by decide) (hts _ (List.mem_of_getElem? (i := 1) rfl)) (fun _ h9 => h9) rfl dX3_becomeLike_1 ?_
  refine lv_iconst (v := nI 0) hx hb dX3_becomeLike_4 (by decide) ?_
  refine lv_aload_n hx hb dX3_becomeLike_5 rfl (lv_at hl 0 rfl) ?_
  refine g_get (κ := 3) (ci := 3) (v := .ref (ad (k + 1))) (C := RX3) (T := TX3) (N := 3) hx hb hts hown hK hP (k := k) hk (by decide) rfl (fun _ h => List.mem_cons_of_mem _ (List.mem_append_right _ h)) rfl 0 (by decide) (hts _ (List.mem_of_getElem? (i := 1) rfl)) (fun _ h9 => h9) rfl dX3_becomeLike_6 ?_
  refine lv_iconst (v := nI 0) hx hb dX3_becomeLike_9 (by decide) ?_
  refine lv_sipush (v := nI 256) hx hb dX3_becomeLike_10 (by decide) ?_
  refine g_copy (len := 256) hx hb (hml.trans hl.1.symm) hown (hts _ (List.mem_of_getElem? (i := 2) rfl)) (hts _ (List.mem_of_getElem? (i := 3) rfl)) (hts _ (List.mem_of_getElem? (i := 4) rfl)) (hts _ (List.mem_of_getElem? (i := 5) rfl)) hK hP hD hS (k0 := (k2 + 1)) (k1 := (k + 1)) (kd_3_0 hk2) (kd_3_0 hk) (by decide) (fun _ _ => rfl) (by decide) (Nat.le_of_ble_eq_true rfl) (Nat.le_of_ble_eq_true rfl) dX3_becomeLike_13 (fun u1 H locs hu1 hP hD hS => ?_)
  refine lv_aload_n hx hb dX3_becomeLike_16 rfl (lv_at hl 1 rfl) ?_
  refine g_get (κ := 3) (ci := 3) (v := .ref (ad (k2 + 2))) (C := RX3) (T := TX3) (N := 3) hx hb hts hown hK hP (k := k2) hk2 (by decide) rfl (fun _ h => List.mem_cons_of_mem _ (List.mem_append_right _ h)) rfl 1 (by decide) (hts _ (List.mem_of_getElem? (i := 6) rfl)) (fun _ h9 => h9) rfl dX3_becomeLike_17 ?_
  refine lv_iconst (v := nI 0) hx hb dX3_becomeLike_20 (by decide) ?_
  refine lv_aload_n hx hb dX3_becomeLike_21 rfl (lv_at hl 0 rfl) ?_
  refine g_get (κ := 3) (ci := 3) (v := .ref (ad (k + 2))) (C := RX3) (T := TX3) (N := 3) hx hb hts hown hK hP (k := k) hk (by decide) rfl (fun _ h => List.mem_cons_of_mem _ (List.mem_append_right _ h)) rfl 1 (by decide) (hts _ (List.mem_of_getElem? (i := 6) rfl)) (fun _ h9 => h9) rfl dX3_becomeLike_22 ?_
  refine lv_iconst (v := nI 0) hx hb dX3_becomeLike_25 (by decide) ?_
  refine lv_sipush (v := nI 256) hx hb dX3_becomeLike_26 (by decide) ?_
  refine g_copy (len := 256) hx hb (hml.trans hl.1.symm) hown (hts _ (List.mem_of_getElem? (i := 2) rfl)) (hts _ (List.mem_of_getElem? (i := 3) rfl)) (hts _ (List.mem_of_getElem? (i := 4) rfl)) (hts _ (List.mem_of_getElem? (i := 5) rfl)) hK hP hD hS (k0 := (k2 + 2)) (k1 := (k + 2)) (kd_3_1 hk2) (kd_3_1 hk) (by decide) (fun _ _ => rfl) (by decide) (Nat.le_of_ble_eq_true rfl) (Nat.le_of_ble_eq_true rfl) dX3_becomeLike_29 (fun u2 H locs hu2 hP hD hS => ?_)
  refine lv_aload_n hx hb dX3_becomeLike_32 rfl (lv_at hl 1 rfl) ?_
  refine g_get (κ := 3) (ci := 3) (v := .ref (ad (k2 + 3))) (C := RX3) (T := TX3) (N := 3) hx hb hts hown hK hP (k := k2) hk2 (by decide) rfl (fun _ h => List.mem_cons_of_mem _ (List.mem_append_right _ h)) rfl 2 (by decide) (hts _ (List.mem_of_getElem? (i := 7) rfl)) (fun _ h9 => h9) rfl dX3_becomeLike_33 ?_
  refine lv_iconst (v := nI 0) hx hb dX3_becomeLike_36 (by decide) ?_
  refine lv_aload_n hx hb dX3_becomeLike_37 rfl (lv_at hl 0 rfl) ?_
  refine g_get (κ := 3) (ci := 3) (v := .ref (ad (k + 3))) (C := RX3) (T := TX3) (N := 3) hx hb hts hown hK hP (k := k) hk (by decide) rfl (fun _ h => List.mem_cons_of_mem _ (List.mem_append_right _ h)) rfl 2 (by decide) (hts _ (List.mem_of_getElem? (i := 7) rfl)) (fun _ h9 => h9) rfl dX3_becomeLike_38 ?_
  refine lv_iconst (v := nI 0) hx hb dX3_becomeLike_41 (by decide) ?_
  refine lv_sipush (v := nI 256) hx hb dX3_becomeLike_42 (by decide) ?_
  refine g_copy (len := 256) hx hb (hml.trans hl.1.symm) hown (hts _ (List.mem_of_getElem? (i := 2) rfl)) (hts _ (List.mem_of_getElem? (i := 3) rfl)) (hts _ (List.mem_of_getElem? (i := 4) rfl)) (hts _ (List.mem_of_getElem? (i := 5) rfl)) hK hP hD hS (k0 := (k2 + 3)) (k1 := (k + 3)) (kd_3_2 hk2) (kd_3_2 hk) (by decide) (fun _ _ => rfl) (by decide) (Nat.le_of_ble_eq_true rfl) (Nat.le_of_ble_eq_true rfl) dX3_becomeLike_45 (fun u3 H locs hu3 hP hD hS => ?_)
  exact g_vret hx hb hr hlocks hP hD hS (by subst hu1; subst hu2; subst hu3; simp only [m_X3_becomeLike]) dX3_becomeLike_48

def m_X4_becomeLike (I : Mm) (k : Nat) (k2 : Nat) : Mm := (wr (wrA (wr (wr (wr (wr (wr (wr I k 0 (I k2 0)) k 1 ((wr I k 0 (I k2 0)) k2 1)) k 2 ((wr (wr I k 0 (I k2 0)) k 1 ((wr I k 0 (I k2 0)) k2 1)) k2 2)) k 3 ((wr (wr (wr I k 0 (I k2 0)) k 1 ((wr I k 0 (I k2 0)) k2 1)) k 2 ((wr (wr I k 0 (I k2 0)) k 1 ((wr I k 0 (I k2 0)) k2 1)) k2 2)) k2 3)) k 4 ((wr (wr (wr (wr I k 0 (I k2 0)) k 1 ((wr I k 0 (I k2 0)) k2 1)) k 2 ((wr (wr I k 0 (I k2 0)) k 1 ((wr I k 0 (I k2 0)) k2 1)) k2 2)) k 3 ((wr (wr (wr I k 0 (I k2 0)) k 1 ((wr I k 0 (I k2 0)) k2 1)) k 2 ((wr (wr I k 0 (I k2 0)) k 1 ((wr I k 0 (I k2 0)) k2 1)) k2 2)) k2 3)) k2 4)) k 5 ((wr (wr (wr (wr (wr I k 0 (I k2 0)) k 1 ((wr I k 0 (I k2 0)) k2 1)) k 2 ((wr (wr I k 0 (I k2 0)) k 1 ((wr I k 0 (I k2 0)) k2 1)) k2 2)) k 3 ((wr (wr (wr I k 0 (I k2 0)) k 1 ((wr I k 0 (I k2 0)) k2 1)) k 2 ((wr (wr I k 0 (I k2 0)) k 1 ((wr I k 0 (I k2 0)) k2 1)) k2 2)) k2 3)) k 4 ((wr (wr (wr (wr I k 0 (I k2 0)) k 1 ((wr I k 0 (I k2 0)) k2 1)) k 2 ((wr (wr I k 0 (I k2 0)) k 1 ((wr I k 0 (I k2 0)) k2 1)) k2 2)) k 3 ((wr (wr (wr I k 0 (I k2 0)) k 1 ((wr I k 0 (I k2 0)) k2 1)) k 2 ((wr (wr I k 0 (I k2 0)) k 1 ((wr I k 0 (I k2 0)) k2 1)) k2 2)) k2 3)) k2 4)) k2 5)) (k + 8) (cpy ((wr (wr (wr (wr (wr (wr I k 0 (I k2 0)) k 1 ((wr I k 0 (I k2 0)) k2 1)) k 2 ((wr (wr I k 0 (I k2 0)) k 1 ((wr I k 0 (I k2 0)) k2 1)) k2 2)) k 3 ((wr (wr (wr I k 0 (I k2 0)) k 1 ((wr I k 0 (I k2 0)) k2 1)) k 2 ((wr (wr I k 0 (I k2 0)) k 1 ((wr I k 0 (I k2 0)) k2 1)) k2 2)) k2 3)) k 4 ((wr (wr (wr (wr I k 0 (I k2 0)) k 1 ((wr I k 0 (I k2 0)) k2 1)) k 2 ((wr (wr I k 0 (I k2 0)) k 1 ((wr I k 0 (I k2 0)) k2 1)) k2 2)) k 3 ((wr (wr (wr I k 0 (I k2 0)) k 1 ((wr I k 0 (I k2 0)) k2 1)) k 2 ((wr (wr I k 0 (I k2 0)) k 1 ((wr I k 0 (I k2 0)) k2 1)) k2 2)) k2 3)) k2 4)) k 5 ((wr (wr (wr (wr (wr I k 0 (I k2 0)) k 1 ((wr I k 0 (I k2 0)) k2 1)) k 2 ((wr (wr I k 0 (I k2 0)) k 1 ((wr I k 0 (I k2 0)) k2 1)) k2 2)) k 3 ((wr (wr (wr I k 0 (I k2 0)) k 1 ((wr I k 0 (I k2 0)) k2 1)) k 2 ((wr (wr I k 0 (I k2 0)) k 1 ((wr I k 0 (I k2 0)) k2 1)) k2 2)) k2 3)) k 4 ((wr (wr (wr (wr I k 0 (I k2 0)) k 1 ((wr I k 0 (I k2 0)) k2 1)) k 2 ((wr (wr I k 0 (I k2 0)) k 1 ((wr I k 0 (I k2 0)) k2 1)) k2 2)) k 3 ((wr (wr (wr I k 0 (I k2 0)) k 1 ((wr I k 0 (I k2 0)) k2 1)) k 2 ((wr (wr I k 0 (I k2 0)) k 1 ((wr I k 0 (I k2 0)) k2 1)) k2 2)) k2 3)) k2 4)) k2 5)) (k2 + 8)) ((wr (wr (wr (wr (wr (wr I k 0 (I k2 0)) k 1 ((wr I k 0 (I k2 0)) k2 1)) k 2 ((wr (wr I k 0 (I k2 0)) k 1 ((wr I k 0 (I k2 0)) k2 1)) k2 2)) k 3 ((wr (wr (wr I k 0 (I k2 0)) k 1 ((wr I k 0 (I k2 0)) k2 1)) k 2 ((wr (wr I k 0 (I k2 0)) k 1 ((wr I k 0 (I k2 0)) k2 1)) k2 2)) k2 3)) k 4 ((wr (wr (wr (wr I k 0 (I k2 0)) k 1 ((wr I k 0 (I k2 0)) k2 1)) k 2 ((wr (wr I k 0 (I k2 0)) k 1 ((wr I k 0 (I k2 0)) k2 1)) k2 2)) k 3 ((wr (wr (wr I k 0 (I k2 0)) k 1 ((wr I k 0 (I k2 0)) k2 1)) k 2 ((wr (wr I k 0 (I k2 0)) k 1 ((wr I k 0 (I k2 0)) k2 1)) k2 2)) k2 3)) k2 4)) k 5 ((wr (wr (wr (wr (wr I k 0 (I k2 0)) k 1 ((wr I k 0 (I k2 0)) k2 1)) k 2 ((wr (wr I k 0 (I k2 0)) k 1 ((wr I k 0 (I k2 0)) k2 1)) k2 2)) k 3 ((wr (wr (wr I k 0 (I k2 0)) k 1 ((wr I k 0 (I k2 0)) k2 1)) k 2 ((wr (wr I k 0 (I k2 0)) k 1 ((wr I k 0 (I k2 0)) k2 1)) k2 2)) k2 3)) k 4 ((wr (wr (wr (wr I k 0 (I k2 0)) k 1 ((wr I k 0 (I k2 0)) k2 1)) k 2 ((wr (wr I k 0 (I k2 0)) k 1 ((wr I k 0 (I k2 0)) k2 1)) k2 2)) k 3 ((wr (wr (wr I k 0 (I k2 0)) k 1 ((wr I k 0 (I k2 0)) k2 1)) k 2 ((wr (wr I k 0 (I k2 0)) k 1 ((wr I k 0 (I k2 0)) k2 1)) k2 2)) k2 3)) k2 4)) k2 5)) (k + 8)) 24)) k 7 ((wrA (wr (wr (wr (wr (wr (wr I k 0 (I k2 0)) k 1 ((wr I k 0 (I k2 0)) k2 1)) k 2 ((wr (wr I k 0 (I k2 0)) k 1 ((wr I k 0 (I k2 0)) k2 1)) k2 2)) k 3 ((wr (wr (wr I k 0 (I k2 0)) k 1 ((wr I k 0 (I k2 0)) k2 1)) k 2 ((wr (wr I k 0 (I k2 0)) k 1 ((wr I k 0 (I k2 0)) k2 1)) k2 2)) k2 3)) k 4 ((wr (wr (wr (wr I k 0 (I k2 0)) k 1 ((wr I k 0 (I k2 0)) k2 1)) k 2 ((wr (wr I k 0 (I k2 0)) k 1 ((wr I k 0 (I k2 0)) k2 1)) k2 2)) k 3 ((wr (wr (wr I k 0 (I k2 0)) k 1 ((wr I k 0 (I k2 0)) k2 1)) k 2 ((wr (wr I k 0 (I k2 0)) k 1 ((wr I k 0 (I k2 0)) k2 1)) k2 2)) k2 3)) k2 4)) k 5 ((wr (wr (wr (wr (wr I k 0 (I k2 0)) k 1 ((wr I k 0 (I k2 0)) k2 1)) k 2 ((wr (wr I k 0 (I k2 0)) k 1 ((wr I k 0 (I k2 0)) k2 1)) k2 2)) k 3 ((wr (wr (wr I k 0 (I k2 0)) k 1 ((wr I k 0 (I k2 0)) k2 1)) k 2 ((wr (wr I k 0 (I k2 0)) k 1 ((wr I k 0 (I k2 0)) k2 1)) k2 2)) k2 3)) k 4 ((wr (wr (wr (wr I k 0 (I k2 0)) k 1 ((wr I k 0 (I k2 0)) k2 1)) k 2 ((wr (wr I k 0 (I k2 0)) k 1 ((wr I k 0 (I k2 0)) k2 1)) k2 2)) k 3 ((wr (wr (wr I k 0 (I k2 0)) k 1 ((wr I k 0 (I k2 0)) k2 1)) k 2 ((wr (wr I k 0 (I k2 0)) k 1 ((wr I k 0 (I k2 0)) k2 1)) k2 2)) k2 3)) k2 4)) k2 5)) (k + 8) (cpy ((wr (wr (wr (wr (wr (wr I k 0 (I k2 0)) k 1 ((wr I k 0 (I k2 0)) k2 1)) k 2 ((wr (wr I k 0 (I k2 0)) k 1 ((wr I k 0 (I k2 0)) k2 1)) k2 2)) k 3 ((wr (wr (wr I k 0 (I k2 0)) k 1 ((wr I k 0 (I k2 0)) k2 1)) k 2 ((wr (wr I k 0 (I k2 0)) k 1 ((wr I k 0 (I k2 0)) k2 1)) k2 2)) k2 3)) k 4 ((wr (wr (wr (wr I k 0 (I k2 0)) k 1 ((wr I k 0 (I k2 0)) k2 1)) k 2 ((wr (wr I k 0 (I k2 0)) k 1 ((wr I k 0 (I k2 0)) k2 1)) k2 2)) k 3 ((wr (wr (wr I k 0 (I k2 0)) k 1 ((wr I k 0 (I k2 0)) k2 1)) k 2 ((wr (wr I k 0 (I k2 0)) k 1 ((wr I k 0 (I k2 0)) k2 1)) k2 2)) k2 3)) k2 4)) k 5 ((wr (wr (wr (wr (wr I k 0 (I k2 0)) k 1 ((wr I k 0 (I k2 0)) k2 1)) k 2 ((wr (wr I k 0 (I k2 0)) k 1 ((wr I k 0 (I k2 0)) k2 1)) k2 2)) k 3 ((wr (wr (wr I k 0 (I k2 0)) k 1 ((wr I k 0 (I k2 0)) k2 1)) k 2 ((wr (wr I k 0 (I k2 0)) k 1 ((wr I k 0 (I k2 0)) k2 1)) k2 2)) k2 3)) k 4 ((wr (wr (wr (wr I k 0 (I k2 0)) k 1 ((wr I k 0 (I k2 0)) k2 1)) k 2 ((wr (wr I k 0 (I k2 0)) k 1 ((wr I k 0 (I k2 0)) k2 1)) k2 2)) k 3 ((wr (wr (wr I k 0 (I k2 0)) k 1 ((wr I k 0 (I k2 0)) k2 1)) k 2 ((wr (wr I k 0 (I k2 0)) k 1 ((wr I k 0 (I k2 0)) k2 1)) k2 2)) k2 3)) k2 4)) k2 5)) (k2 + 8)) ((wr (wr (wr (wr (wr (wr I k 0 (I k2 0)) k 1 ((wr I k 0 (I k2 0)) k2 1)) k 2 ((wr (wr I k 0 (I k2 0)) k 1 ((wr I k 0 (I k2 0)) k2 1)) k2 2)) k 3 ((wr (wr (wr I k 0 (I k2 0)) k 1 ((wr I k 0 (I k2 0)) k2 1)) k 2 ((wr (wr I k 0 (I k2 0)) k 1 ((wr I k 0 (I k2 0)) k2 1)) k2 2)) k2 3)) k 4 ((wr (wr (wr (wr I k 0 (I k2 0)) k 1 ((wr I k 0 (I k2 0)) k2 1)) k 2 ((wr (wr I k 0 (I k2 0)) k 1 ((wr I k 0 (I k2 0)) k2 1)) k2 2)) k 3 ((wr (wr (wr I k 0 (I k2 0)) k 1 ((wr I k 0 (I k2 0)) k2 1)) k 2 ((wr (wr I k 0 (I k2 0)) k 1 ((wr I k 0 (I k2 0)) k2 1)) k2 2)) k2 3)) k2 4)) k 5 ((wr (wr (wr (wr (wr I k 0 (I k2 0)) k 1 ((wr I k 0 (I k2 0)) k2 1)) k 2 ((wr (wr I k 0 (I k2 0)) k 1 ((wr I k 0 (I k2 0)) k2 1)) k2 2)) k 3 ((wr (wr (wr I k 0 (I k2 0)) k 1 ((wr I k 0 (I k2 0)) k2 1)) k 2 ((wr (wr I k 0 (I k2 0)) k 1 ((wr I k 0 (I k2 0)) k2 1)) k2 2)) k2 3)) k 4 ((wr (wr (wr (wr I k 0 (I k2 0)) k 1 ((wr I k 0 (I k2 0)) k2 1)) k 2 ((wr (wr I k 0 (I k2 0)) k 1 ((wr I k 0 (I k2 0)) k2 1)) k2 2)) k 3 ((wr (wr (wr I k 0 (I k2 0)) k 1 ((wr I k 0 (I k2 0)) k2 1)) k 2 ((wr (wr I k 0 (I k2 0)) k 1 ((wr I k 0 (I k2 0)) k2 1)) k2 2)) k2 3)) k2 4)) k2 5)) (k + 8)) 24)) k2 7))
set_option maxHeartbeats 4000000 in
set_option maxRecDepth 100000 in
theorem c_X4_becomeLike (l : Launch) (D : va_G) (cs : Nat → ClassId) (ad : Nat → Nat) (I : Mm) (sz : Nat) (k : Nat) (hk : kC.getD k 0 = 6) (k2 : Nat) (hk2 : kC.getD k2 0 = 6) (hne : k2 ≠ k) (hbo : I k2 4 = 0 ∨ I k2 4 = 1) : MetN l yX4_becomeLike wsX4_becomeLike ({ frames := 1, cells := 0, slots := 0, locals := 18 }) kC cs D ad I sz [.ref (ad k), .ref (ad k2)] (fun u => u = m_X4_becomeLike I k k2) 0 0 := by
  refine g_met (cc := cX4_becomeLike) (maxL := 2) (ret := none) (by decide) rfl (Nat.le_of_ble_eq_true rfl) ?_
  intro pg e s m args below meth c ls hx hb hr hml hts hown hlocks hsz hP hD hK hN hS hA hl
  have hown : s.vm.findClass RX4 = some m.cls := hown
  have hl : lv_has ls 2 [(0, .ref (ad k)), (1, .ref (ad k2))] := hl
  refine lv_aload_n hx hb dX4_becomeLike_0 rfl (lv_at hl 0 rfl) ?_
  refine lv_aload_n hx hb dX4_becomeLike_1 rfl (lv_at hl 1 rfl) ?_
  refine g_get (κ := 6) (ci := 4) (v := .int (I k2 0)) (C := RX4) (T := TX4) (N := 8) hx hb hts hown hK hP (k := k2) hk2 (by decide) rfl (fun _ h => List.mem_cons_of_mem _ (List.mem_append_right _ h)) rfl 0 (by decide) (hts _ (List.mem_of_getElem? (i := 1) rfl)) (fun _ h9 => h9) rfl dX4_becomeLike_2 ?_
  refine g_put (κ := 6) (ci := 4) (v := I k2 0) (ty := .int) (C := RX4) (T := TX4) (N := 8) hx hb hts hown hK hP hD hS (k := k) hk (by decide) rfl (fun _ h => List.mem_cons_of_mem _ (List.mem_append_right _ h)) tyX4 tyX4_ok nmX4 rfl 0 (by decide) (hts _ (List.mem_of_getElem? (i := 1) rfl)) (fun _ h9 => h9) rfl (by decide +kernel) rfl rfl (Nat.le_of_ble_eq_true rfl) rfl dX4_becomeLike_5 (fun u1 H locs hu1 hP hD hS => ?_)
  refine lv_aload_n hx hb dX4_becomeLike_8 rfl (lv_at hl 0 rfl) ?_
  refine lv_aload_n hx hb dX4_becomeLike_9 rfl (lv_at hl 1 rfl) ?_
  refine g_get (κ := 6) (ci := 4) (v := .int (u1 k2 1)) (C := RX4) (T := TX4) (N := 8) hx hb hts hown hK hP (k := k2) hk2 (by decide) rfl (fun _ h => List.mem_cons_of_mem _ (List.mem_append_right _ h)) rfl 1 (by decide) (hts _ (List.mem_of_getElem? (i := 2) rfl)) (fun _ h9 => h9) rfl dX4_becomeLike_10 ?_
  refine g_put (κ := 6) (ci := 4) (v := u1 k2 1) (ty := .int) (C := RX4) (T := TX4) (N := 8) hx hb hts hown hK hP hD hS (k := k) hk (by decide) rfl (fun _ h => List.mem_cons_of_mem _ (List.mem_append_right _ h)) tyX4 tyX4_ok nmX4 rfl 1 (by decide) (hts _ (List.mem_of_getElem? (i := 2) rfl)) (fun _ h9 => h9) rfl (by decide +kernel) rfl rfl (Nat.le_of_ble_eq_true rfl) rfl dX4_becomeLike_13 (fun u2 H locs hu2 hP hD hS => ?_)
  refine lv_aload_n hx hb dX4_becomeLike_16 rfl (lv_at hl 0 rfl) ?_
  refine lv_aload_n hx hb dX4_becomeLike_17 rfl (lv_at hl 1 rfl) ?_
  refine g_get (κ := 6) (ci := 4) (v := .int (u2 k2 2)) (C := RX4) (T := TX4) (N := 8) hx hb hts hown hK hP (k := k2) hk2 (by decide) rfl (fun _ h => List.mem_cons_of_mem _ (List.mem_append_right _ h)) rfl 2 (by decide) (hts _ (List.mem_of_getElem? (i := 3) rfl)) (fun _ h9 => h9) rfl dX4_becomeLike_18 ?_
  refine g_put (κ := 6) (ci := 4) (v := u2 k2 2) (ty := .int) (C := RX4) (T := TX4) (N := 8) hx hb hts hown hK hP hD hS (k := k) hk (by decide) rfl (fun _ h => List.mem_cons_of_mem _ (List.mem_append_right _ h)) tyX4 tyX4_ok nmX4 rfl 2 (by decide) (hts _ (List.mem_of_getElem? (i := 3) rfl)) (fun _ h9 => h9) rfl (by decide +kernel) rfl rfl (Nat.le_of_ble_eq_true rfl) rfl dX4_becomeLike_21 (fun u3 H locs hu3 hP hD hS => ?_)
  refine lv_aload_n hx hb dX4_becomeLike_24 rfl (lv_at hl 0 rfl) ?_
  refine lv_aload_n hx hb dX4_becomeLike_25 rfl (lv_at hl 1 rfl) ?_
  refine g_get (κ := 6) (ci := 4) (v := .int (u3 k2 3)) (C := RX4) (T := TX4) (N := 8) hx hb hts hown hK hP (k := k2) hk2 (by decide) rfl (fun _ h => List.mem_cons_of_mem _ (List.mem_append_right _ h)) rfl 3 (by decide) (hts _ (List.mem_of_getElem? (i := 4) rfl)) (fun _ h9 => h9) rfl dX4_becomeLike_26 ?_
  refine g_put (κ := 6) (ci := 4) (v := u3 k2 3) (ty := .int) (C := RX4) (T := TX4) (N := 8) hx hb hts hown hK hP hD hS (k := k) hk (by decide) rfl (fun _ h => List.mem_cons_of_mem _ (List.mem_append_right _ h)) tyX4 tyX4_ok nmX4 rfl 3 (by decide) (hts _ (List.mem_of_getElem? (i := 4) rfl)) (fun _ h9 => h9) rfl (by decide +kernel) rfl rfl (Nat.le_of_ble_eq_true rfl) rfl dX4_becomeLike_29 (fun u4 H locs hu4 hP hD hS => ?_)
  refine lv_aload_n hx hb dX4_becomeLike_32 rfl (lv_at hl 0 rfl) ?_
  refine lv_aload_n hx hb dX4_becomeLike_33 rfl (lv_at hl 1 rfl) ?_
  refine g_get (κ := 6) (ci := 4) (v := .int (u4 k2 4)) (C := RX4) (T := TX4) (N := 8) hx hb hts hown hK hP (k := k2) hk2 (by decide) rfl (fun _ h => List.mem_cons_of_mem _ (List.mem_append_right _ h)) rfl 4 (by decide) (hts _ (List.mem_of_getElem? (i := 5) rfl)) (fun _ h9 => h9) rfl dX4_becomeLike_34 ?_
  refine g_put (κ := 6) (ci := 4) (v := u4 k2 4) (ty := .boolean) (C := RX4) (T := TX4) (N := 8) hx hb hts hown hK hP hD hS (k := k) hk (by decide) rfl (fun _ h => List.mem_cons_of_mem _ (List.mem_append_right _ h)) tyX4 tyX4_ok nmX4 rfl 4 (by decide) (hts _ (List.mem_of_getElem? (i := 5) rfl)) (fun _ h9 => h9) rfl (by decide +kernel) (bo_nar (by rw [hu4, wr_n _ _ _ hne, hu3, wr_n _ _ _ hne, hu2, wr_n _ _ _ hne, hu1, wr_n _ _ _ hne]; exact hbo)) (bo_fit (by rw [hu4, wr_n _ _ _ hne, hu3, wr_n _ _ _ hne, hu2, wr_n _ _ _ hne, hu1, wr_n _ _ _ hne]; exact hbo)) (Nat.le_of_ble_eq_true rfl) rfl dX4_becomeLike_37 (fun u5 H locs hu5 hP hD hS => ?_)
  refine lv_aload_n hx hb dX4_becomeLike_40 rfl (lv_at hl 0 rfl) ?_
  refine lv_aload_n hx hb dX4_becomeLike_41 rfl (lv_at hl 1 rfl) ?_
  refine g_get (κ := 6) (ci := 4) (v := .int (u5 k2 5)) (C := RX4) (T := TX4) (N := 8) hx hb hts hown hK hP (k := k2) hk2 (by decide) rfl (fun _ h => List.mem_cons_of_mem _ (List.mem_append_right _ h)) rfl 5 (by decide) (hts _ (List.mem_of_getElem? (i := 6) rfl)) (fun _ h9 => h9) rfl dX4_becomeLike_42 ?_
  refine g_put (κ := 6) (ci := 4) (v := u5 k2 5) (ty := .int) (C := RX4) (T := TX4) (N := 8) hx hb hts hown hK hP hD hS (k := k) hk (by decide) rfl (fun _ h => List.mem_cons_of_mem _ (List.mem_append_right _ h)) tyX4 tyX4_ok nmX4 rfl 5 (by decide) (hts _ (List.mem_of_getElem? (i := 6) rfl)) (fun _ h9 => h9) rfl (by decide +kernel) rfl rfl (Nat.le_of_ble_eq_true rfl) rfl dX4_becomeLike_45 (fun u6 H locs hu6 hP hD hS => ?_)
  refine lv_aload_n hx hb dX4_becomeLike_48 rfl (lv_at hl 1 rfl) ?_
  refine g_get (κ := 6) (ci := 4) (v := .ref (ad (k2 + 8))) (C := RX4) (T := TX4) (N := 8) hx hb hts hown hK hP (k := k2) hk2 (by decide) rfl (fun _ h => List.mem_cons_of_mem _ (List.mem_append_right _ h)) rfl 6 (by decide) (hts _ (List.mem_of_getElem? (i := 7) rfl)) (fun _ h9 => h9) rfl dX4_becomeLike_49 ?_
  refine lv_iconst (v := nI 0) hx hb dX4_becomeLike_52 (by decide) ?_
  refine lv_aload_n hx hb dX4_becomeLike_53 rfl (lv_at hl 0 rfl) ?_
  refine g_get (κ := 6) (ci := 4) (v := .ref (ad (k + 8))) (C := RX4) (T := TX4) (N := 8) hx hb hts hown hK hP (k := k) hk (by decide) rfl (fun _ h => List.mem_cons_of_mem _ (List.mem_append_right _ h)) rfl 6 (by decide) (hts _ (List.mem_of_getElem? (i := 7) rfl)) (fun _ h9 => h9) rfl dX4_becomeLike_54 ?_
  refine lv_iconst (v := nI 0) hx hb dX4_becomeLike_57 (by decide) ?_
  refine lv_bipush (v := nI 24) hx hb dX4_becomeLike_58 (by decide) ?_
  refine g_copy (len := 24) hx hb (hml.trans hl.1.symm) hown (hts _ (List.mem_of_getElem? (i := 8) rfl)) (hts _ (List.mem_of_getElem? (i := 9) rfl)) (hts _ (List.mem_of_getElem? (i := 10) rfl)) (hts _ (List.mem_of_getElem? (i := 11) rfl)) hK hP hD hS (k0 := (k2 + 8)) (k1 := (k + 8)) (kd_6_6 hk2) (kd_6_6 hk) (by decide) (fun _ _ => rfl) (by decide) (Nat.le_of_ble_eq_true rfl) (Nat.le_of_ble_eq_true rfl) dX4_becomeLike_60 (fun u7 H locs hu7 hP hD hS => ?_)
  refine lv_aload_n hx hb dX4_becomeLike_63 rfl (lv_at hl 0 rfl) ?_
  refine lv_aload_n hx hb dX4_becomeLike_64 rfl (lv_at hl 1 rfl) ?_
  refine g_get (κ := 6) (ci := 4) (v := .int (u7 k2 7)) (C := RX4) (T := TX4) (N := 8) hx hb hts hown hK hP (k := k2) hk2 (by decide) rfl (fun _ h => List.mem_cons_of_mem _ (List.mem_append_right _ h)) rfl 7 (by decide) (hts _ (List.mem_of_getElem? (i := 12) rfl)) (fun _ h9 => h9) rfl dX4_becomeLike_65 ?_
  refine g_put (κ := 6) (ci := 4) (v := u7 k2 7) (ty := .int) (C := RX4) (T := TX4) (N := 8) hx hb hts hown hK hP hD hS (k := k) hk (by decide) rfl (fun _ h => List.mem_cons_of_mem _ (List.mem_append_right _ h)) tyX4 tyX4_ok nmX4 rfl 7 (by decide) (hts _ (List.mem_of_getElem? (i := 12) rfl)) (fun _ h9 => h9) rfl (by decide +kernel) rfl rfl (Nat.le_of_ble_eq_true rfl) rfl dX4_becomeLike_68 (fun u8 H locs hu8 hP hD hS => ?_)
  exact g_vret hx hb hr hlocks hP hD hS (by subst hu1; subst hu2; subst hu3; subst hu4; subst hu5; subst hu6; subst hu7; subst hu8; simp only [m_X4_becomeLike]) dX4_becomeLike_71

def addO (I : Mm) (k w : Nat) (o : Int32) : Nat → Mm
  | 0 => I
  | n + 1 => wr (wr (addO I k w o n) (k + 8) (w + n) o) k 7 (nI (w + n + 1))
theorem addO_7 {I : Mm} {k w : Nat} {o : Int32} (h : I k 7 = nI w) : ∀ n, addO I k w o n k 7 = nI (w + n)
  | 0 => h
  | n + 1 => wr_ss _ _ _ _
def shO (I : Mm) (k n : Nat) : Mm := wrA I (k + 8) (fun j => if j + 1 < n then I (k + 8) (j + 1) else I (k + 8) j)
theorem shO_1 (I : Mm) (k : Nat) : shO I k 1 = I := by
  funext a b
  simp only [shO, wrA]
  split
  · rename_i h; subst h; simp
  · rfl
theorem shO_k (I : Mm) (k n : Nat) : shO I k n k = I k := wrA_n _ _ (by omega)
theorem shO_s {I : Mm} {k n : Nat} (h : 1 ≤ n) : shO I k (n + 1) = wr (shO I k n) (k + 8) (n - 1) (shO I k n (k + 8) n) := by
  funext a b
  simp only [shO, wr, wrA, upd]
  by_cases ha : a = k + 8
  · subst ha
    simp only [if_true, upd_ap]
    by_cases hb : b = n - 1
    · subst hb
      rw [if_pos (by omega), if_pos rfl, if_neg (by omega), show n - 1 + 1 = n from by omega]
    · rw [if_neg hb]
      by_cases hc : b + 1 < n
      · rw [if_pos hc, if_pos (by omega)]
      · rw [if_neg hc, if_neg (by omega)]
  · simp [ha]
def m_X4_dropFirstOrder (I : Mm) (k w : Nat) : Mm := if 0 < w then wr (shO I k w) k 7 (nI (w - 1)) else I

set_option maxHeartbeats 4000000 in
set_option maxRecDepth 100000 in
theorem c_X4_addOrders (l : Launch) (D : va_G) (cs : Nat → ClassId) (ad : Nat → Nat) (I : Mm) (sz : Nat) (k : Nat) (hk : kC.getD k 0 = 6) (o : Int32) (t : Nat) (w : Nat) (hw : I k 7 = nI w) (hwt : w + t ≤ 24) : MetN l yX4_addOrders wsX4_addOrders ({ frames := 0, cells := 0, slots := 0, locals := 0 }) kC cs D ad I sz [.ref (ad k), .int o, .int (nI t)] (fun u => u = addO I k w o t) 0 0 := by
  refine g_met (cc := cX4_addOrders) (maxL := 4) (ret := none) (by decide) rfl (Nat.le_of_ble_eq_true rfl) ?_
  intro pg e s m args below meth c ls hx hb hr hml hts hown hlocks hsz hP hD hK hN hS hA hl
  have hown : s.vm.findClass RX4 = some m.cls := hown
  have hl : lv_has ls 4 [(0, .ref (ad k)), (1, .int o), (2, .int (nI t))] := hl
  refine lv_iconst (v := nI 0) hx hb dX4_addOrders_0 (by decide) ?_
  refine lv_istore_n (lv' := [(3, .int (nI 0)), (0, .ref (ad k)), (1, .int o), (2, .int (nI t))]) hx hb dX4_addOrders_1 rfl hl (by decide) rfl (fun ls hl => ?_)
  suffices KL2 : ∀ (fuel : Nat) (i : Nat) (u : Mm) (H : Heap) (locs : List Loc) (ls : Array Slot), (i ≤ t) → (u = addO I k w o i) → t - i < fuel → va_P D vwCl (gw kC cs ad u) H → va_D (gA kC ad sz) (gw kC cs ad u) → va_S (gA kC ad sz) s.heap H locs → lv_has ls 4 [(3, .int (nI i)), (0, .ref (ad k)), (1, .int o), (2, .int (nI t))] → W pg l e ({ frames := 0, cells := 0, slots := 0, locals := 0 }) s m args below meth c H locs 0 0 (MQ below (va_Qv (fun u => u = addO I k w o t) (wat kC cs D ad (gA kC ad sz)) (gA kC ad sz)) args s 0 0 (gA kC ad sz)) (F0 m 2 ls []) from KL2 _ 0 I _ _ _ (by omega) rfl (Nat.lt_succ_self _) hP hD hS (lv_sub hl [0, 1, 2, 3] rfl)
  intro fuel2
  induction fuel2 with
  | zero => intro _ _ _ _ _ _ _ hm; exact absurd hm (Nat.not_lt_zero _)
  | succ fuel2 ih2 =>
    intro i u H locs ls hi hu hm2 hP hD hS hl
    refine lv_iload_n hx hb dX4_addOrders_2 rfl (lv_at hl 0 rfl) ?_
    refine lv_iload_n hx hb dX4_addOrders_3 rfl (lv_at hl 3 rfl) ?_
    refine lv_icmp_ge (tgt := 42) hx hb dX4_addOrders_4 (by decide) (fun c_1 => ?_) (fun c_1 => ?_)
    · skip
      have nc_1 : t ≤ i := (nI_leI (a := t) (b := i) (by omega) (by omega)).mp c_1
      exact g_vret hx hb hr hlocks hP hD hS (by rw [hu, show i = t from by omega]) dX4_addOrders_42
    · skip
      have nc_1 : ¬ t ≤ i := fun z9_ => c_1 ((nI_leI (a := t) (b := i) (by omega) (by omega)).mpr z9_)
      refine lv_aload_n hx hb dX4_addOrders_7 rfl (lv_at hl 1 rfl) ?_
      refine g_get (κ := 6) (ci := 4) (v := .int (u k 7)) (C := RX4) (T := TX4) (N := 8) hx hb hts hown hK hP (k := k) hk (by decide) rfl (fun _ h => List.mem_cons_of_mem _ (List.mem_append_right _ h)) rfl 7 (by decide) (hts _ (List.mem_of_getElem? (i := 1) rfl)) (fun _ h9 => h9) rfl dX4_addOrders_8 ?_
      rw [show u k 7 = nI (w + i) from (by rw [hu]; exact addO_7 hw i)]
      refine lv_bipush (v := nI 24) hx hb dX4_addOrders_11 (by decide) ?_
      refine lv_icmp_ge (tgt := 42) hx hb dX4_addOrders_13 (by decide) (fun c_2 => ?_) (fun c_2 => ?_)
      · skip
        have nc_2 : 24 ≤ (w + i) := (nI_leI (a := 24) (b := (w + i)) (by omega) (by omega)).mp c_2
        exact g_vret hx hb hr hlocks hP hD hS (by rw [hu, show i = t from by omega]) dX4_addOrders_42
      · skip
        have nc_2 : ¬ 24 ≤ (w + i) := fun z9_ => c_2 ((nI_leI (a := 24) (b := (w + i)) (by omega) (by omega)).mpr z9_)
        refine lv_aload_n hx hb dX4_addOrders_16 rfl (lv_at hl 1 rfl) ?_
        refine g_get (κ := 6) (ci := 4) (v := .ref (ad (k + 8))) (C := RX4) (T := TX4) (N := 8) hx hb hts hown hK hP (k := k) hk (by decide) rfl (fun _ h => List.mem_cons_of_mem _ (List.mem_append_right _ h)) rfl 6 (by decide) (hts _ (List.mem_of_getElem? (i := 2) rfl)) (fun _ h9 => h9) rfl dX4_addOrders_17 ?_
        refine lv_aload_n hx hb dX4_addOrders_20 rfl (lv_at hl 1 rfl) ?_
        refine g_get (κ := 6) (ci := 4) (v := .int (u k 7)) (C := RX4) (T := TX4) (N := 8) hx hb hts hown hK hP (k := k) hk (by decide) rfl (fun _ h => List.mem_cons_of_mem _ (List.mem_append_right _ h)) rfl 7 (by decide) (hts _ (List.mem_of_getElem? (i := 1) rfl)) (fun _ h9 => h9) rfl dX4_addOrders_21 ?_
        rw [show u k 7 = nI (w + i) from (by rw [hu]; exact addO_7 hw i)]
        refine lv_iload_n hx hb dX4_addOrders_24 rfl (lv_at hl 2 rfl) ?_
        refine g_iastn (n := 24) (i := (w + i)) hx hb hK hP hD hS (k := (k + 8)) (kd_6_6 hk) (by decide) (fun _ => rfl) (by omega) (by decide) dX4_addOrders_25 (fun u3 H locs hu3 hP hD hS => ?_)
        refine lv_aload_n hx hb dX4_addOrders_26 rfl (lv_at hl 1 rfl) ?_
        refine lv_dup hx hb dX4_addOrders_27 rfl ?_
        refine g_get (κ := 6) (ci := 4) (v := .int (u3 k 7)) (C := RX4) (T := TX4) (N := 8) hx hb hts hown hK hP (k := k) hk (by decide) rfl (fun _ h => List.mem_cons_of_mem _ (List.mem_append_right _ h)) rfl 7 (by decide) (hts _ (List.mem_of_getElem? (i := 1) rfl)) (fun _ h9 => h9) rfl dX4_addOrders_28 ?_
        rw [show u3 k 7 = nI (w + i) from (by rw [hu3, wr_n _ _ _ (by omega), hu]; exact addO_7 hw i)]
        refine lv_iconst (v := nI 1) hx hb dX4_addOrders_31 (by decide) ?_
        refine lv_iadd hx hb dX4_addOrders_32 ?_
        rw [nI_add (w + i) 1]
        refine g_put (κ := 6) (ci := 4) (v := nI ((w + i) + 1)) (ty := .int) (C := RX4) (T := TX4) (N := 8) hx hb hts hown hK hP hD hS (k := k) hk (by decide) rfl (fun _ h => List.mem_cons_of_mem _ (List.mem_append_right _ h)) tyX4 tyX4_ok nmX4 rfl 7 (by decide) (hts _ (List.mem_of_getElem? (i := 1) rfl)) (fun _ h9 => h9) rfl (by decide +kernel) rfl rfl (Nat.le_of_ble_eq_true rfl) rfl dX4_addOrders_33 (fun u4 H locs hu4 hP hD hS => ?_)
        refine lv_iinc (v := nI (i + 1)) (lv' := [(3, .int (nI (i + 1))), (0, .ref (ad k)), (1, .int o), (2, .int (nI t))]) hx hb dX4_addOrders_36 hl (k := 0) rfl (nI_1 i) (by decide) rfl (fun ls hl => ?_)
        refine lv_goto (tgt := 2) hx hb dX4_addOrders_39 (by decide) ?_
        exact ih2 (i + 1) u4 _ _ _ (by omega) (by rw [hu4, hu3, hu]; rfl) (by omega) hP hD hS (lv_sub hl [0, 1, 2, 3] rfl)

set_option maxHeartbeats 4000000 in
set_option maxRecDepth 100000 in
theorem c_X4_dropFirstOrder (l : Launch) (D : va_G) (cs : Nat → ClassId) (ad : Nat → Nat) (I : Mm) (sz : Nat) (k : Nat) (hk : kC.getD k 0 = 6) (w : Nat) (hw : I k 7 = nI w) (hw24 : w ≤ 24) : MetN l yX4_dropFirstOrder wsX4_dropFirstOrder ({ frames := 0, cells := 0, slots := 0, locals := 0 }) kC cs D ad I sz [.ref (ad k)] (fun u => u = m_X4_dropFirstOrder I k w) 0 0 := by
  refine g_met (cc := cX4_dropFirstOrder) (maxL := 2) (ret := none) (by decide) rfl (Nat.le_of_ble_eq_true rfl) ?_
  intro pg e s m args below meth c ls hx hb hr hml hts hown hlocks hsz hP hD hK hN hS hA hl
  have hown : s.vm.findClass RX4 = some m.cls := hown
  have hl : lv_has ls 2 [(0, .ref (ad k))] := hl
  refine lv_iconst (v := nI 1) hx hb dX4_dropFirstOrder_0 (by decide) ?_
  refine lv_istore_n (lv' := [(1, .int (nI 1)), (0, .ref (ad k))]) hx hb dX4_dropFirstOrder_1 rfl hl (by decide) rfl (fun ls hl => ?_)
  suffices KL2 : ∀ (fuel : Nat) (i : Nat) (u : Mm) (H : Heap) (locs : List Loc) (ls : Array Slot), (1 ≤ i) → (i ≤ w ∨ i = 1) → (u = shO I k i) → w + 1 - i < fuel → va_P D vwCl (gw kC cs ad u) H → va_D (gA kC ad sz) (gw kC cs ad u) → va_S (gA kC ad sz) s.heap H locs → lv_has ls 2 [(1, .int (nI i)), (0, .ref (ad k))] → W pg l e ({ frames := 0, cells := 0, slots := 0, locals := 0 }) s m args below meth c H locs 0 0 (MQ below (va_Qv (fun u => u = m_X4_dropFirstOrder I k w) (wat kC cs D ad (gA kC ad sz)) (gA kC ad sz)) args s 0 0 (gA kC ad sz)) (F0 m 2 ls []) from KL2 _ 1 I _ _ _ (by omega) (by omega) (shO_1 I k).symm (Nat.lt_succ_self _) hP hD hS (lv_sub hl [0, 1] rfl)
  intro fuel2
  induction fuel2 with
  | zero => intro _ _ _ _ _ _ _ _ hm; exact absurd hm (Nat.not_lt_zero _)
  | succ fuel2 ih2 =>
    intro i u H locs ls hi hi2 hu hm2 hP hD hS hl
    refine lv_iload_n hx hb dX4_dropFirstOrder_2 rfl (lv_at hl 0 rfl) ?_
    refine lv_aload_n hx hb dX4_dropFirstOrder_3 rfl (lv_at hl 1 rfl) ?_
    refine g_get (κ := 6) (ci := 4) (v := .int (u k 7)) (C := RX4) (T := TX4) (N := 8) hx hb hts hown hK hP (k := k) hk (by decide) rfl (fun _ h => List.mem_cons_of_mem _ (List.mem_append_right _ h)) rfl 7 (by decide) (hts _ (List.mem_of_getElem? (i := 1) rfl)) (fun _ h9 => h9) rfl dX4_dropFirstOrder_4 ?_
    rw [show u k 7 = nI w from (by rw [hu, shO_k]; exact hw)]
    refine lv_icmp_ge (tgt := 36) hx hb dX4_dropFirstOrder_7 (by decide) (fun c_1 => ?_) (fun c_1 => ?_)
    · skip
      have nc_1 : w ≤ i := (nI_leI (a := w) (b := i) (by omega) (by omega)).mp c_1
      refine lv_aload_n hx hb dX4_dropFirstOrder_36 rfl (lv_at hl 1 rfl) ?_
      refine g_get (κ := 6) (ci := 4) (v := .int (u k 7)) (C := RX4) (T := TX4) (N := 8) hx hb hts hown hK hP (k := k) hk (by decide) rfl (fun _ h => List.mem_cons_of_mem _ (List.mem_append_right _ h)) rfl 7 (by decide) (hts _ (List.mem_of_getElem? (i := 1) rfl)) (fun _ h9 => h9) rfl dX4_dropFirstOrder_37 ?_
      rw [show u k 7 = nI w from (by rw [hu, shO_k]; exact hw)]
      refine lv_if_le (tgt := 53) hx hb dX4_dropFirstOrder_40 (by decide) (fun c_2 => ?_) (fun c_2 => ?_)
      · skip
        have nc_2 : w ≤ 0 := (nI_leI (a := w) (b := 0) (by omega) (by omega)).mp c_2
        exact g_vret hx hb hr hlocks hP hD hS (by rw [hu]; simp only [m_X4_dropFirstOrder]; rw [if_neg (by omega), show i = 1 from by omega]; exact shO_1 I k) dX4_dropFirstOrder_53
      · skip
        have nc_2 : ¬ w ≤ 0 := fun z9_ => c_2 ((nI_leI (a := w) (b := 0) (by omega) (by omega)).mpr z9_)
        refine lv_aload_n hx hb dX4_dropFirstOrder_43 rfl (lv_at hl 1 rfl) ?_
        refine lv_dup hx hb dX4_dropFirstOrder_44 rfl ?_
        refine g_get (κ := 6) (ci := 4) (v := .int (u k 7)) (C := RX4) (T := TX4) (N := 8) hx hb hts hown hK hP (k := k) hk (by decide) rfl (fun _ h => List.mem_cons_of_mem _ (List.mem_append_right _ h)) rfl 7 (by decide) (hts _ (List.mem_of_getElem? (i := 1) rfl)) (fun _ h9 => h9) rfl dX4_dropFirstOrder_45 ?_
        rw [show u k 7 = nI w from (by rw [hu, shO_k]; exact hw)]
        refine lv_iconst (v := nI 1) hx hb dX4_dropFirstOrder_48 (by decide) ?_
        refine lv_isub hx hb dX4_dropFirstOrder_49 ?_
        rw [pk_sub (a := w) (b := 1) (by omega)]
        refine g_put (κ := 6) (ci := 4) (v := nI (w - 1)) (ty := .int) (C := RX4) (T := TX4) (N := 8) hx hb hts hown hK hP hD hS (k := k) hk (by decide) rfl (fun _ h => List.mem_cons_of_mem _ (List.mem_append_right _ h)) tyX4 tyX4_ok nmX4 rfl 7 (by decide) (hts _ (List.mem_of_getElem? (i := 1) rfl)) (fun _ h9 => h9) rfl (by decide +kernel) rfl rfl (Nat.le_of_ble_eq_true rfl) rfl dX4_dropFirstOrder_50 (fun u3 H locs hu3 hP hD hS => ?_)
        exact g_vret hx hb hr hlocks hP hD hS (by rw [hu3, hu]; simp only [m_X4_dropFirstOrder]; rw [if_pos (by omega), show i = w from by omega]) dX4_dropFirstOrder_53
    · skip
      have nc_1 : ¬ w ≤ i := fun z9_ => c_1 ((nI_leI (a := w) (b := i) (by omega) (by omega)).mpr z9_)
      refine lv_iload_n hx hb dX4_dropFirstOrder_10 rfl (lv_at hl 0 rfl) ?_
      refine lv_bipush (v := nI 24) hx hb dX4_dropFirstOrder_11 (by decide) ?_
      refine lv_icmp_ge (tgt := 36) hx hb dX4_dropFirstOrder_13 (by decide) (fun c_4 => ?_) (fun c_4 => ?_)
      · skip
        have nc_4 : 24 ≤ i := (nI_leI (a := 24) (b := i) (by omega) (by omega)).mp c_4
        exact absurd nc_4 (by omega)
      · skip
        have nc_4 : ¬ 24 ≤ i := fun z9_ => c_4 ((nI_leI (a := 24) (b := i) (by omega) (by omega)).mpr z9_)
        refine lv_aload_n hx hb dX4_dropFirstOrder_16 rfl (lv_at hl 1 rfl) ?_
        refine g_get (κ := 6) (ci := 4) (v := .ref (ad (k + 8))) (C := RX4) (T := TX4) (N := 8) hx hb hts hown hK hP (k := k) hk (by decide) rfl (fun _ h => List.mem_cons_of_mem _ (List.mem_append_right _ h)) rfl 6 (by decide) (hts _ (List.mem_of_getElem? (i := 2) rfl)) (fun _ h9 => h9) rfl dX4_dropFirstOrder_17 ?_
        refine lv_iload_n hx hb dX4_dropFirstOrder_20 rfl (lv_at hl 0 rfl) ?_
        refine lv_iconst (v := nI 1) hx hb dX4_dropFirstOrder_21 (by decide) ?_
        refine lv_isub hx hb dX4_dropFirstOrder_22 ?_
        rw [pk_sub (a := i) (b := 1) (by omega)]
        refine lv_aload_n hx hb dX4_dropFirstOrder_23 rfl (lv_at hl 1 rfl) ?_
        refine g_get (κ := 6) (ci := 4) (v := .ref (ad (k + 8))) (C := RX4) (T := TX4) (N := 8) hx hb hts hown hK hP (k := k) hk (by decide) rfl (fun _ h => List.mem_cons_of_mem _ (List.mem_append_right _ h)) rfl 6 (by decide) (hts _ (List.mem_of_getElem? (i := 2) rfl)) (fun _ h9 => h9) rfl dX4_dropFirstOrder_24 ?_
        refine lv_iload_n hx hb dX4_dropFirstOrder_27 rfl (lv_at hl 0 rfl) ?_
        refine g_ialdn (n := 24) (i := i) hx hb hK hP (k := (k + 8)) (kd_6_6 hk) (by decide) rfl (by omega) (by decide) dX4_dropFirstOrder_28 ?_
        refine g_iastn (n := 24) (i := (i - 1)) hx hb hK hP hD hS (k := (k + 8)) (kd_6_6 hk) (by decide) (fun _ => rfl) (by omega) (by decide) dX4_dropFirstOrder_29 (fun u5 H locs hu5 hP hD hS => ?_)
        refine lv_iinc (v := nI (i + 1)) (lv' := [(1, .int (nI (i + 1))), (0, .ref (ad k))]) hx hb dX4_dropFirstOrder_30 hl (k := 0) rfl (nI_1 i) (by decide) rfl (fun ls hl => ?_)
        refine lv_goto (tgt := 2) hx hb dX4_dropFirstOrder_33 (by decide) ?_
        exact ih2 (i + 1) u5 _ _ _ (by omega) (by omega) (by rw [hu5, hu]; exact (shO_s (by omega)).symm) (by omega) hP hD hS (lv_sub hl [0, 1] rfl)
