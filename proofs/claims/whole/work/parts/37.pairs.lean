section PAIRS
variable {z k N : Nat} {J I v : Mm}
theorem opened_cg {u v : Mm} {z N : Nat} (h : ∀ i, i < N → u (z + 8 + (1 + i)) 5 = v (z + 8 + (1 + i)) 5) : f_X0_openedByCrew u z N = f_X0_openedByCrew v z N := by
  have e : ∀ (f g : Nat → Int32) n, (∀ i, i < n → f i = g i) → sm f n = sm g n := by
    intro f g n
    induction n with
    | zero => intro _; rfl
    | succ n ih => intro h; simp only [sm]; rw [ih (fun i hi => h i (by omega)), h n (by omega)]
  exact e _ _ N h
theorem Rl.wt (h : Rl z J k I N) {i f : Nat} (x : Int32) (hi : i < 8) (hf : f < 5) : Rl z (wr J (z + 8 + (1 + i)) f x) k (wr I (k + 4) (31 * i + f) x) N := by
  obtain ⟨a, b, c, d, e⟩ := h
  refine ⟨by rw [wr_n _ _ _ (by omega)]; exact a, fun j hj q hq => ?_, fun i' hi' => ⟨fun f' hf' => ?_, ?_, fun j hj => ?_⟩, ?_, ?_⟩
  · rw [wr_n _ _ _ (by omega), wr_n _ _ _ (by omega)]; exact b j hj q hq
  · by_cases g : i' = i
    · subst g
      by_cases g2 : f' = f
      · subst g2; rw [wr_ss, wr_ss]
      · rw [wr_sn _ _ _ (by omega), wr_sn _ _ _ g2]; exact (c i' hi').1 f' hf'
    · rw [wr_sn _ _ _ (by omega), wr_n _ _ _ (by omega)]; exact (c i' hi').1 f' hf'
  · rw [wr_sn _ _ _ (by omega)]
    by_cases g : i' = i
    · subst g; rw [wr_sn _ _ _ (by omega)]; exact (c i' hi').2.1
    · rw [wr_n _ _ _ (by omega)]; exact (c i' hi').2.1
  · rw [wr_sn _ _ _ (by omega), wr_n _ _ _ (by omega)]; exact (c i' hi').2.2 j hj
  · rw [wr_n _ _ _ (by omega), wr_n _ _ _ (by omega)]; exact d
  · rw [wr_n _ _ _ (by omega), e]
    refine opened_cg (fun i' _ => ?_)
    by_cases g : i' = i
    · subst g; rw [wr_sn _ _ _ (by omega)]
    · rw [wr_n _ _ _ (by omega)]
theorem Rl.w7 (h : Rl z J k I N) {i : Nat} (x : Int32) (hi : i < 8) : Rl z (wr J (z + 8 + (1 + i)) 7 x) k (wr I (k + 4) (31 * i + 6) x) N := by
  obtain ⟨a, b, c, d, e⟩ := h
  refine ⟨by rw [wr_n _ _ _ (by omega)]; exact a, fun j hj q hq => ?_, fun i' hi' => ⟨fun f' hf' => ?_, ?_, fun j hj => ?_⟩, ?_, ?_⟩
  · rw [wr_n _ _ _ (by omega), wr_n _ _ _ (by omega)]; exact b j hj q hq
  · rw [wr_sn _ _ _ (by omega)]
    by_cases g : i' = i
    · subst g; rw [wr_sn _ _ _ (by omega)]; exact (c i' hi').1 f' hf'
    · rw [wr_n _ _ _ (by omega)]; exact (c i' hi').1 f' hf'
  · by_cases g : i' = i
    · subst g; rw [wr_ss, wr_ss]
    · rw [wr_sn _ _ _ (by omega), wr_n _ _ _ (by omega)]; exact (c i' hi').2.1
  · rw [wr_sn _ _ _ (by omega), wr_n _ _ _ (by omega)]; exact (c i' hi').2.2 j hj
  · rw [wr_n _ _ _ (by omega), wr_n _ _ _ (by omega)]; exact d
  · rw [wr_n _ _ _ (by omega), e]
    refine opened_cg (fun i' _ => ?_)
    by_cases g : i' = i
    · subst g; rw [wr_sn _ _ _ (by omega)]
    · rw [wr_n _ _ _ (by omega)]
theorem Rl.wo (h : Rl z J k I N) {i q : Nat} (x : Int32) (hi : i < 8) (hq : q < 24) (hN : N ≤ 8) : Rl z (wr J (z + 8 + (1 + i) + 8) q x) k (wr I (k + 4) (31 * i + (7 + q)) x) N := by
  obtain ⟨a, b, c, d, e⟩ := h
  refine ⟨by rw [wr_n _ _ _ (by omega)]; exact a, fun j hj q hq => ?_, fun i' hi' => ⟨fun f' hf' => ?_, ?_, fun j hj => ?_⟩, ?_, ?_⟩
  · rw [wr_n _ _ _ (by omega), wr_n _ _ _ (by omega)]; exact b j hj q hq
  · rw [wr_sn _ _ _ (by omega), wr_n _ _ _ (by omega)]; exact (c i' hi').1 f' hf'
  · rw [wr_sn _ _ _ (by omega), wr_n _ _ _ (by omega)]; exact (c i' hi').2.1
  · by_cases g : i' = i
    · subst g
      by_cases g2 : j = q
      · subst g2; rw [show 31 * i' + 7 + j = 31 * i' + (7 + j) from by omega, wr_ss, wr_ss]
      · rw [wr_sn _ _ _ (by omega), wr_sn _ _ _ g2]; exact (c i' hi').2.2 j hj
    · rw [wr_sn _ _ _ (by omega), wr_n _ _ _ (by omega)]; exact (c i' hi').2.2 j hj
  · rw [wr_n _ _ _ (by omega), wr_n _ _ _ (by omega)]; exact d
  · rw [wr_n _ _ _ (by omega), e]
    exact opened_cg (fun i' _ => by rw [wr_n _ _ _ (by omega)])
theorem Rl.wc (h : Rl z J k I N) (j q : Nat) (x : Int32) (hj : j < 3) : Rl z (wr J (z + 1 + 1 + j) q x) k (wr I (k + 1 + j) q x) N := by
  obtain ⟨a, b, c, d, e⟩ := h
  refine ⟨by rw [wr_n _ _ _ (by omega)]; exact a, fun j' hj' q' hq' => ?_, fun i' hi' => ?_, ?_, ?_⟩
  · by_cases g : j' = j
    · subst g
      by_cases g2 : q' = q
      · subst g2; rw [wr_ss, wr_ss]
      · rw [wr_sn _ _ _ g2, wr_sn _ _ _ g2]; exact b j' hj' q' hq'
    · rw [wr_n _ _ _ (by omega), wr_n _ _ _ (by omega)]; exact b j' hj' q' hq'
  · rw [wr_n _ _ _ (by omega), wr_n _ _ _ (by omega), wr_n _ _ _ (by omega)]; exact c i' hi'
  · rw [wr_n _ _ _ (by omega), wr_n _ _ _ (by omega)]; exact d
  · rw [wr_n _ _ _ (by omega), e]
    exact opened_cg (fun i' _ => by rw [wr_n _ _ _ (by omega)])
theorem Rl.wn (h : Rl z J k I N) (q : Nat) (x : Int32) (hq : q < 3) : Rl z (wr J z (4 + q) x) k (wr I (k + 5) q x) N := by
  obtain ⟨a, b, c, d, e⟩ := h
  refine ⟨by rw [wr_n _ _ _ (by omega)]; exact a, fun j' hj' q' hq' => ?_, fun i' hi' => ?_, ?_, ?_⟩
  · rw [wr_n _ _ _ (by omega), wr_n _ _ _ (by omega)]; exact b j' hj' q' hq'
  · rw [wr_n _ _ _ (by omega), wr_n _ _ _ (by omega), wr_n _ _ _ (by omega)]; exact c i' hi'
  · rcases (show q = 0 ∨ q = 1 ∨ q = 2 from by omega) with rfl | rfl | rfl
    · exact ⟨by rw [wr_ss, wr_ss], by rw [wr_sn _ _ _ (by omega), wr_sn _ _ _ (by omega)]; exact d.2.1, by rw [wr_sn _ _ _ (by omega), wr_sn _ _ _ (by omega)]; exact d.2.2⟩
    · exact ⟨by rw [wr_sn _ _ _ (by omega), wr_sn _ _ _ (by omega)]; exact d.1, by rw [wr_ss, wr_ss], by rw [wr_sn _ _ _ (by omega), wr_sn _ _ _ (by omega)]; exact d.2.2⟩
    · exact ⟨by rw [wr_sn _ _ _ (by omega), wr_sn _ _ _ (by omega)]; exact d.1, by rw [wr_sn _ _ _ (by omega), wr_sn _ _ _ (by omega)]; exact d.2.1, by rw [wr_ss, wr_ss]⟩
  · rw [wr_sn _ _ _ (by omega), e]
    exact opened_cg (fun i' _ => by rw [wr_n _ _ _ (by omega)])
theorem opened_1 {J : Mm} {z N i : Nat} (hi : i < N) (x : Int32) : f_X0_openedByCrew (wr J (z + 8 + (1 + i)) 5 (J (z + 8 + (1 + i)) 5 + x)) z N = f_X0_openedByCrew J z N + x := by
  have e : ∀ n, (n ≤ i → f_X0_openedByCrew (wr J (z + 8 + (1 + i)) 5 (J (z + 8 + (1 + i)) 5 + x)) z n = f_X0_openedByCrew J z n) ∧ (i < n → f_X0_openedByCrew (wr J (z + 8 + (1 + i)) 5 (J (z + 8 + (1 + i)) 5 + x)) z n = f_X0_openedByCrew J z n + x) := by
    intro n
    induction n with
    | zero => exact ⟨fun _ => rfl, fun h => absurd h (Nat.not_lt_zero _)⟩
    | succ n ih =>
      simp only [f_X0_openedByCrew, sm] at ih ⊢
      refine ⟨fun hn => ?_, fun hn => ?_⟩
      · rw [ih.1 (by omega), wr_n _ _ _ (by omega)]
      · by_cases g : i = n
        · subst g
          rw [ih.1 (Nat.le_refl _), wr_ss, Int32.add_assoc]
        · rw [ih.2 (by omega), wr_n _ _ _ (by omega), Int32.add_assoc, Int32.add_assoc, Int32.add_comm x]
  exact (e N).2 hi
theorem Rl.w5 (h : Rl z J k I N) {i : Nat} (x : Int32) (hi : i < N) (hN : N ≤ 8) : Rl z (wr J (z + 8 + (1 + i)) 5 (J (z + 8 + (1 + i)) 5 + x)) k (wr (wr I (k + 4) (31 * i + 5) (J (z + 8 + (1 + i)) 5 + x)) (k + 5) 3 (I (k + 5) 3 + x)) N := by
  obtain ⟨a, b, c, d, e⟩ := h
  refine ⟨by rw [wr_n _ _ _ (by omega), wr_n _ _ _ (by omega)]; exact a, fun j hj q hq => ?_, fun i' hi' => ⟨fun f' hf' => ?_, ?_, fun j hj => ?_⟩, ?_, ?_⟩
  · rw [wr_n _ _ _ (by omega), wr_n _ _ _ (by omega), wr_n _ _ _ (by omega)]; exact b j hj q hq
  · rw [wr_n _ _ _ (by omega)]
    by_cases g : i' = i
    · subst g
      by_cases g2 : f' = 5
      · subst g2; rw [wr_ss, wr_ss]
      · rw [wr_sn _ _ _ (by omega), wr_sn _ _ _ g2]; exact (c i' hi').1 f' hf'
    · rw [wr_sn _ _ _ (by omega), wr_n _ _ _ (by omega)]; exact (c i' hi').1 f' hf'
  · rw [wr_n _ _ _ (by omega), wr_sn _ _ _ (by omega)]
    by_cases g : i' = i
    · subst g; rw [wr_sn _ _ _ (by omega)]; exact (c i' hi').2.1
    · rw [wr_n _ _ _ (by omega)]; exact (c i' hi').2.1
  · rw [wr_n _ _ _ (by omega), wr_sn _ _ _ (by omega), wr_n _ _ _ (by omega)]; exact (c i' hi').2.2 j hj
  · rw [wr_sn _ _ _ (by omega), wr_sn _ _ _ (by omega), wr_sn _ _ _ (by omega), wr_n _ _ _ (by omega), wr_n _ _ _ (by omega)]; exact d
  · rw [wr_ss, opened_1 hi, e]
/-- the same but for the wave, whatever the object's own word is -/
def Rk (z : Nat) (J : Mm) (k : Nat) (I v : Mm) (N : Nat) : Prop := Rl z J k v N ∧ v k = I k
theorem Rk.rf (h : Rl z J k I N) : Rk z J k I I N := ⟨h, rfl⟩
end PAIRS
theorem nI_m {a : Nat} (h : 0 < a) : nI a + -1 = nI (a - 1) := nI_dec h

set_option maxHeartbeats 4000000 in
set_option maxRecDepth 100000 in
theorem c_X6_done (l : Launch) (D : va_G) (cs : Nat → ClassId) (ad : Nat → Nat) (I : Mm) (sz : Nat) (k : Nat) (hk : kM.getD k 0 = 10) (mn : Nat) (hmn : mn < 8) (z : Nat) (J : Mm) (N : Nat) (hRl : Rl z J k I N) (hN8 : N ≤ 8) (w0 : Nat) (hw0 : J (z + 8 + (1 + mn)) 7 = nI w0) (hw1 : 1 ≤ w0) (hw2 : w0 ≤ 24) : MetN l yX6_done wsX6_done ({ frames := 1, cells := 0, slots := 0, locals := 23 }) kM cs D ad I sz [.ref (ad k), .int (nI mn)] (fun u => Rk z (dropS J (z + 8 + (1 + mn))) k I u N) 0 0 := by
  refine g_met (cc := cX6_done) (maxL := 3) (ret := none) (by decide) rfl (Nat.le_of_ble_eq_true rfl) ?_
  intro pg e s m args below meth c ls hx hb hr hml hts hown hlocks hsz hP hD hK hN hS hA hl
  have hown : s.vm.findClass RX6 = some m.cls := hown
  have hl : lv_has ls 3 [(0, .ref (ad k)), (1, .int (nI mn))] := hl
  refine lv_iconst (v := nI 1) hx hb dX6_done_0 (by decide) ?_
  refine lv_istore_n (lv' := [(2, .int (nI 1)), (0, .ref (ad k)), (1, .int (nI mn))]) hx hb dX6_done_1 rfl hl (by decide) rfl (fun ls hl => ?_)
  suffices KL2 : ∀ (fuel : Nat) (i : Nat) (v : Mm) (H : Heap) (locs : List Loc) (ls : Array Slot), (1 ≤ i) → (i ≤ w0) → (Rk z (shO J (z + 8 + (1 + mn)) i) k I v N) → w0 - i < fuel → va_P D vwCl (gw kM cs ad v) H → va_D (gA kM ad sz) (gw kM cs ad v) → va_S (gA kM ad sz) s.heap H locs → lv_has ls 3 [(2, .int (nI i)), (0, .ref (ad k)), (1, .int (nI mn))] → W pg l e ({ frames := 1, cells := 0, slots := 0, locals := 23 }) s m args below meth c H locs 0 0 (MQ below (va_Qv (fun u => Rk z (dropS J (z + 8 + (1 + mn))) k I u N) (wat kM cs D ad (gA kM ad sz)) (gA kM ad sz)) args s 0 0 (gA kM ad sz)) (F0 m 2 ls []) from KL2 _ 1 I _ _ _ (by omega) (by omega) (by rw [shO_1]; exact Rk.rf hRl) (Nat.lt_succ_self _) hP hD hS (lv_sub hl [0, 1, 2] rfl)
  intro fuel2
  induction fuel2 with
  | zero => intro _ _ _ _ _ _ _ _ hm; exact absurd hm (Nat.not_lt_zero _)
  | succ fuel2 ih2 =>
    intro i v H locs ls hi1 hi hv hm2 hP hD hS hl
    refine lv_iload_n hx hb dX6_done_2 rfl (lv_at hl 0 rfl) ?_
    refine lv_aload_n hx hb dX6_done_3 rfl (lv_at hl 1 rfl) ?_
    refine lv_iload_n hx hb dX6_done_4 rfl (lv_at hl 2 rfl) ?_
    refine lv_bipush (v := nI 6) hx hb dX6_done_5 (by decide) ?_
    refine g_callF (F := v (k + 4) (31 * mn + 6)) hD hS hA (va_runV (As := [.int (nI mn), .int (nI 6)]) (rest := [.int (nI i)]) ⟨hx, hb, hml, hown, hts⟩ (c_X6_get l D cs ad v H.size k hk mn (by omega) 6 (by omega)) (cwV 2 hts gX6_done_X6_get rfl rfl rfl (by decide +kernel) ⟨Nat.le_of_ble_eq_true rfl, Nat.le_of_ble_eq_true rfl⟩) (g_preV hP hD hK hN (k := k) hk (by decide) rfl rfl rfl rfl) rfl rfl hl.1 rfl (lv_room (Nat.le_of_ble_eq_true rfl)) dX6_done_7 ⟨Nat.le_of_ble_eq_true rfl, Nat.le_of_ble_eq_true rfl⟩) (fun H locs hP hD hS => ?_)
    rw [show v (k + 4) (31 * mn + 6) = nI w0 from ((hv.1.t6 (by omega)).trans (by rw [shO_k]; exact hw0))]
    refine lv_icmp_ge (tgt := 39) hx hb dX6_done_10 (by decide) (fun c_1 => ?_) (fun c_1 => ?_)
    · skip
      have nc_1 : w0 ≤ i := (nI_leI (a := w0) (b := i) (by omega) (by omega)).mp c_1
      refine lv_aload_n hx hb dX6_done_39 rfl (lv_at hl 1 rfl) ?_
      refine lv_iload_n hx hb dX6_done_40 rfl (lv_at hl 2 rfl) ?_
      refine lv_bipush (v := nI 6) hx hb dX6_done_41 (by decide) ?_
      refine lv_iconst (v := -1) hx hb dX6_done_43 (by decide) ?_
      refine g_callM (M := wr v (k + 4) (31 * mn + 6) (v (k + 4) (31 * mn + 6) + (-1))) hD hS hA (va_runV (As := [.int (nI mn), .int (nI 6), .int (-1)]) (rest := []) ⟨hx, hb, hml, hown, hts⟩ (c_X6_add l D cs ad v H.size k hk mn (by omega) 6 (by omega) (-1)) (cwV 3 hts gX6_done_X6_add rfl rfl rfl (by decide +kernel) ⟨Nat.le_of_ble_eq_true rfl, Nat.le_of_ble_eq_true rfl⟩) (g_preV hP hD hK hN (k := k) hk (by decide) rfl rfl rfl rfl) rfl rfl hl.1 rfl (lv_room (Nat.le_of_ble_eq_true rfl)) dX6_done_44 ⟨Nat.le_of_ble_eq_true rfl, Nat.le_of_ble_eq_true rfl⟩) (fun u2 H locs hu2 hP hD hS => ?_)
      exact g_vret hx hb hr hlocks hP hD hS (by rw [hu2, hv.1.t6 (by omega), show i = w0 from by omega, shO_k, hw0, nI_m (by omega)]; rw [show i = w0 from by omega] at hv; exact ⟨by simp only [dropS, m_X4_dropFirstOrder]; rw [hw0, nI_clamp (by omega), if_pos (by omega)]; exact hv.1.w7 _ (by omega), by rw [wr_n _ _ _ (by omega)]; exact hv.2⟩) dX6_done_47
    · skip
      have nc_1 : ¬ w0 ≤ i := fun z9_ => c_1 ((nI_leI (a := w0) (b := i) (by omega) (by omega)).mpr z9_)
      refine lv_aload_n hx hb dX6_done_13 rfl (lv_at hl 1 rfl) ?_
      refine lv_iload_n hx hb dX6_done_14 rfl (lv_at hl 2 rfl) ?_
      refine lv_bipush (v := nI 7) hx hb dX6_done_15 (by decide) ?_
      refine lv_iload_n hx hb dX6_done_17 rfl (lv_at hl 0 rfl) ?_
      refine lv_iadd hx hb dX6_done_18 ?_
      rw [nI_add 7 i]
      refine lv_iconst (v := nI 1) hx hb dX6_done_19 (by decide) ?_
      refine lv_isub hx hb dX6_done_20 ?_
      rw [pk_sub (a := (7 + i)) (b := 1) (by omega)]
      refine lv_aload_n hx hb dX6_done_21 rfl (lv_at hl 1 rfl) ?_
      refine lv_iload_n hx hb dX6_done_22 rfl (lv_at hl 2 rfl) ?_
      refine lv_bipush (v := nI 7) hx hb dX6_done_23 (by decide) ?_
      refine lv_iload_n hx hb dX6_done_25 rfl (lv_at hl 0 rfl) ?_
      refine lv_iadd hx hb dX6_done_26 ?_
      rw [nI_add 7 i]
      refine g_callF (F := v (k + 4) (31 * mn + (7 + i))) hD hS hA (va_runV (As := [.int (nI mn), .int (nI (7 + i))]) (rest := [.int (nI ((7 + i) - 1)), .int (nI mn), .ref (ad k)]) ⟨hx, hb, hml, hown, hts⟩ (c_X6_get l D cs ad v H.size k hk mn (by omega) (7 + i) (by omega)) (cwV 2 hts gX6_done_X6_get rfl rfl rfl (by decide +kernel) ⟨Nat.le_of_ble_eq_true rfl, Nat.le_of_ble_eq_true rfl⟩) (g_preV hP hD hK hN (k := k) hk (by decide) rfl rfl rfl rfl) rfl rfl hl.1 rfl (lv_room (Nat.le_of_ble_eq_true rfl)) dX6_done_27 ⟨Nat.le_of_ble_eq_true rfl, Nat.le_of_ble_eq_true rfl⟩) (fun H locs hP hD hS => ?_)
      rw [show v (k + 4) (31 * mn + (7 + i)) = shO J (z + 8 + (1 + mn)) i (z + 8 + (1 + mn) + 8) i from (hv.1.o (by omega) (by omega))]
      refine g_callM (M := wr v (k + 4) (31 * mn + ((7 + i) - 1)) (shO J (z + 8 + (1 + mn)) i (z + 8 + (1 + mn) + 8) i)) hD hS hA (va_runV (As := [.int (nI mn), .int (nI ((7 + i) - 1)), .int (shO J (z + 8 + (1 + mn)) i (z + 8 + (1 + mn) + 8) i)]) (rest := []) ⟨hx, hb, hml, hown, hts⟩ (c_X6_set l D cs ad v H.size k hk mn (by omega) ((7 + i) - 1) (by omega) (shO J (z + 8 + (1 + mn)) i (z + 8 + (1 + mn) + 8) i)) (cwV 3 hts gX6_done_X6_set rfl rfl rfl (by decide +kernel) ⟨Nat.le_of_ble_eq_true rfl, Nat.le_of_ble_eq_true rfl⟩) (g_preV hP hD hK hN (k := k) hk (by decide) rfl rfl rfl rfl) rfl rfl hl.1 rfl (lv_room (Nat.le_of_ble_eq_true rfl)) dX6_done_30 ⟨Nat.le_of_ble_eq_true rfl, Nat.le_of_ble_eq_true rfl⟩) (fun u3 H locs hu3 hP hD hS => ?_)
      refine lv_iinc (v := nI (i + 1)) (lv' := [(2, .int (nI (i + 1))), (0, .ref (ad k)), (1, .int (nI mn))]) hx hb dX6_done_33 hl (k := 0) rfl (nI_1 i) (by decide) rfl (fun ls hl => ?_)
      refine lv_goto (tgt := 2) hx hb dX6_done_36 (by decide) ?_
      exact ih2 (i + 1) u3 _ _ _ (by omega) (by omega) (by rw [hu3, shO_s (by omega), show 31 * mn + (7 + i - 1) = 31 * mn + (7 + (i - 1)) from by omega]; exact ⟨hv.1.wo _ (by omega) (by omega) hN8, by rw [wr_n _ _ _ (by omega)]; exact hv.2⟩) (by omega) hP hD hS (lv_sub hl [0, 1, 2] rfl)
