def FARN : Nat := 999999
def nf (S : Nat → Nat) : Nat := cn (fun c => decide (S c ≠ 999999)) 256
def sumN (S : Nat → Nat) : Nat → Nat
  | 0 => 0
  | n + 1 => sumN S n + S n
def DG (hd : Nat → Nat) (fr : Nat) (S : Nat → Nat) : Prop := (∀ c, c < 256 → S c ≤ 999999) ∧ (∀ c, c < 256 → S c ≠ 999999 → (∃ d, pc hd fr d c (S c)) ∧ S c ≤ 10 * nf S) ∧ S fr ≤ hd fr
def upS (S : Nat → Nat) (c x : Nat) : Nat → Nat := fun y => if y = c then x else S y
def CD (hd : Nat → Nat) (S : Nat → Nat) (c w : Nat) : Prop := ∀ c' w', c' < 256 → w' < 4 → (c' < c ∨ (c' = c ∧ w' < w)) → hd c' ≠ 10 → nb c' w' < 256 → S (nb c' w') ≠ 999999 → S c' ≤ S (nb c' w') + hd c'
def FD (hd : Nat → Nat) (S0 S : Nat → Nat) (c w : Nat) (f : Int32) : Prop := (f = nI 1 ∧ sumN S 256 < sumN S0 256) ∨ (f = 0 ∧ sumN S 256 ≤ sumN S0 256 ∧ CD hd S c w)
theorem sum_up {S : Nat → Nat} {c x : Nat} (hx : x < S c) : ∀ n, (c < n → sumN (upS S c x) n < sumN S n) ∧ sumN (upS S c x) n ≤ sumN S n
  | 0 => ⟨fun h => absurd h (Nat.not_lt_zero _), Nat.le_refl _⟩
  | n + 1 => by
    have ih := sum_up (S := S) (c := c) (x := x) hx n
    simp only [sumN]
    have h2 := ih.2
    by_cases e : n = c
    · rw [show upS S c x n = x from if_pos e]
      rw [← e] at hx
      exact ⟨fun _ => by omega, by omega⟩
    · rw [show upS S c x n = S n from if_neg e]
      exact ⟨fun h => by have := ih.1 (by omega); omega, by omega⟩
def iniS (hd : Nat → Nat) (fr : Nat) : Nat → Nat := fun c => if c = fr then hd fr else 999999
theorem iniS_s (hd : Nat → Nat) (fr : Nat) : iniS hd fr fr = hd fr := if_pos rfl
theorem iniS_n (hd : Nat → Nat) {fr c : Nat} (h : c ≠ fr) : iniS hd fr c = 999999 := if_neg h
theorem nf_le (S : Nat → Nat) : nf S ≤ 256 := cn_le _ _
theorem DG_0 {hd : Nat → Nat} {fr : Nat} (hf : fr < 256) (h10 : hd fr ≠ 10) (hh : hd fr ≤ 10) : DG hd fr (iniS hd fr) := by
  have h1 : nf (iniS hd fr) = cn (fun _ => false) 256 + 1 := cn_set (c := fr) rfl (decide_eq_true (by rw [iniS_s]; omega)) (fun j hj => decide_eq_false (by rw [iniS_n hd hj]; exact fun y => y rfl)) hf
  refine ⟨fun c _ => ?_, fun c _ hn => ?_, by rw [iniS_s]; exact Nat.le_refl _⟩
  · by_cases e : c = fr
    · rw [e, iniS_s]; omega
    · rw [iniS_n hd e]; exact Nat.le_refl _
  · by_cases e : c = fr
    · subst e
      rw [iniS_s]
      exact ⟨⟨0, rfl, h10, rfl⟩, by omega⟩
    · exact absurd (iniS_n hd e) hn
theorem DG_up {hd S : Nat → Nat} {fr c w : Nat} (h : DG hd fr S) (hhd : hd c ≤ 10) (hc : c < 256) (hw : w < 4) (h10 : hd c ≠ 10) (hn : nb c w < 256) (ho : S (nb c w) ≠ 999999) (hl : S (nb c w) + hd c < S c) (hfr : hd fr ≠ 10 → True) : DG hd fr (upS S c (S (nb c w) + hd c)) := by
  obtain ⟨a, b, e⟩ := h
  obtain ⟨⟨d, hp⟩, hb⟩ := b _ hn ho
  have hpc : pc hd fr (d + 1) c (S (nb c w) + hd c) := Or.inr ⟨h10, nb c w, (w + 2) % 4, S (nb c w), hn, Nat.mod_lt _ (by decide), nb_inv c hc w hw hn, hp, rfl⟩
  have hnf : nf S ≤ nf (upS S c (S (nb c w) + hd c)) ∧ (S c = 999999 → nf (upS S c (S (nb c w) + hd c)) = nf S + 1) := by
    have hnew : upS S c (S (nb c w) + hd c) c ≠ 999999 := by simp only [upS]; rw [if_pos trivial]; have := a c hc; omega
    constructor
    · refine cn_mo 256 (fun i hi y => ?_)
      by_cases g : i = c
      · subst g; exact decide_eq_true hnew
      · exact decide_eq_true (by rw [show upS S c (S (nb c w) + hd c) i = S i from if_neg g]; exact of_decide_eq_true y)
    · intro hS
      refine cn_set (c := c) (decide_eq_false (fun y => y hS)) (decide_eq_true hnew) (fun j hj => decide_eq_decide.mpr (by rw [show upS S c (S (nb c w) + hd c) j = S j from if_neg hj])) hc
  refine ⟨fun x hx => ?_, fun x hx hne => ?_, ?_⟩
  · simp only [upS]
    split
    · have := a c hc; omega
    · exact a x hx
  · by_cases g : x = c
    · subst g
      simp only [upS]
      rw [if_pos trivial]
      refine ⟨⟨d + 1, hpc⟩, ?_⟩
      by_cases hS : S x = 999999
      · have := hnf.2 hS; omega
      · have := (b x hx hS).2; have h3 := hnf.1; omega
    · have e2 : upS S c (S (nb c w) + hd c) x = S x := if_neg g
      rw [e2] at hne ⊢
      have := (b x hx hne).2
      exact ⟨(b x hx hne).1, by have := hnf.1; omega⟩
  · by_cases g : fr = c
    · simp only [upS]; rw [if_pos g, ← g]; rw [← g] at hl; rw [g] at hl e ⊢; omega
    · simp only [upS]; rw [if_neg g]; exact e
theorem FD_0 (hd S : Nat → Nat) : FD hd S S 0 0 0 := Or.inr ⟨rfl, Nat.le_refl _, fun c' w' _ _ g => by omega⟩
theorem FD_up {hd S0 S : Nat → Nat} {c w x : Nat} {f : Int32} (h : FD hd S0 S c w f) (hc : c < 256) (hx : x < S c) (c2 w2 : Nat) : FD hd S0 (upS S c x) c2 w2 (nI 1) := by
  have := (sum_up (S := S) (c := c) (x := x) hx 256).1 hc
  refine Or.inl ⟨rfl, ?_⟩
  rcases h with h | h <;> omega
theorem FD_skip {hd S0 S : Nat → Nat} {c w : Nat} {f : Int32} (h : FD hd S0 S c w f) (e : nb c w < 256 → S (nb c w) ≠ 999999 → S c ≤ S (nb c w) + hd c) : FD hd S0 S c (w + 1) f := by
  rcases h with h | ⟨h1, h2, h3⟩
  · exact Or.inl h
  · refine Or.inr ⟨h1, h2, fun c' w' a b g y n o => ?_⟩
    by_cases q : c' = c ∧ w' = w
    · rw [q.1, q.2] at n o ⊢; exact e n o
    · exact h3 c' w' a b (by omega) y n o
theorem FD_row {hd S0 S : Nat → Nat} {c w : Nat} {f : Int32} (h : FD hd S0 S c w f) (e : w = 4 ∨ hd c = 10) : FD hd S0 S (c + 1) 0 f := by
  rcases h with h | ⟨h1, h2, h3⟩
  · exact Or.inl h
  · refine Or.inr ⟨h1, h2, fun c' w' a b g y n o => ?_⟩
    by_cases q : c' = c
    · rcases e with e | e
      · exact h3 c' w' a b (by omega) y n o
      · rw [q] at y; exact absurd e y
    · exact h3 c' w' a b (by omega) y n o
theorem pc_ice {hd : Nat → Nat} {fr : Nat} (h : hd fr = 10) : ∀ d c v, ¬ pc hd fr d c v
  | 0, c, v => by rintro ⟨e, g, -⟩; rw [e] at g; exact g h
  | d + 1, c, v => by
    rintro (y | ⟨-, p, w, v', -, -, -, y, -⟩)
    · exact pc_ice h d c v y
    · exact pc_ice h d p v' y
theorem DG_fin {hd S : Nat → Nat} {fr : Nat} (h : DG hd fr S) (hh : ∀ c, c < 256 → hd c ≤ 10) (hf : fr < 256) (hC : CD hd S 256 0) : ∀ d c v, c < 256 → pc hd fr d c v → S c ≠ 999999 ∧ S c ≤ v
  | 0, c, v, hc, y => by
    obtain ⟨e, g, e2⟩ := y
    subst e
    have := h.2.2
    have := hh c hc
    exact ⟨by omega, by omega⟩
  | d + 1, c, v, hc, y => by
    rcases y with y | ⟨g, p, w, v', hp, hw, e, y, e2⟩
    · exact DG_fin h hh hf hC d c v hc y
    · obtain ⟨h1, h2⟩ := DG_fin h hh hf hC d p v' hp y
      have hn : nb c ((w + 2) % 4) = p := by rw [← e]; exact nb_inv p hp w hw (by omega)
      have h3 := hC c ((w + 2) % 4) hc (Nat.mod_lt _ (by decide)) (Or.inl hc) g (by rw [hn]; exact hp) (by rw [hn]; exact h1)
      rw [hn] at h3
      have h4 := (h.2.1 p hp h1).2
      have h5 := nf_le S
      have h6 := hh c hc
      exact ⟨by omega, by omega⟩
theorem DG_r {hd S : Nat → Nat} {fr to : Nat} (h : DG hd fr S) (hh : ∀ c, c < 256 → hd c ≤ 10) (hf : fr < 256) (ht : to < 256) (hC : CD hd S 256 0) : (S to = 999999 → DSr hd fr to (-1)) ∧ (S to ≠ 999999 → DSr hd fr to (nI (S to))) :=
  ⟨fun e => Or.inl ⟨rfl, fun d v y => (DG_fin h hh hf hC d to v ht y).1 e⟩, fun e => Or.inr ⟨S to, by have := h.1 to ht; omega, rfl, (h.2.1 to ht e).1, fun d v y => (DG_fin h hh hf hC d to v ht y).2⟩⟩
def sgf (S : Nat → Nat) (f : Int32) : Nat := 2 * sumN S 256 + (if f = 0 then 0 else 1)
theorem sgf_d {hd S0 S : Nat → Nat} {c w : Nat} {f f0 : Int32} (h : FD hd S0 S c w f) (h0 : ¬ f0 = 0) : sgf S f < sgf S0 f0 := by
  rcases h with ⟨e, y⟩ | ⟨e, y, -⟩
  · simp only [sgf]; rw [e, if_neg (by decide), if_neg h0]; omega
  · simp only [sgf]; rw [e, if_pos rfl, if_neg h0]; omega
def WS (k : Nat) (I v : Mm) (S : Nat → Nat) : Prop := EqW k v I ∧ ∀ c, c < 256 → v (k + 6) c = nI (S c)
theorem WS.up {k : Nat} {I v : Mm} {S : Nat → Nat} (h : WS k I v S) (c x : Nat) : WS k I (wr v (k + 6) c (nI x)) (upS S c x) := ⟨h.1.wr _ _, fun y hy => by
  simp only [upS]
  by_cases e : y = c
  · rw [if_pos e, e, wr_ss]
  · rw [if_neg e, wr_sn _ _ _ e]; exact h.2 y hy⟩

theorem ini_s {v0 u : Mm} {k i x : Nat} {F : Nat → Nat} (hu : u = wr v0 (k + 6) i (nI x)) (hF : F i = x) (h : ∀ c, c < i → v0 (k + 6) c = nI (F c)) : ∀ c, c < i + 1 → u (k + 6) c = nI (F c) := by
  intro c hc
  rw [hu]
  by_cases e : c = i
  · rw [e, wr_ss, hF]
  · rw [wr_sn _ _ _ e]; exact h c (by omega)


set_option maxHeartbeats 4000000 in
set_option maxRecDepth 100000 in
theorem c_X6_dig (l : Launch) (D : va_G) (cs : Nat → ClassId) (ad : Nat → Nat) (I : Mm) (sz : Nat) (k : Nat) (hk : kM.getD k 0 = 10) (a : Int32) (b : Int32) (c0 : Int32) (d : Int32) (z : Nat) (J : Mm) (N : Nat) (hRl : Rl z J k I N) (hIV : IV J z N) (hd : Nat → Nat) (hh : ∀ c, c < 256 → hd c ≤ 10 ∧ J (z + 1 + 1) c = nI (hd c)) : MetI l yX6_dig wsX6_dig ({ frames := 2, cells := 0, slots := 0, locals := 43 }) kM cs D ad I sz [.ref (ad k), .int a, .int b, .int c0, .int d] (fun r u => PoP z k J N (thZ_two a b c0 d) (fun r => DSr hd (pl a b) (pl c0 d) r) r u) 0 0 := by
  refine g_met (cc := cX6_dig) (maxL := 11) (ret := (some .int)) (by decide) rfl (Nat.le_of_ble_eq_true rfl) ?_
  intro pg e s m args below meth c ls hx hb hr hml hts hown hlocks hsz hP hD hK hN hS hA hl
  have hown : s.vm.findClass RX6 = some m.cls := hown
  have hl : lv_has ls 11 [(0, .ref (ad k)), (1, .int a), (2, .int b), (3, .int c0), (4, .int d)] := hl
  have hN8 := hIV.1.2.1
  refine lv_aload_n hx hb dX6_dig_0 rfl (lv_at hl 0 rfl) ?_
  refine lv_iconst (v := nI 0) hx hb dX6_dig_1 (by decide) ?_
  refine g_put (κ := 10) (ci := 6) (v := nI 0) (ty := .int) (C := RX6) (T := TX6) (N := 8) hx hb hts hown hK hP hD hS (k := k) hk (by decide) rfl (fun _ h => List.mem_cons_of_mem _ (List.mem_append_right _ h)) tyX6 tyX6_ok nmX6 rfl 0 (by decide) (hts _ (List.mem_of_getElem? (i := 1) rfl)) (fun _ h9 => h9) rfl (by decide +kernel) rfl rfl (Nat.le_of_ble_eq_true rfl) rfl dX6_dig_2 (fun u1 H locs hu1 hP hD hS => ?_)
  have hR1 : Rl z J k u1 N := by rw [hu1]; exact hRl.th _
  have hT1 : u1 k 0 = nI 0 := by rw [hu1]; exact wr_ss _ _ _ _
  skip
  refine lv_iload_n hx hb dX6_dig_5 rfl (lv_at hl 1 rfl) ?_
  refine lv_iload_n hx hb dX6_dig_6 rfl (lv_at hl 2 rfl) ?_
  refine g_callF (F := f_X6_isCell a b) hD hS hA (va_runS (As := [.int a, .int b]) (rest := []) ⟨hx, hb, hml, hown, hts⟩ (c_X6_isCell l D cs ad u1 H.size a b) (va_cwS 2 hts gX6_dig_X6_isCell rfl rfl rfl (by decide +kernel) ⟨Nat.le_of_ble_eq_true rfl, Nat.le_of_ble_eq_true rfl⟩) (g_preS hP hD hK hN) rfl rfl hl.1 rfl (lv_room (Nat.le_of_ble_eq_true rfl)) dX6_dig_7 ⟨Nat.le_of_ble_eq_true rfl, Nat.le_of_ble_eq_true rfl⟩) (fun H locs hP hD hS => ?_)
  refine lv_if_eq (tgt := 22) hx hb dX6_dig_10 (by decide) (fun c_2 => ?_) (fun c_2 => ?_)
  · skip
    refine lv_aload_n hx hb dX6_dig_22 rfl (lv_at hl 0 rfl) ?_
    refine lv_iconst (v := nI 1) hx hb dX6_dig_23 (by decide) ?_
    refine g_callFM (F := f_X6_fail u1 k (nI 1)) (M := m_X6_fail u1 k (nI 1)) hD hS hA (va_runV (As := [.int (nI 1)]) (rest := []) ⟨hx, hb, hml, hown, hts⟩ (c_X6_fail l D cs ad u1 H.size k hk (nI 1)) (cwV 1 hts gX6_dig_X6_fail rfl rfl rfl (by decide +kernel) ⟨Nat.le_of_ble_eq_true rfl, Nat.le_of_ble_eq_true rfl⟩) (g_preV hP hD hK hN (k := k) hk (by decide) rfl rfl rfl rfl) rfl rfl hl.1 rfl (lv_room (Nat.le_of_ble_eq_true rfl)) dX6_dig_24 ⟨Nat.le_of_ble_eq_true rfl, Nat.le_of_ble_eq_true rfl⟩) (fun u3 H locs hu3 hP hD hS => ?_)
    exact g_iret (v := f_X6_fail u1 k (nI 1)) hx hb hr hlocks rfl hP hD hS (PoP.fail hR1 hu3 (two_0 (Or.inl c_2)) (by decide)) dX6_dig_27
  · skip
    refine lv_iload_n hx hb dX6_dig_13 rfl (lv_at hl 3 rfl) ?_
    refine lv_iload hx hb dX6_dig_14 (lv_at hl 4 rfl) ?_
    refine g_callF (F := f_X6_isCell c0 d) hD hS hA (va_runS (As := [.int c0, .int d]) (rest := []) ⟨hx, hb, hml, hown, hts⟩ (c_X6_isCell l D cs ad u1 H.size c0 d) (va_cwS 2 hts gX6_dig_X6_isCell rfl rfl rfl (by decide +kernel) ⟨Nat.le_of_ble_eq_true rfl, Nat.le_of_ble_eq_true rfl⟩) (g_preS hP hD hK hN) rfl rfl hl.1 rfl (lv_room (Nat.le_of_ble_eq_true rfl)) dX6_dig_16 ⟨Nat.le_of_ble_eq_true rfl, Nat.le_of_ble_eq_true rfl⟩) (fun H locs hP hD hS => ?_)
    refine lv_if_ne (tgt := 28) hx hb dX6_dig_19 (by decide) (fun c_4 => ?_) (fun c_4 => ?_)
    · skip
      refine lv_iload_n hx hb dX6_dig_28 rfl (lv_at hl 1 rfl) ?_
      refine lv_bipush (v := nI 16) hx hb dX6_dig_29 (by decide) ?_
      refine lv_iload_n hx hb dX6_dig_31 rfl (lv_at hl 2 rfl) ?_
      refine lv_imul hx hb dX6_dig_32 ?_
      refine lv_iadd hx hb dX6_dig_33 ?_
      have h256 := pl_256 (cell_1 c_2)
      refine lv_topi (fun y9 ey9 => ?_)
      obtain rfl := ey9.trans (pl_x (cell_1 c_2))
      refine lv_istore (lv' := [(5, .int (nI (pl a b))), (0, .ref (ad k)), (1, .int a), (2, .int b), (3, .int c0), (4, .int d)]) hx hb dX6_dig_34 hl (by decide) rfl (fun ls hl => ?_)
      refine lv_iload_n hx hb dX6_dig_36 rfl (lv_at hl 4 rfl) ?_
      refine lv_bipush (v := nI 16) hx hb dX6_dig_37 (by decide) ?_
      refine lv_iload hx hb dX6_dig_39 (lv_at hl 5 rfl) ?_
      refine lv_imul hx hb dX6_dig_41 ?_
      refine lv_iadd hx hb dX6_dig_42 ?_
      have h256b := pl_256 (cell_1 c_4)
      refine lv_topi (fun y9 ey9 => ?_)
      obtain rfl := ey9.trans (pl_x (cell_1 c_4))
      have hzf := (hh _ h256).1
      refine lv_istore (lv' := [(6, .int (nI (pl c0 d))), (5, .int (nI (pl a b))), (0, .ref (ad k)), (1, .int a), (2, .int b), (3, .int c0), (4, .int d)]) hx hb dX6_dig_43 hl (by decide) rfl (fun ls hl => ?_)
      refine lv_aload_n hx hb dX6_dig_45 rfl (lv_at hl 2 rfl) ?_
      refine g_get (κ := 10) (ci := 6) (v := .ref (ad (k + 1))) (C := RX6) (T := TX6) (N := 8) hx hb hts hown hK hP (k := k) hk (by decide) rfl (fun _ h => List.mem_cons_of_mem _ (List.mem_append_right _ h)) rfl 1 (by decide) (hts _ (List.mem_of_getElem? (i := 2) rfl)) (fun _ h9 => h9) rfl dX6_dig_46 ?_
      refine lv_iload hx hb dX6_dig_49 (lv_at hl 1 rfl) ?_
      refine g_ialdn (n := 256) (i := (pl a b)) hx hb hK hP (k := (k + 1)) (kd_10_1 hk) (by decide) rfl (by omega) (by decide) dX6_dig_51 ?_
      rw [show u1 (k + 1) (pl a b) = nI (hd (pl a b)) from ((hR1.c1 (by omega)).trans (hh _ (by omega)).2)]
      refine lv_bipush (v := nI 10) hx hb dX6_dig_52 (by decide) ?_
      refine lv_icmp_ne (tgt := 59) hx hb dX6_dig_54 (by decide) (fun c_5 => ?_) (fun c_5 => ?_)
      · skip
        have nc_5 : ¬ (hd (pl a b)) = 10 := fun z9_ => c_5 ((nI_eq (a := (hd (pl a b))) (b := 10) (by omega) (by omega)).mpr z9_)
        refine lv_iconst (v := nI 0) hx hb dX6_dig_59 (by decide) ?_
        refine lv_istore (lv' := [(7, .int (nI 0)), (6, .int (nI (pl c0 d))), (5, .int (nI (pl a b))), (0, .ref (ad k)), (1, .int a), (2, .int b), (3, .int c0), (4, .int d)]) hx hb dX6_dig_60 hl (by decide) rfl (fun ls hl => ?_)
        suffices KL62 : ∀ (fuel : Nat) (i : Nat) (v0 : Mm) (H : Heap) (locs : List Loc) (ls : Array Slot), (i ≤ 256) → (EqW k v0 u1) → (∀ c, c < i → v0 (k + 6) c = nI (iniS hd (pl a b) c)) → 256 - i < fuel → va_P D vwCl (gw kM cs ad v0) H → va_D (gA kM ad sz) (gw kM cs ad v0) → va_S (gA kM ad sz) s.heap H locs → lv_has ls 11 [(7, .int (nI i)), (6, .int (nI (pl c0 d))), (5, .int (nI (pl a b))), (0, .ref (ad k)), (1, .int a), (2, .int b), (3, .int c0), (4, .int d)] → W pg l e ({ frames := 2, cells := 0, slots := 0, locals := 43 }) s m args below meth c H locs 0 0 (MQ below (va_Qi (fun r u => PoP z k J N (thZ_two a b c0 d) (fun r => DSr hd (pl a b) (pl c0 d) r) r u) (wat kM cs D ad (gA kM ad sz)) (gA kM ad sz)) args s 0 0 (gA kM ad sz)) (F0 m 62 ls []) from KL62 _ 0 u1 _ _ _ (Nat.zero_le _) (EqW.rf _ _) (fun c hc => absurd hc (Nat.not_lt_zero _)) (Nat.lt_succ_self _) hP hD hS (lv_sub hl [0, 1, 2, 3, 4, 5, 6, 7] rfl)
        intro fuel62
        induction fuel62 with
        | zero => intro _ _ _ _ _ _ _ _ hm; exact absurd hm (Nat.not_lt_zero _)
        | succ fuel62 ih62 =>
          intro i v0 H locs ls hi hI0 hV0 hm62 hP hD hS hl
          refine lv_iload hx hb dX6_dig_62 (lv_at hl 0 rfl) ?_
          refine lv_sipush (v := nI 256) hx hb dX6_dig_64 (by decide) ?_
          refine lv_icmp_ge (tgt := 102) hx hb dX6_dig_67 (by decide) (fun c_6 => ?_) (fun c_6 => ?_)
          · skip
            have nc_6 : 256 ≤ i := (nI_leI (a := 256) (b := i) (by omega) (by omega)).mp c_6
            refine lv_iconst (v := nI 1) hx hb dX6_dig_102 (by decide) ?_
            refine lv_istore (lv' := [(7, .int (nI 1)), (6, .int (nI (pl c0 d))), (5, .int (nI (pl a b))), (0, .ref (ad k)), (1, .int a), (2, .int b), (3, .int c0), (4, .int d)]) hx hb dX6_dig_103 hl (by decide) rfl (fun ls hl => ?_)
            suffices KL105 : ∀ (fuel : Nat) (S : Nat → Nat) (v : Mm) (f : Int32) (H : Heap) (locs : List Loc) (ls : Array Slot), (WS k u1 v S) → (DG hd (pl a b) S) → (f = nI 1 ∨ (f = 0 ∧ CD hd S 256 0)) → sgf S f < fuel → va_P D vwCl (gw kM cs ad v) H → va_D (gA kM ad sz) (gw kM cs ad v) → va_S (gA kM ad sz) s.heap H locs → lv_has ls 11 [(7, .int f), (6, .int (nI (pl c0 d))), (5, .int (nI (pl a b))), (0, .ref (ad k)), (1, .int a), (2, .int b), (3, .int c0), (4, .int d)] → W pg l e ({ frames := 2, cells := 0, slots := 0, locals := 43 }) s m args below meth c H locs 0 0 (MQ below (va_Qi (fun r u => PoP z k J N (thZ_two a b c0 d) (fun r => DSr hd (pl a b) (pl c0 d) r) r u) (wat kM cs D ad (gA kM ad sz)) (gA kM ad sz)) args s 0 0 (gA kM ad sz)) (F0 m 105 ls []) from KL105 _ (iniS hd (pl a b)) v0 (nI 1) _ _ _ ⟨hI0, fun c hc => hV0 c (by omega)⟩ (DG_0 h256 nc_5 hzf) (Or.inl rfl) (Nat.lt_succ_self _) hP hD hS (lv_sub hl [0, 1, 2, 3, 4, 5, 6, 7] rfl)
            intro fuel105
            induction fuel105 with
            | zero => intro _ _ _ _ _ _ _ _ _ hm; exact absurd hm (Nat.not_lt_zero _)
            | succ fuel105 ih105 =>
              intro S v f H locs ls hW hDG hcl hm105 hP hD hS hl
              refine lv_iload hx hb dX6_dig_105 (lv_at hl 0 rfl) ?_
              refine lv_if_eq (tgt := 240) hx hb dX6_dig_107 (by decide) (fun c_7 => ?_) (fun c_7 => ?_)
              · skip
                refine lv_aload_n hx hb dX6_dig_240 rfl (lv_at hl 3 rfl) ?_
                refine g_get (κ := 10) (ci := 6) (v := .ref (ad (k + 6))) (C := RX6) (T := TX6) (N := 8) hx hb hts hown hK hP (k := k) hk (by decide) rfl (fun _ h => List.mem_cons_of_mem _ (List.mem_append_right _ h)) rfl 7 (by decide) (hts _ (List.mem_of_getElem? (i := 3) rfl)) (fun _ h9 => h9) rfl dX6_dig_241 ?_
                refine lv_iload hx hb dX6_dig_244 (lv_at hl 1 rfl) ?_
                have hz5 := hDG.1 _ h256b
                refine g_ialdn (n := 256) (i := (pl c0 d)) hx hb hK hP (k := (k + 6)) (kd_10_7 hk) (by decide) rfl (by omega) (by decide) dX6_dig_246 ?_
                rw [show v (k + 6) (pl c0 d) = nI (S (pl c0 d)) from (hW.2 _ (by omega))]
                refine lv_ldc (v := nI 999999) hx hb hown (hts _ (List.mem_of_getElem? (i := 4) rfl)) dX6_dig_247 ?_
                refine lv_icmp_ne (tgt := 256) hx hb dX6_dig_249 (by decide) (fun c_8 => ?_) (fun c_8 => ?_)
                · skip
                  have nc_8 : ¬ (S (pl c0 d)) = 999999 := fun z9_ => c_8 ((nI_eq (a := (S (pl c0 d))) (b := 999999) (by omega) (by omega)).mpr z9_)
                  refine lv_aload_n hx hb dX6_dig_256 rfl (lv_at hl 3 rfl) ?_
                  refine g_get (κ := 10) (ci := 6) (v := .ref (ad (k + 6))) (C := RX6) (T := TX6) (N := 8) hx hb hts hown hK hP (k := k) hk (by decide) rfl (fun _ h => List.mem_cons_of_mem _ (List.mem_append_right _ h)) rfl 7 (by decide) (hts _ (List.mem_of_getElem? (i := 3) rfl)) (fun _ h9 => h9) rfl dX6_dig_257 ?_
                  refine lv_iload hx hb dX6_dig_260 (lv_at hl 1 rfl) ?_
                  refine g_ialdn (n := 256) (i := (pl c0 d)) hx hb hK hP (k := (k + 6)) (kd_10_7 hk) (by decide) rfl (by omega) (by decide) dX6_dig_262 ?_
                  rw [show v (k + 6) (pl c0 d) = nI (S (pl c0 d)) from (hW.2 _ (by omega))]
                  exact g_iret (v := nI (S (pl c0 d))) hx hb hr hlocks rfl hP hD hS (PoP.ok (hR1.eqw hW.1) ((congrFun (hW.1 k (by omega)) 0).trans hT1) (two_1 c_2 c_4) ((DG_r hDG (fun c hc => (hh c hc).1) h256 h256b (by rcases hcl with e | ⟨_, y⟩; exact absurd (e.symm.trans c_7) (by decide); exact y)).2 nc_8)) dX6_dig_263
                · skip
                  have nc_8 : (S (pl c0 d)) = 999999 := (nI_eq (a := (S (pl c0 d))) (b := 999999) (by omega) (by omega)).mp c_8
                  refine lv_iconst (v := -1) hx hb dX6_dig_252 (by decide) ?_
                  refine lv_goto (tgt := 263) hx hb dX6_dig_253 (by decide) ?_
                  exact g_iret (v := -1) hx hb hr hlocks rfl hP hD hS (PoP.ok (hR1.eqw hW.1) ((congrFun (hW.1 k (by omega)) 0).trans hT1) (two_1 c_2 c_4) ((DG_r hDG (fun c hc => (hh c hc).1) h256 h256b (by rcases hcl with e | ⟨_, y⟩; exact absurd (e.symm.trans c_7) (by decide); exact y)).1 nc_8)) dX6_dig_263
              · skip
                refine lv_iconst (v := nI 0) hx hb dX6_dig_110 (by decide) ?_
                refine lv_istore (lv' := [(7, .int (nI 0)), (6, .int (nI (pl c0 d))), (5, .int (nI (pl a b))), (0, .ref (ad k)), (1, .int a), (2, .int b), (3, .int c0), (4, .int d)]) hx hb dX6_dig_111 hl (by decide) rfl (fun ls hl => ?_)
                refine lv_iconst (v := nI 0) hx hb dX6_dig_113 (by decide) ?_
                refine lv_istore (lv' := [(8, .int (nI 0)), (7, .int (nI 0)), (6, .int (nI (pl c0 d))), (5, .int (nI (pl a b))), (0, .ref (ad k)), (1, .int a), (2, .int b), (3, .int c0), (4, .int d)]) hx hb dX6_dig_114 hl (by decide) rfl (fun ls hl => ?_)
                suffices KL116 : ∀ (fuel : Nat) (ci : Nat) (S2 : Nat → Nat) (v2 : Mm) (f2 : Int32) (H : Heap) (locs : List Loc) (ls : Array Slot), (ci ≤ 256) → (WS k u1 v2 S2) → (DG hd (pl a b) S2) → (FD hd S S2 ci 0 f2) → 256 - ci < fuel → va_P D vwCl (gw kM cs ad v2) H → va_D (gA kM ad sz) (gw kM cs ad v2) → va_S (gA kM ad sz) s.heap H locs → lv_has ls 11 [(8, .int (nI ci)), (7, .int f2), (6, .int (nI (pl c0 d))), (5, .int (nI (pl a b))), (0, .ref (ad k)), (1, .int a), (2, .int b), (3, .int c0), (4, .int d)] → W pg l e ({ frames := 2, cells := 0, slots := 0, locals := 43 }) s m args below meth c H locs 0 0 (MQ below (va_Qi (fun r u => PoP z k J N (thZ_two a b c0 d) (fun r => DSr hd (pl a b) (pl c0 d) r) r u) (wat kM cs D ad (gA kM ad sz)) (gA kM ad sz)) args s 0 0 (gA kM ad sz)) (F0 m 116 ls []) from KL116 _ 0 S v (nI 0) _ _ _ (Nat.zero_le _) hW hDG (FD_0 _ _) (Nat.lt_succ_self _) hP hD hS (lv_sub hl [0, 1, 2, 3, 4, 5, 6, 7, 8] rfl)
                intro fuel116
                induction fuel116 with
                | zero => intro _ _ _ _ _ _ _ _ _ _ _ hm; exact absurd hm (Nat.not_lt_zero _)
                | succ fuel116 ih116 =>
                  intro ci S2 v2 f2 H locs ls hci hW2 hDG2 hFD hm116 hP hD hS hl
                  refine lv_iload hx hb dX6_dig_116 (lv_at hl 0 rfl) ?_
                  refine lv_sipush (v := nI 256) hx hb dX6_dig_118 (by decide) ?_
                  refine lv_icmp_ge (tgt := 237) hx hb dX6_dig_121 (by decide) (fun c_9 => ?_) (fun c_9 => ?_)
                  · skip
                    have nc_9 : 256 ≤ ci := (nI_leI (a := 256) (b := ci) (by omega) (by omega)).mp c_9
                    refine lv_goto (tgt := 105) hx hb dX6_dig_237 (by decide) ?_
                    exact ih105 S2 v2 f2 _ _ _ hW2 hDG2 (by rw [show ci = 256 from by omega] at hFD; exact hFD.elim (fun y => Or.inl y.1) (fun y => Or.inr ⟨y.1, y.2.2⟩)) (by have := sgf_d hFD c_7; omega) hP hD hS (lv_sub hl [1, 2, 3, 4, 5, 6, 7, 8] rfl)
                  · skip
                    have nc_9 : ¬ 256 ≤ ci := fun z9_ => c_9 ((nI_leI (a := 256) (b := ci) (by omega) (by omega)).mpr z9_)
                    refine lv_iconst (v := nI 0) hx hb dX6_dig_124 (by decide) ?_
                    refine lv_istore (lv' := [(9, .int (nI 0)), (8, .int (nI ci)), (7, .int f2), (6, .int (nI (pl c0 d))), (5, .int (nI (pl a b))), (0, .ref (ad k)), (1, .int a), (2, .int b), (3, .int c0), (4, .int d)]) hx hb dX6_dig_125 hl (by decide) rfl (fun ls hl => ?_)
                    suffices KL127 : ∀ (fuel : Nat) (wi : Nat) (S2 : Nat → Nat) (v2 : Mm) (f2 : Int32) (H : Heap) (locs : List Loc) (ls : Array Slot), (wi ≤ 4) → (WS k u1 v2 S2) → (DG hd (pl a b) S2) → (FD hd S S2 ci wi f2) → 4 - wi < fuel → va_P D vwCl (gw kM cs ad v2) H → va_D (gA kM ad sz) (gw kM cs ad v2) → va_S (gA kM ad sz) s.heap H locs → lv_has ls 11 [(9, .int (nI wi)), (8, .int (nI ci)), (7, .int f2), (6, .int (nI (pl c0 d))), (5, .int (nI (pl a b))), (0, .ref (ad k)), (1, .int a), (2, .int b), (3, .int c0), (4, .int d)] → W pg l e ({ frames := 2, cells := 0, slots := 0, locals := 43 }) s m args below meth c H locs 0 0 (MQ below (va_Qi (fun r u => PoP z k J N (thZ_two a b c0 d) (fun r => DSr hd (pl a b) (pl c0 d) r) r u) (wat kM cs D ad (gA kM ad sz)) (gA kM ad sz)) args s 0 0 (gA kM ad sz)) (F0 m 127 ls []) from KL127 _ 0 S2 v2 f2 _ _ _ (Nat.zero_le _) hW2 hDG2 hFD (Nat.lt_succ_self _) hP hD hS (lv_sub hl [0, 1, 2, 3, 4, 5, 6, 7, 8, 9] rfl)
                    intro fuel127
                    induction fuel127 with
                    | zero => intro _ _ _ _ _ _ _ _ _ _ _ hm; exact absurd hm (Nat.not_lt_zero _)
                    | succ fuel127 ih127 =>
                      intro wi S2 v2 f2 H locs ls hwi hW2 hDG2 hFD hm127 hP hD hS hl
                      refine lv_iload hx hb dX6_dig_127 (lv_at hl 0 rfl) ?_
                      refine lv_iconst (v := nI 4) hx hb dX6_dig_129 (by decide) ?_
                      refine lv_icmp_ge (tgt := 231) hx hb dX6_dig_130 (by decide) (fun c_10 => ?_) (fun c_10 => ?_)
                      · skip
                        have nc_10 : 4 ≤ wi := (nI_leI (a := 4) (b := wi) (by omega) (by omega)).mp c_10
                        refine lv_iinc (v := nI (ci + 1)) (lv' := [(8, .int (nI (ci + 1))), (9, .int (nI wi)), (7, .int f2), (6, .int (nI (pl c0 d))), (5, .int (nI (pl a b))), (0, .ref (ad k)), (1, .int a), (2, .int b), (3, .int c0), (4, .int d)]) hx hb dX6_dig_231 hl (k := 1) rfl (nI_1 ci) (by decide) rfl (fun ls hl => ?_)
                        refine lv_goto (tgt := 116) hx hb dX6_dig_234 (by decide) ?_
                        exact ih116 (ci + 1) S2 v2 f2 _ _ _ (by omega) hW2 hDG2 (FD_row hFD (Or.inl (by omega))) (by omega) hP hD hS (lv_sub hl [0, 2, 3, 4, 5, 6, 7, 8, 9] rfl)
                      · skip
                        have nc_10 : ¬ 4 ≤ wi := fun z9_ => c_10 ((nI_leI (a := 4) (b := wi) (by omega) (by omega)).mpr z9_)
                        refine lv_aload_n hx hb dX6_dig_133 rfl (lv_at hl 5 rfl) ?_
                        refine g_get (κ := 10) (ci := 6) (v := .ref (ad (k + 1))) (C := RX6) (T := TX6) (N := 8) hx hb hts hown hK hP (k := k) hk (by decide) rfl (fun _ h => List.mem_cons_of_mem _ (List.mem_append_right _ h)) rfl 1 (by decide) (hts _ (List.mem_of_getElem? (i := 2) rfl)) (fun _ h9 => h9) rfl dX6_dig_134 ?_
                        refine lv_iload hx hb dX6_dig_137 (lv_at hl 1 rfl) ?_
                        have hz4 := (hh ci (by omega)).1
                        refine g_ialdn (n := 256) (i := ci) hx hb hK hP (k := (k + 1)) (kd_10_1 hk) (by decide) rfl (by omega) (by decide) dX6_dig_139 ?_
                        rw [show v2 (k + 1) ci = nI (hd ci) from (((hR1.eqw hW2.1).c1 (by omega)).trans (hh _ (by omega)).2)]
                        refine lv_bipush (v := nI 10) hx hb dX6_dig_140 (by decide) ?_
                        refine lv_icmp_eq (tgt := 231) hx hb dX6_dig_142 (by decide) (fun c_11 => ?_) (fun c_11 => ?_)
                        · skip
                          have nc_11 : (hd ci) = 10 := (nI_eq (a := (hd ci)) (b := 10) (by omega) (by omega)).mp c_11
                          refine lv_iinc (v := nI (ci + 1)) (lv' := [(8, .int (nI (ci + 1))), (9, .int (nI wi)), (7, .int f2), (6, .int (nI (pl c0 d))), (5, .int (nI (pl a b))), (0, .ref (ad k)), (1, .int a), (2, .int b), (3, .int c0), (4, .int d)]) hx hb dX6_dig_231 hl (k := 1) rfl (nI_1 ci) (by decide) rfl (fun ls hl => ?_)
                          refine lv_goto (tgt := 116) hx hb dX6_dig_234 (by decide) ?_
                          exact ih116 (ci + 1) S2 v2 f2 _ _ _ (by omega) hW2 hDG2 (FD_row hFD (Or.inr nc_11)) (by omega) hP hD hS (lv_sub hl [0, 2, 3, 4, 5, 6, 7, 8, 9] rfl)
                        · skip
                          have nc_11 : ¬ (hd ci) = 10 := fun z9_ => c_11 ((nI_eq (a := (hd ci)) (b := 10) (by omega) (by omega)).mpr z9_)
                          refine lv_iload hx hb dX6_dig_145 (lv_at hl 1 rfl) ?_
                          refine lv_iload hx hb dX6_dig_147 (lv_at hl 0 rfl) ?_
                          refine g_callF (F := f_X6_beside (nI ci) (nI wi)) hD hS hA (va_runS (As := [.int (nI ci), .int (nI wi)]) (rest := []) ⟨hx, hb, hml, hown, hts⟩ (c_X6_beside l D cs ad v2 H.size (nI ci) (nI wi)) (va_cwS 2 hts gX6_dig_X6_beside rfl rfl rfl (by decide +kernel) ⟨Nat.le_of_ble_eq_true rfl, Nat.le_of_ble_eq_true rfl⟩) (g_preS hP hD hK hN) rfl rfl hl.1 rfl (lv_room (Nat.le_of_ble_eq_true rfl)) dX6_dig_149 ⟨Nat.le_of_ble_eq_true rfl, Nat.le_of_ble_eq_true rfl⟩) (fun H locs hP hD hS => ?_)
                          refine lv_istore (lv' := [(10, .int (f_X6_beside (nI ci) (nI wi))), (9, .int (nI wi)), (8, .int (nI ci)), (7, .int f2), (6, .int (nI (pl c0 d))), (5, .int (nI (pl a b))), (0, .ref (ad k)), (1, .int a), (2, .int b), (3, .int c0), (4, .int d)]) hx hb dX6_dig_152 hl (by decide) rfl (fun ls hl => ?_)
                          refine lv_iload hx hb dX6_dig_154 (lv_at hl 0 rfl) ?_
                          refine lv_iconst (v := -1) hx hb dX6_dig_156 (by decide) ?_
                          refine lv_icmp_eq (tgt := 225) hx hb dX6_dig_157 (by decide) (fun c_12 => ?_) (fun c_12 => ?_)
                          · skip
                            refine lv_iinc (v := nI (wi + 1)) (lv' := [(9, .int (nI (wi + 1))), (10, .int (f_X6_beside (nI ci) (nI wi))), (8, .int (nI ci)), (7, .int f2), (6, .int (nI (pl c0 d))), (5, .int (nI (pl a b))), (0, .ref (ad k)), (1, .int a), (2, .int b), (3, .int c0), (4, .int d)]) hx hb dX6_dig_225 hl (k := 1) rfl (nI_1 wi) (by decide) rfl (fun ls hl => ?_)
                            refine lv_goto (tgt := 127) hx hb dX6_dig_228 (by decide) ?_
                            exact ih127 (wi + 1) S2 v2 f2 _ _ _ (by omega) hW2 hDG2 (FD_skip hFD (fun y => absurd y (besN (by omega) (by omega) c_12))) (by omega) hP hD hS (lv_sub hl [0, 2, 3, 4, 5, 6, 7, 8, 9, 10] rfl)
                          · skip
                            obtain ⟨hnb1, hnb2⟩ := besY (by omega) (by omega) c_12
                            have hz1 := hDG2.1 ci (by omega)
                            have hz2 := hDG2.1 _ hnb1
                            have hz3 := (hh ci (by omega)).1
                            refine lv_aload_n hx hb dX6_dig_160 rfl (lv_at hl 6 rfl) ?_
                            refine g_get (κ := 10) (ci := 6) (v := .ref (ad (k + 6))) (C := RX6) (T := TX6) (N := 8) hx hb hts hown hK hP (k := k) hk (by decide) rfl (fun _ h => List.mem_cons_of_mem _ (List.mem_append_right _ h)) rfl 7 (by decide) (hts _ (List.mem_of_getElem? (i := 3) rfl)) (fun _ h9 => h9) rfl dX6_dig_161 ?_
                            refine lv_iload hx hb dX6_dig_164 (lv_at hl 0 rfl) ?_
                            refine lv_topi (fun y9 ey9 => ?_)
                            obtain rfl := ey9.trans hnb2
                            refine g_ialdn (n := 256) (i := (nb ci wi)) hx hb hK hP (k := (k + 6)) (kd_10_7 hk) (by decide) rfl (by omega) (by decide) dX6_dig_166 ?_
                            rw [show v2 (k + 6) (nb ci wi) = nI (S2 (nb ci wi)) from (hW2.2 _ (by omega))]
                            refine lv_ldc (v := nI 999999) hx hb hown (hts _ (List.mem_of_getElem? (i := 4) rfl)) dX6_dig_167 ?_
                            refine lv_icmp_eq (tgt := 225) hx hb dX6_dig_169 (by decide) (fun c_13 => ?_) (fun c_13 => ?_)
                            · skip
                              have nc_13 : (S2 (nb ci wi)) = 999999 := (nI_eq (a := (S2 (nb ci wi))) (b := 999999) (by omega) (by omega)).mp c_13
                              refine lv_iinc (v := nI (wi + 1)) (lv' := [(9, .int (nI (wi + 1))), (10, .int (f_X6_beside (nI ci) (nI wi))), (8, .int (nI ci)), (7, .int f2), (6, .int (nI (pl c0 d))), (5, .int (nI (pl a b))), (0, .ref (ad k)), (1, .int a), (2, .int b), (3, .int c0), (4, .int d)]) hx hb dX6_dig_225 hl (k := 1) rfl (nI_1 wi) (by decide) rfl (fun ls hl => ?_)
                              refine lv_goto (tgt := 127) hx hb dX6_dig_228 (by decide) ?_
                              exact ih127 (wi + 1) S2 v2 f2 _ _ _ (by omega) hW2 hDG2 (FD_skip hFD (fun _ y => absurd nc_13 y)) (by omega) hP hD hS (lv_sub hl [0, 2, 3, 4, 5, 6, 7, 8, 9, 10] rfl)
                            · skip
                              have nc_13 : ¬ (S2 (nb ci wi)) = 999999 := fun z9_ => c_13 ((nI_eq (a := (S2 (nb ci wi))) (b := 999999) (by omega) (by omega)).mpr z9_)
                              refine lv_aload_n hx hb dX6_dig_172 rfl (lv_at hl 6 rfl) ?_
                              refine g_get (κ := 10) (ci := 6) (v := .ref (ad (k + 6))) (C := RX6) (T := TX6) (N := 8) hx hb hts hown hK hP (k := k) hk (by decide) rfl (fun _ h => List.mem_cons_of_mem _ (List.mem_append_right _ h)) rfl 7 (by decide) (hts _ (List.mem_of_getElem? (i := 3) rfl)) (fun _ h9 => h9) rfl dX6_dig_173 ?_
                              refine lv_iload hx hb dX6_dig_176 (lv_at hl 0 rfl) ?_
                              refine lv_topi (fun y9 ey9 => ?_)
                              obtain rfl := ey9.trans hnb2
                              refine g_ialdn (n := 256) (i := (nb ci wi)) hx hb hK hP (k := (k + 6)) (kd_10_7 hk) (by decide) rfl (by omega) (by decide) dX6_dig_178 ?_
                              rw [show v2 (k + 6) (nb ci wi) = nI (S2 (nb ci wi)) from (hW2.2 _ (by omega))]
                              refine lv_aload_n hx hb dX6_dig_179 rfl (lv_at hl 6 rfl) ?_
                              refine g_get (κ := 10) (ci := 6) (v := .ref (ad (k + 1))) (C := RX6) (T := TX6) (N := 8) hx hb hts hown hK hP (k := k) hk (by decide) rfl (fun _ h => List.mem_cons_of_mem _ (List.mem_append_right _ h)) rfl 1 (by decide) (hts _ (List.mem_of_getElem? (i := 2) rfl)) (fun _ h9 => h9) rfl dX6_dig_180 ?_
                              refine lv_iload hx hb dX6_dig_183 (lv_at hl 2 rfl) ?_
                              refine g_ialdn (n := 256) (i := ci) hx hb hK hP (k := (k + 1)) (kd_10_1 hk) (by decide) rfl (by omega) (by decide) dX6_dig_185 ?_
                              rw [show v2 (k + 1) ci = nI (hd ci) from (((hR1.eqw hW2.1).c1 (by omega)).trans (hh _ (by omega)).2)]
                              refine lv_iadd hx hb dX6_dig_186 ?_
                              rw [nI_add (S2 (nb ci wi)) (hd ci)]
                              refine lv_aload_n hx hb dX6_dig_187 rfl (lv_at hl 6 rfl) ?_
                              refine g_get (κ := 10) (ci := 6) (v := .ref (ad (k + 6))) (C := RX6) (T := TX6) (N := 8) hx hb hts hown hK hP (k := k) hk (by decide) rfl (fun _ h => List.mem_cons_of_mem _ (List.mem_append_right _ h)) rfl 7 (by decide) (hts _ (List.mem_of_getElem? (i := 3) rfl)) (fun _ h9 => h9) rfl dX6_dig_188 ?_
                              refine lv_iload hx hb dX6_dig_191 (lv_at hl 2 rfl) ?_
                              refine g_ialdn (n := 256) (i := ci) hx hb hK hP (k := (k + 6)) (kd_10_7 hk) (by decide) rfl (by omega) (by decide) dX6_dig_193 ?_
                              rw [show v2 (k + 6) ci = nI (S2 ci) from (hW2.2 _ (by omega))]
                              refine lv_icmp_lt (tgt := 200) hx hb dX6_dig_194 (by decide) (fun c_14 => ?_) (fun c_14 => ?_)
                              · skip
                                have nc_14 : ((S2 (nb ci wi)) + (hd ci)) < (S2 ci) := (nI_ltI (a := ((S2 (nb ci wi)) + (hd ci))) (b := (S2 ci)) (by omega) (by omega)).mp c_14
                                refine lv_aload_n hx hb dX6_dig_200 rfl (lv_at hl 6 rfl) ?_
                                refine g_get (κ := 10) (ci := 6) (v := .ref (ad (k + 6))) (C := RX6) (T := TX6) (N := 8) hx hb hts hown hK hP (k := k) hk (by decide) rfl (fun _ h => List.mem_cons_of_mem _ (List.mem_append_right _ h)) rfl 7 (by decide) (hts _ (List.mem_of_getElem? (i := 3) rfl)) (fun _ h9 => h9) rfl dX6_dig_201 ?_
                                refine lv_iload hx hb dX6_dig_204 (lv_at hl 2 rfl) ?_
                                refine lv_aload_n hx hb dX6_dig_206 rfl (lv_at hl 6 rfl) ?_
                                refine g_get (κ := 10) (ci := 6) (v := .ref (ad (k + 6))) (C := RX6) (T := TX6) (N := 8) hx hb hts hown hK hP (k := k) hk (by decide) rfl (fun _ h => List.mem_cons_of_mem _ (List.mem_append_right _ h)) rfl 7 (by decide) (hts _ (List.mem_of_getElem? (i := 3) rfl)) (fun _ h9 => h9) rfl dX6_dig_207 ?_
                                refine lv_iload hx hb dX6_dig_210 (lv_at hl 0 rfl) ?_
                                refine lv_topi (fun y9 ey9 => ?_)
                                obtain rfl := ey9.trans hnb2
                                refine g_ialdn (n := 256) (i := (nb ci wi)) hx hb hK hP (k := (k + 6)) (kd_10_7 hk) (by decide) rfl (by omega) (by decide) dX6_dig_212 ?_
                                rw [show v2 (k + 6) (nb ci wi) = nI (S2 (nb ci wi)) from (hW2.2 _ (by omega))]
                                refine lv_aload_n hx hb dX6_dig_213 rfl (lv_at hl 6 rfl) ?_
                                refine g_get (κ := 10) (ci := 6) (v := .ref (ad (k + 1))) (C := RX6) (T := TX6) (N := 8) hx hb hts hown hK hP (k := k) hk (by decide) rfl (fun _ h => List.mem_cons_of_mem _ (List.mem_append_right _ h)) rfl 1 (by decide) (hts _ (List.mem_of_getElem? (i := 2) rfl)) (fun _ h9 => h9) rfl dX6_dig_214 ?_
                                refine lv_iload hx hb dX6_dig_217 (lv_at hl 2 rfl) ?_
                                refine g_ialdn (n := 256) (i := ci) hx hb hK hP (k := (k + 1)) (kd_10_1 hk) (by decide) rfl (by omega) (by decide) dX6_dig_219 ?_
                                rw [show v2 (k + 1) ci = nI (hd ci) from (((hR1.eqw hW2.1).c1 (by omega)).trans (hh _ (by omega)).2)]
                                refine lv_iadd hx hb dX6_dig_220 ?_
                                rw [nI_add (S2 (nb ci wi)) (hd ci)]
                                refine g_iastn (n := 256) (i := ci) hx hb hK hP hD hS (k := (k + 6)) (kd_10_7 hk) (by decide) (fun _ => rfl) (by omega) (by decide) dX6_dig_221 (fun u15 H locs hu15 hP hD hS => ?_)
                                refine lv_iconst (v := nI 1) hx hb dX6_dig_222 (by decide) ?_
                                refine lv_istore (lv' := [(7, .int (nI 1)), (10, .int (f_X6_beside (nI ci) (nI wi))), (9, .int (nI wi)), (8, .int (nI ci)), (6, .int (nI (pl c0 d))), (5, .int (nI (pl a b))), (0, .ref (ad k)), (1, .int a), (2, .int b), (3, .int c0), (4, .int d)]) hx hb dX6_dig_223 hl (by decide) rfl (fun ls hl => ?_)
                                refine lv_iinc (v := nI (wi + 1)) (lv' := [(9, .int (nI (wi + 1))), (7, .int (nI 1)), (10, .int (f_X6_beside (nI ci) (nI wi))), (8, .int (nI ci)), (6, .int (nI (pl c0 d))), (5, .int (nI (pl a b))), (0, .ref (ad k)), (1, .int a), (2, .int b), (3, .int c0), (4, .int d)]) hx hb dX6_dig_225 hl (k := 2) rfl (nI_1 wi) (by decide) rfl (fun ls hl => ?_)
                                refine lv_goto (tgt := 127) hx hb dX6_dig_228 (by decide) ?_
                                exact ih127 (wi + 1) (upS S2 ci (S2 (nb ci wi) + hd ci)) u15 (nI 1) _ _ _ (by omega) (by rw [hu15]; exact hW2.up _ _) (DG_up hDG2 (hh ci (by omega)).1 (by omega) (by omega) nc_11 hnb1 nc_13 nc_14 (fun _ => trivial)) (FD_up hFD (by omega) nc_14 _ _) (by omega) hP hD hS (lv_sub hl [0, 3, 1, 4, 5, 6, 7, 8, 9, 10] rfl)
                              · skip
                                have nc_14 : ¬ ((S2 (nb ci wi)) + (hd ci)) < (S2 ci) := fun z9_ => c_14 ((nI_ltI (a := ((S2 (nb ci wi)) + (hd ci))) (b := (S2 ci)) (by omega) (by omega)).mpr z9_)
                                refine lv_goto (tgt := 225) hx hb dX6_dig_197 (by decide) ?_
                                refine lv_iinc (v := nI (wi + 1)) (lv' := [(9, .int (nI (wi + 1))), (10, .int (f_X6_beside (nI ci) (nI wi))), (8, .int (nI ci)), (7, .int f2), (6, .int (nI (pl c0 d))), (5, .int (nI (pl a b))), (0, .ref (ad k)), (1, .int a), (2, .int b), (3, .int c0), (4, .int d)]) hx hb dX6_dig_225 hl (k := 1) rfl (nI_1 wi) (by decide) rfl (fun ls hl => ?_)
                                refine lv_goto (tgt := 127) hx hb dX6_dig_228 (by decide) ?_
                                exact ih127 (wi + 1) S2 v2 f2 _ _ _ (by omega) hW2 hDG2 (FD_skip hFD (fun _ _ => by have := nc_14; omega)) (by omega) hP hD hS (lv_sub hl [0, 2, 3, 4, 5, 6, 7, 8, 9, 10] rfl)
          · skip
            have nc_6 : ¬ 256 ≤ i := fun z9_ => c_6 ((nI_leI (a := 256) (b := i) (by omega) (by omega)).mpr z9_)
            refine lv_aload_n hx hb dX6_dig_70 rfl (lv_at hl 3 rfl) ?_
            refine g_get (κ := 10) (ci := 6) (v := .ref (ad (k + 6))) (C := RX6) (T := TX6) (N := 8) hx hb hts hown hK hP (k := k) hk (by decide) rfl (fun _ h => List.mem_cons_of_mem _ (List.mem_append_right _ h)) rfl 7 (by decide) (hts _ (List.mem_of_getElem? (i := 3) rfl)) (fun _ h9 => h9) rfl dX6_dig_71 ?_
            refine lv_iload hx hb dX6_dig_74 (lv_at hl 0 rfl) ?_
            refine lv_iload hx hb dX6_dig_76 (lv_at hl 0 rfl) ?_
            refine lv_iload hx hb dX6_dig_78 (lv_at hl 2 rfl) ?_
            refine lv_icmp_ne (tgt := 93) hx hb dX6_dig_80 (by decide) (fun c_16 => ?_) (fun c_16 => ?_)
            · skip
              have nc_16 : ¬ i = (pl a b) := fun z9_ => c_16 ((nI_eq (a := i) (b := (pl a b)) (by omega) (by omega)).mpr z9_)
              refine lv_ldc (v := nI 999999) hx hb hown (hts _ (List.mem_of_getElem? (i := 4) rfl)) dX6_dig_93 ?_
              refine g_iastn (n := 256) (i := i) hx hb hK hP hD hS (k := (k + 6)) (kd_10_7 hk) (by decide) (fun _ => rfl) (by omega) (by decide) dX6_dig_95 (fun u17 H locs hu17 hP hD hS => ?_)
              refine lv_iinc (v := nI (i + 1)) (lv' := [(7, .int (nI (i + 1))), (6, .int (nI (pl c0 d))), (5, .int (nI (pl a b))), (0, .ref (ad k)), (1, .int a), (2, .int b), (3, .int c0), (4, .int d)]) hx hb dX6_dig_96 hl (k := 0) rfl (nI_1 i) (by decide) rfl (fun ls hl => ?_)
              refine lv_goto (tgt := 62) hx hb dX6_dig_99 (by decide) ?_
              exact ih62 (i + 1) u17 _ _ _ (by omega) (by rw [hu17]; exact hI0.wr _ _) (ini_s (by rw [hu17]) (iniS_n hd nc_16) hV0) (by omega) hP hD hS (lv_sub hl [0, 1, 2, 3, 4, 5, 6, 7] rfl)
            · skip
              have nc_16 : i = (pl a b) := (nI_eq (a := i) (b := (pl a b)) (by omega) (by omega)).mp c_16
              refine lv_aload_n hx hb dX6_dig_83 rfl (lv_at hl 3 rfl) ?_
              refine g_get (κ := 10) (ci := 6) (v := .ref (ad (k + 1))) (C := RX6) (T := TX6) (N := 8) hx hb hts hown hK hP (k := k) hk (by decide) rfl (fun _ h => List.mem_cons_of_mem _ (List.mem_append_right _ h)) rfl 1 (by decide) (hts _ (List.mem_of_getElem? (i := 2) rfl)) (fun _ h9 => h9) rfl dX6_dig_84 ?_
              refine lv_iload hx hb dX6_dig_87 (lv_at hl 2 rfl) ?_
              refine g_ialdn (n := 256) (i := (pl a b)) hx hb hK hP (k := (k + 1)) (kd_10_1 hk) (by decide) rfl (by omega) (by decide) dX6_dig_89 ?_
              rw [show v0 (k + 1) (pl a b) = nI (hd (pl a b)) from (((hR1.eqw hI0).c1 (by omega)).trans (hh _ (by omega)).2)]
              refine lv_goto (tgt := 95) hx hb dX6_dig_90 (by decide) ?_
              refine g_iastn (n := 256) (i := i) hx hb hK hP hD hS (k := (k + 6)) (kd_10_7 hk) (by decide) (fun _ => rfl) (by omega) (by decide) dX6_dig_95 (fun u18 H locs hu18 hP hD hS => ?_)
              refine lv_iinc (v := nI (i + 1)) (lv' := [(7, .int (nI (i + 1))), (6, .int (nI (pl c0 d))), (5, .int (nI (pl a b))), (0, .ref (ad k)), (1, .int a), (2, .int b), (3, .int c0), (4, .int d)]) hx hb dX6_dig_96 hl (k := 0) rfl (nI_1 i) (by decide) rfl (fun ls hl => ?_)
              refine lv_goto (tgt := 62) hx hb dX6_dig_99 (by decide) ?_
              exact ih62 (i + 1) u18 _ _ _ (by omega) (by rw [hu18]; exact hI0.wr _ _) (ini_s (by rw [hu18]) (show iniS hd (pl a b) i = hd (pl a b) from by rw [nc_16]; exact iniS_s _ _) hV0) (by omega) hP hD hS (lv_sub hl [0, 1, 2, 3, 4, 5, 6, 7] rfl)
      · skip
        have nc_5 : (hd (pl a b)) = 10 := (nI_eq (a := (hd (pl a b))) (b := 10) (by omega) (by omega)).mp c_5
        refine lv_iconst (v := -1) hx hb dX6_dig_57 (by decide) ?_
        exact g_iret (v := -1) hx hb hr hlocks rfl hP hD hS (PoP.ok hR1 hT1 (two_1 c_2 c_4) (Or.inl ⟨rfl, fun d9 v9 => pc_ice nc_5 d9 _ v9⟩)) dX6_dig_58
    · skip
      refine lv_aload_n hx hb dX6_dig_22 rfl (lv_at hl 0 rfl) ?_
      refine lv_iconst (v := nI 1) hx hb dX6_dig_23 (by decide) ?_
      refine g_callFM (F := f_X6_fail u1 k (nI 1)) (M := m_X6_fail u1 k (nI 1)) hD hS hA (va_runV (As := [.int (nI 1)]) (rest := []) ⟨hx, hb, hml, hown, hts⟩ (c_X6_fail l D cs ad u1 H.size k hk (nI 1)) (cwV 1 hts gX6_dig_X6_fail rfl rfl rfl (by decide +kernel) ⟨Nat.le_of_ble_eq_true rfl, Nat.le_of_ble_eq_true rfl⟩) (g_preV hP hD hK hN (k := k) hk (by decide) rfl rfl rfl rfl) rfl rfl hl.1 rfl (lv_room (Nat.le_of_ble_eq_true rfl)) dX6_dig_24 ⟨Nat.le_of_ble_eq_true rfl, Nat.le_of_ble_eq_true rfl⟩) (fun u19 H locs hu19 hP hD hS => ?_)
      exact g_iret (v := f_X6_fail u1 k (nI 1)) hx hb hr hlocks rfl hP hD hS (PoP.fail hR1 hu19 (two_0 (Or.inr ⟨c_2, c_4⟩)) (by decide)) dX6_dig_27
