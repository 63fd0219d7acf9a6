section TRADE
variable {z k N w : Nat} {J I v : Mm}
theorem Rl.wn0 (h : Rl z J k I N) (x : Int32) : Rl z (wr J z 4 x) k (wr I (k + 5) 0 x) N := h.wn 0 x (by decide)
theorem Rl.wn1 (h : Rl z J k I N) (x : Int32) : Rl z (wr J z 5 x) k (wr I (k + 5) 1 x) N := h.wn 1 x (by decide)
theorem Rl.wn2 (h : Rl z J k I N) (x : Int32) : Rl z (wr J z 6 x) k (wr I (k + 5) 2 x) N := h.wn 2 x (by decide)
theorem sub1 (x : Int32) : x - nI 1 = x + -1 := by rw [Int32.sub_eq_add_neg]; rfl
theorem wr_comm (J : Mm) {a b : Nat} (i j : Nat) (x y : Int32) (h : a ≠ b) : wr (wr J a i x) b j y = wr (wr J b j y) a i x := by
  have e : ∀ (L : Mm) (c i : Nat) (x : Int32), wr L c i x c = upd (L c) i x := fun L c i x => wrA_s _ _ _
  funext c
  by_cases h1 : c = a
  · rw [h1, wr_n _ _ _ h, e, e, wr_n _ _ _ h]
  · by_cases h2 : c = b
    · rw [h2, e, wr_n _ _ _ (Ne.symm h), wr_n _ _ _ (Ne.symm h), e]
    · rw [wr_n _ _ _ h2, wr_n _ _ _ h1, wr_n _ _ _ h1, wr_n _ _ _ h2]
theorem hand_eq {g1 g2 : Nat} (h : g1 ≠ g2) (h1 : z ≠ g1) (h2 : z ≠ g2) : m_X0_handLamp J z g1 g2 = wr (wr (wr J g1 2 (J g1 2 + -1)) g2 2 (J g2 2 + nI 1)) z 6 (J z 6 + nI 1) := by
  simp only [m_X0_handLamp]
  rw [wr_n (wr J g1 2 (J g1 2 - nI 1)) _ _ h2, wr_n J _ _ h1, wr_n J _ _ (Ne.symm h), sub1]
theorem hand_eq2 {g1 g2 : Nat} (h : g1 ≠ g2) (h1 : z ≠ g1) (h2 : z ≠ g2) : m_X0_handLamp J z g1 g2 = wr (wr (wr J g2 2 (J g2 2 + nI 1)) g1 2 (J g1 2 + -1)) z 6 (J z 6 + nI 1) := by
  rw [hand_eq h h1 h2, wr_comm J _ _ _ _ h]
theorem nb_inv : ∀ p, p < 256 → ∀ w, w < 4 → nb p w < 256 → nb (nb p w) ((w + 2) % 4) = p := by decide +kernel
theorem nr_ex {p q : Nat} (hp : p < 256) (hq : q < 256) : ∀ n, n ≤ 4 → (nr (nI p) (nI q) n = true ↔ (p = q ∨ ∃ w, w < n ∧ nb p w = q))
  | 0, _ => by
    simp only [nr]
    rw [decide_eq_true_iff, nI_eq (by omega) (by omega)]
    exact ⟨Or.inl, fun y => y.elim id (fun ⟨w, h, _⟩ => absurd h (Nat.not_lt_zero _))⟩
  | n + 1, hn => by
    simp only [nr]
    rw [Bool.or_eq_true, nr_ex hp hq n (by omega), decide_eq_true_iff, bes_nb p hp n (by omega)]
    have e : (if nb p n < 256 then nI (nb p n) else -1) = nI q ↔ nb p n = q := by
      by_cases g : nb p n < 256
      · rw [if_pos g]; exact nI_eq (by omega) (by omega)
      · rw [if_neg g]; exact ⟨fun y => absurd y.symm (nI_m1 (by omega)), fun y => by omega⟩
    rw [e]
    constructor
    · rintro ((y | ⟨w, h1, h2⟩) | y)
      · exact Or.inl y
      · exact Or.inr ⟨w, by omega, h2⟩
      · exact Or.inr ⟨n, by omega, y⟩
    · rintro (y | ⟨w, h1, h2⟩)
      · exact Or.inl (Or.inl y)
      · by_cases g : w = n
        · subst g; exact Or.inr h2
        · exact Or.inl (Or.inr ⟨w, by omega, h2⟩)
theorem near_sym {p q : Nat} (hp : p < 256) (hq : q < 256) : f_X5_isNear (nI p) (nI q) = f_X5_isNear (nI q) (nI p) := by
  have h : ∀ p q, p < 256 → q < 256 → nr (nI p) (nI q) 4 = true → nr (nI q) (nI p) 4 = true := by
    intro p q hp hq y
    rw [nr_ex hp hq 4 (Nat.le_refl _)] at y
    rw [nr_ex hq hp 4 (Nat.le_refl _)]
    rcases y with y | ⟨w, h1, h2⟩
    · exact Or.inl y.symm
    · refine Or.inr ⟨(w + 2) % 4, Nat.mod_lt _ (by decide), ?_⟩
      have := nb_inv p hp w h1 (by omega)
      rw [h2] at this; exact this
  simp only [f_X5_isNear]
  have e : nr (nI p) (nI q) 4 = nr (nI q) (nI p) 4 := by
    cases a : nr (nI p) (nI q) 4 with
    | true => exact (h p q hp hq a).symm
    | false =>
      cases b : nr (nI q) (nI p) 4 with
      | false => rfl
      | true => rw [h q p hq hp b] at a; exact absurd a (by decide)
  rw [e]
def pfI (p : Nat → Bool) (n N : Nat) (x : Int32) : Prop := (x = -1 ∧ ∀ j, n ≤ j → j < N → p j = false) ∨ ∃ j, n ≤ j ∧ j < N ∧ p j = true ∧ x = nI j ∧ ∀ j', n ≤ j' → j' < j → p j' = false
theorem pfI_n {p : Nat → Bool} {n N : Nat} {x : Int32} (h : pfI p n N x) (hn : 1 ≤ n) (hp : p (n - 1) = false) : pfI p (n - 1) N x := by
  have g : ∀ j, n - 1 ≤ j → ¬ n ≤ j → p j = false := fun j h1 h2 => by rw [show j = n - 1 from by omega]; exact hp
  rcases h with ⟨h1, h2⟩ | ⟨j, h1, h2, h3, h4, h5⟩
  · exact Or.inl ⟨h1, fun j a b => if c : n ≤ j then h2 j c b else g j a c⟩
  · exact Or.inr ⟨j, by omega, h2, h3, h4, fun j' a b => if c : n ≤ j' then h5 j' c b else g j' a c⟩
theorem pfI_y {p : Nat → Bool} {n N : Nat} (hn : 1 ≤ n) (hN : n ≤ N) (hp : p (n - 1) = true) : pfI p (n - 1) N (nI (n - 1)) :=
  Or.inr ⟨n - 1, Nat.le_refl _, by omega, hp, rfl, fun j a b => by omega⟩
theorem pfind_no {p : Nat → Bool} : ∀ {N : Nat}, (∀ j, j < N → p j = false) → pfind p N = none
  | 0, _ => rfl
  | N + 1, h => pfind_n (pfind_no (fun j hj => h j (by omega))) (h N (by omega))
theorem pfind_at {p : Nat → Bool} {j N : Nat} (hj : j < N) (hp : p j = true) (h : ∀ i, i < j → p i = false) : pfind p N = some j := pfind_s (pfind_no h) hp N hj
noncomputable def trD (J : Mm) (z w N : Nat) : Mm := if tradeR J z w N = 0 then tradeM J z w N else dropS (tradeM J z w N) w
theorem trD_none (h : pO J z w N = none) : trD J z w N = J := by
  have e1 : tradeR J z w N = 0 := by simp only [tradeR, h]; rfl
  have e2 : tradeM J z w N = J := by simp only [tradeM, h]
  unfold trD; rw [if_pos e1, e2]
theorem trD_some {j : Nat} (h : pO J z w N = some j) : trD J z w N = dropS (tradeM J z w N) w := by
  have e1 : tradeR J z w N = nI 1 := by simp only [tradeR, h]
  unfold trD; rw [if_neg (by rw [e1]; decide)]
theorem tr_t : ∀ a, a < 10 → ∀ b, b < 10 → ((nI 2 ≤ nI a - nI b ↔ ¬ nI a < nI b + nI 2) ∧ (nI a - nI b ≤ -2 ↔ ¬ nI b < nI a + nI 2) ∧ (nI 2 ≤ nI a - nI b → 0 < nI a - nI b) ∧ (nI a - nI b ≤ -2 → nI a - nI b ≤ 0)) := by decide +kernel
theorem pP_f1 {i : Nat} (h : z + 8 + (1 + i) = w) : pP J z w i = false := by simp [pP, h]
theorem pP_f2 {i : Nat} (h : ¬ J (z + 8 + (1 + i)) 4 = 0) : pP J z w i = false := by simp [pP, h]
theorem pP_f3 {i : Nat} (h : f_X5_isNear (J (z + 8 + (1 + i)) 0) (J w 0) = 0) : pP J z w i = false := by simp [pP, h]
theorem pP_t {i : Nat} (h1 : ¬ z + 8 + (1 + i) = w) (h2 : J (z + 8 + (1 + i)) 4 = 0) (h3 : ¬ f_X5_isNear (J (z + 8 + (1 + i)) 0) (J w 0) = 0) : pP J z w i = true := by
  rw [pP, decide_eq_true h1, decide_eq_true h2, decide_eq_true h3]; rfl
theorem m1_sub {t : Int32} {n : Nat} (ht : t = nI n - nI 1) (h : ¬ t < 0) (hn : n < 300) : 1 ≤ n ∧ t = nI (n - 1) := by
  have : n ≠ 0 := fun e => by rw [e] at ht; rw [ht] at h; exact h (by decide)
  exact ⟨by omega, by rw [ht, pk_sub (by omega)]⟩
theorem m1_neg {t : Int32} {n : Nat} (ht : t = nI n - nI 1) (h : t < 0) (hn : n < 300) : n = 0 := by
  by_cases e : n = 0
  · exact e
  · rw [ht, pk_sub (by omega)] at h
    exact absurd h (nI_pos (by omega))
end TRADE

set_option maxHeartbeats 4000000 in
set_option maxRecDepth 100000 in
theorem c_X6_trade (l : Launch) (D : va_G) (cs : Nat → ClassId) (ad : Nat → Nat) (I : Mm) (sz : Nat) (k : Nat) (hk : kM.getD k 0 = 10) (mn : Nat) (hmn : mn < 8) (z : Nat) (J : Mm) (N : Nat) (hRl : Rl z J k I N) (hIV : IV J z N) (hmn : mn < N) (w0 : Nat) (hw0 : J (z + 8 + (1 + mn)) 7 = nI w0) (hw1 : 1 ≤ w0) (hw2 : w0 ≤ 24) (hfr : J (z + 8 + (1 + mn)) 4 = 0) (p : Nat) (hp : p < 256) (hpp : J (z + 8 + (1 + mn)) 0 = nI p) : MetN l yX6_trade wsX6_trade ({ frames := 2, cells := 0, slots := 0, locals := 45 }) kM cs D ad I sz [.ref (ad k), .int (nI mn)] (fun u => Rk z (trD J z (z + 8 + (1 + mn)) N) k I u N) 0 0 := by
  refine g_met (cc := cX6_trade) (maxL := 4) (ret := none) (by decide) rfl (Nat.le_of_ble_eq_true rfl) ?_
  intro pg e s m args below meth c ls hx hb hr hml hts hown hlocks hsz hP hD hK hN hS hA hl
  have hown : s.vm.findClass RX6 = some m.cls := hown
  have hl : lv_has ls 4 [(0, .ref (ad k)), (1, .int (nI mn))] := hl
  have hN8 := hIV.1.2.1
  obtain ⟨a1, ha1, ea1⟩ := (hIV.2.2.2.2.1 mn hmn).1
  refine lv_iconst (v := -1) hx hb dX6_trade_0 (by decide) ?_
  refine lv_istore_n (lv' := [(2, .int (-1)), (0, .ref (ad k)), (1, .int (nI mn))]) hx hb dX6_trade_1 rfl hl (by decide) rfl (fun ls hl => ?_)
  refine lv_aload_n hx hb dX6_trade_2 rfl (lv_at hl 1 rfl) ?_
  refine g_get (κ := 10) (ci := 6) (v := .int (I k 6)) (C := RX6) (T := TX6) (N := 8) hx hb hts hown hK hP (k := k) hk (by decide) rfl (fun _ h => List.mem_cons_of_mem _ (List.mem_append_right _ h)) rfl 6 (by decide) (hts _ (List.mem_of_getElem? (i := 1) rfl)) (fun _ h9 => h9) rfl dX6_trade_3 ?_
  rw [show I k 6 = nI N from hRl.n]
  refine lv_iconst (v := nI 1) hx hb dX6_trade_6 (by decide) ?_
  refine lv_isub hx hb dX6_trade_7 ?_
  rw [pk_sub (a := N) (b := 1) (by omega)]
  refine lv_istore_n (lv' := [(3, .int (nI (N - 1))), (2, .int (-1)), (0, .ref (ad k)), (1, .int (nI mn))]) hx hb dX6_trade_8 rfl hl (by decide) rfl (fun ls hl => ?_)
  suffices KL9 : ∀ (fuel : Nat) (n : Nat) (t : Int32) (x : Int32) (H : Heap) (locs : List Loc) (ls : Array Slot), (n ≤ N) → (t = nI n - nI 1) → (pfI (pP J z (z + 8 + (1 + mn))) n N x) → n < fuel → va_P D vwCl (gw kM cs ad I) H → va_D (gA kM ad sz) (gw kM cs ad I) → va_S (gA kM ad sz) s.heap H locs → lv_has ls 4 [(3, .int t), (2, .int x), (0, .ref (ad k)), (1, .int (nI mn))] → W pg l e ({ frames := 2, cells := 0, slots := 0, locals := 45 }) s m args below meth c H locs 0 0 (MQ below (va_Qv (fun u => Rk z (trD J z (z + 8 + (1 + mn)) N) k I u N) (wat kM cs D ad (gA kM ad sz)) (gA kM ad sz)) args s 0 0 (gA kM ad sz)) (F0 m 9 ls []) from KL9 _ N (nI (N - 1)) (-1) _ _ _ (Nat.le_refl _) (pk_sub (by omega)).symm (Or.inl ⟨rfl, fun j a b => by omega⟩) (Nat.lt_succ_self _) hP hD hS (lv_sub hl [0, 1, 2, 3] rfl)
  intro fuel9
  induction fuel9 with
  | zero => intro _ _ _ _ _ _ _ _ _ hm; exact absurd hm (Nat.not_lt_zero _)
  | succ fuel9 ih9 =>
    intro n t x H locs ls hn ht hpf hm9 hP hD hS hl
    refine lv_iload_n hx hb dX6_trade_9 rfl (lv_at hl 0 rfl) ?_
    refine lv_if_lt (tgt := 52) hx hb dX6_trade_10 (by decide) (fun c_1 => ?_) (fun c_1 => ?_)
    · skip
      have hn0 := m1_neg ht c_1 (by omega)
      refine lv_iload_n hx hb dX6_trade_52 rfl (lv_at hl 1 rfl) ?_
      refine lv_iconst (v := -1) hx hb dX6_trade_53 (by decide) ?_
      refine lv_icmp_ne (tgt := 58) hx hb dX6_trade_54 (by decide) (fun c_2 => ?_) (fun c_2 => ?_)
      · skip
        obtain ⟨j, hj1, hj2, hj3, hj4, hj5⟩ := hpf.resolve_left (fun y => c_2 y.1)
        obtain ⟨b1, hb1, eb1⟩ := (hIV.2.2.2.2.1 j hj2).1
        have hjm : j ≠ mn := fun e => by rw [e, pP_f1 rfl] at hj3; exact absurd hj3 (by decide)
        rw [hn0] at hj5
        refine lv_aload_n hx hb dX6_trade_58 rfl (lv_at hl 2 rfl) ?_
        refine lv_iload_n hx hb dX6_trade_59 rfl (lv_at hl 3 rfl) ?_
        refine lv_iconst (v := nI 2) hx hb dX6_trade_60 (by decide) ?_
        refine g_callF (F := I (k + 4) (31 * mn + 2)) hD hS hA (va_runV (As := [.int (nI mn), .int (nI 2)]) (rest := []) ⟨hx, hb, hml, hown, hts⟩ (c_X6_get l D cs ad I H.size k hk mn (by omega) 2 (by omega)) (cwV 2 hts gX6_trade_X6_get rfl rfl rfl (by decide +kernel) ⟨Nat.le_of_ble_eq_true rfl, Nat.le_of_ble_eq_true rfl⟩) (g_preV hP hD hK hN (k := k) hk (by decide) rfl rfl rfl rfl) rfl rfl hl.1 rfl (lv_room (Nat.le_of_ble_eq_true rfl)) dX6_trade_61 ⟨Nat.le_of_ble_eq_true rfl, Nat.le_of_ble_eq_true rfl⟩) (fun H locs hP hD hS => ?_)
        rw [show I (k + 4) (31 * mn + 2) = J (z + 8 + (1 + mn)) 2 from (hRl.t (by omega) (by decide))]
        refine lv_aload_n hx hb dX6_trade_64 rfl (lv_at hl 2 rfl) ?_
        refine lv_iload_n hx hb dX6_trade_65 rfl (lv_at hl 1 rfl) ?_
        refine lv_topi (fun y9 ey9 => ?_)
        obtain rfl := ey9.trans hj4
        refine lv_iconst (v := nI 2) hx hb dX6_trade_66 (by decide) ?_
        refine g_callF (F := I (k + 4) (31 * j + 2)) hD hS hA (va_runV (As := [.int (nI j), .int (nI 2)]) (rest := [.int (J (z + 8 + (1 + mn)) 2)]) ⟨hx, hb, hml, hown, hts⟩ (c_X6_get l D cs ad I H.size k hk j (by omega) 2 (by omega)) (cwV 2 hts gX6_trade_X6_get rfl rfl rfl (by decide +kernel) ⟨Nat.le_of_ble_eq_true rfl, Nat.le_of_ble_eq_true rfl⟩) (g_preV hP hD hK hN (k := k) hk (by decide) rfl rfl rfl rfl) rfl rfl hl.1 rfl (lv_room (Nat.le_of_ble_eq_true rfl)) dX6_trade_67 ⟨Nat.le_of_ble_eq_true rfl, Nat.le_of_ble_eq_true rfl⟩) (fun H locs hP hD hS => ?_)
        rw [show I (k + 4) (31 * j + 2) = J (z + 8 + (1 + j)) 2 from (hRl.t (by omega) (by decide))]
        refine lv_isub hx hb dX6_trade_70 ?_
        refine lv_istore_n (lv' := [(3, .int ((J (z + 8 + (1 + mn)) 2) - (J (z + 8 + (1 + j)) 2))), (2, .int x), (0, .ref (ad k)), (1, .int (nI mn))]) hx hb dX6_trade_71 rfl hl (by decide) rfl (fun ls hl => ?_)
        refine lv_iload_n hx hb dX6_trade_72 rfl (lv_at hl 0 rfl) ?_
        refine lv_iconst (v := nI 2) hx hb dX6_trade_73 (by decide) ?_
        refine lv_icmp_ge (tgt := 83) hx hb dX6_trade_74 (by decide) (fun c_3 => ?_) (fun c_3 => ?_)
        · skip
          refine lv_aload_n hx hb dX6_trade_83 rfl (lv_at hl 2 rfl) ?_
          refine lv_iload_n hx hb dX6_trade_84 rfl (lv_at hl 3 rfl) ?_
          refine lv_iconst (v := nI 2) hx hb dX6_trade_85 (by decide) ?_
          refine lv_iload_n hx hb dX6_trade_86 rfl (lv_at hl 0 rfl) ?_
          refine lv_if_le (tgt := 94) hx hb dX6_trade_87 (by decide) (fun c_4 => ?_) (fun c_4 => ?_)
          · skip
            exact absurd c_4 (fun y => Int32.not_le.mpr ((tr_t a1 (by omega) b1 (by omega)).2.2.1 (by rw [← ea1, ← eb1]; exact c_3)) (by rw [← ea1, ← eb1]; exact y))
          · skip
            refine lv_iconst (v := -1) hx hb dX6_trade_90 (by decide) ?_
            refine lv_goto (tgt := 95) hx hb dX6_trade_91 (by decide) ?_
            refine g_callM (M := wr I (k + 4) (31 * mn + 2) (I (k + 4) (31 * mn + 2) + (-1))) hD hS hA (va_runV (As := [.int (nI mn), .int (nI 2), .int (-1)]) (rest := []) ⟨hx, hb, hml, hown, hts⟩ (c_X6_add l D cs ad I H.size k hk mn (by omega) 2 (by omega) (-1)) (cwV 3 hts gX6_trade_X6_add rfl rfl rfl (by decide +kernel) ⟨Nat.le_of_ble_eq_true rfl, Nat.le_of_ble_eq_true rfl⟩) (g_preV hP hD hK hN (k := k) hk (by decide) rfl rfl rfl rfl) rfl rfl hl.1 rfl (lv_room (Nat.le_of_ble_eq_true rfl)) dX6_trade_95 ⟨Nat.le_of_ble_eq_true rfl, Nat.le_of_ble_eq_true rfl⟩) (fun u5 H locs hu5 hP hD hS => ?_)
            refine lv_aload_n hx hb dX6_trade_98 rfl (lv_at hl 2 rfl) ?_
            refine lv_iload_n hx hb dX6_trade_99 rfl (lv_at hl 1 rfl) ?_
            refine lv_topi (fun y9 ey9 => ?_)
            obtain rfl := ey9.trans hj4
            refine lv_iconst (v := nI 2) hx hb dX6_trade_100 (by decide) ?_
            refine lv_iload_n hx hb dX6_trade_101 rfl (lv_at hl 0 rfl) ?_
            refine lv_if_le (tgt := 109) hx hb dX6_trade_102 (by decide) (fun c_6 => ?_) (fun c_6 => ?_)
            · skip
              exact absurd c_6 (fun y => Int32.not_le.mpr ((tr_t a1 (by omega) b1 (by omega)).2.2.1 (by rw [← ea1, ← eb1]; exact c_3)) (by rw [← ea1, ← eb1]; exact y))
            · skip
              refine lv_iconst (v := nI 1) hx hb dX6_trade_105 (by decide) ?_
              refine lv_goto (tgt := 110) hx hb dX6_trade_106 (by decide) ?_
              refine g_callM (M := wr u5 (k + 4) (31 * j + 2) (u5 (k + 4) (31 * j + 2) + (nI 1))) hD hS hA (va_runV (As := [.int (nI j), .int (nI 2), .int (nI 1)]) (rest := []) ⟨hx, hb, hml, hown, hts⟩ (c_X6_add l D cs ad u5 H.size k hk j (by omega) 2 (by omega) (nI 1)) (cwV 3 hts gX6_trade_X6_add rfl rfl rfl (by decide +kernel) ⟨Nat.le_of_ble_eq_true rfl, Nat.le_of_ble_eq_true rfl⟩) (g_preV hP hD hK hN (k := k) hk (by decide) rfl rfl rfl rfl) rfl rfl hl.1 rfl (lv_room (Nat.le_of_ble_eq_true rfl)) dX6_trade_110 ⟨Nat.le_of_ble_eq_true rfl, Nat.le_of_ble_eq_true rfl⟩) (fun u7 H locs hu7 hP hD hS => ?_)
              refine lv_aload_n hx hb dX6_trade_113 rfl (lv_at hl 2 rfl) ?_
              refine g_get (κ := 10) (ci := 6) (v := .ref (ad (k + 5))) (C := RX6) (T := TX6) (N := 8) hx hb hts hown hK hP (k := k) hk (by decide) rfl (fun _ h => List.mem_cons_of_mem _ (List.mem_append_right _ h)) rfl 5 (by decide) (hts _ (List.mem_of_getElem? (i := 2) rfl)) (fun _ h9 => h9) rfl dX6_trade_114 ?_
              refine lv_iconst (v := nI 2) hx hb dX6_trade_117 (by decide) ?_
              refine lv_dup2_11 hx hb dX6_trade_118 rfl rfl ?_
              refine g_ialdn (n := 4) (i := 2) hx hb hK hP (k := (k + 5)) (kd_10_5 hk) (by decide) rfl (by omega) (by decide) dX6_trade_119 ?_
              refine lv_iconst (v := nI 1) hx hb dX6_trade_120 (by decide) ?_
              refine lv_iadd hx hb dX6_trade_121 ?_
              refine g_iastn (n := 4) (i := 2) hx hb hK hP hD hS (k := (k + 5)) (kd_10_5 hk) (by decide) (fun _ => rfl) (by omega) (by decide) dX6_trade_122 (fun u8 H locs hu8 hP hD hS => ?_)
              obtain ⟨G9, hG9⟩ : ∃ G, G = wr (wr (wr J (z + 8 + (1 + mn)) 2 (J (z + 8 + (1 + mn)) 2 + -1)) (z + 8 + (1 + j)) 2 (J (z + 8 + (1 + j)) 2 + nI 1)) z 6 (J z 6 + nI 1) := ⟨_, rfl⟩
              have hr9 : Rk z G9 k I u8 N := by
                have a := hRl.wt (i := mn) (f := 2) (J (z + 8 + (1 + mn)) 2 + -1) (by omega) (by decide)
                have b := a.wt (i := j) (f := 2) (J (z + 8 + (1 + j)) 2 + nI 1) (by omega) (by decide)
                rw [hG9, hu8, hu7, hu5, wr_n _ _ _ (show k + 5 ≠ k + 4 from by omega), wr_n _ _ _ (show k + 5 ≠ k + 4 from by omega), wr_sn _ _ _ (show 31 * j + 2 ≠ 31 * mn + 2 from by omega), hRl.t (i := mn) (f := 2) (by omega) (by decide), hRl.t (i := j) (f := 2) (by omega) (by decide), hRl.n2]
                have b2 := b.wn2 (J z 6 + nI 1)
                exact ⟨b2, by rw [wr_n _ _ _ (by omega), wr_n _ _ _ (by omega), wr_n _ _ _ (by omega)]⟩
              have hw9 : G9 (z + 8 + (1 + mn)) 7 = nI w0 := by rw [hG9, wr_n _ _ _ (by omega), wr_n _ _ _ (by omega), wr_sn _ _ _ (by decide)]; exact hw0
              skip
              refine lv_aload_n hx hb dX6_trade_123 rfl (lv_at hl 2 rfl) ?_
              refine lv_iload_n hx hb dX6_trade_124 rfl (lv_at hl 3 rfl) ?_
              refine g_callv hD hS hA (va_runV (As := [.int (nI mn)]) (rest := []) ⟨hx, hb, hml, hown, hts⟩ (c_X6_done l D cs ad u8 H.size k hk mn (by omega) z G9 N hr9.1 hN8 w0 hw9 hw1 hw2) (cwV 1 hts gX6_trade_X6_done rfl rfl rfl (by decide +kernel) ⟨Nat.le_of_ble_eq_true rfl, Nat.le_of_ble_eq_true rfl⟩) (g_preV hP hD hK hN (k := k) hk (by decide) rfl rfl rfl rfl) rfl rfl hl.1 rfl (lv_room (Nat.le_of_ble_eq_true rfl)) dX6_trade_125 ⟨Nat.le_of_ble_eq_true rfl, Nat.le_of_ble_eq_true rfl⟩) (fun u9 H locs hu9 hP hD hS => ?_)
              exact g_vret hx hb hr hlocks hP hD hS (by
                rw [trD_some (show pO J z (z + 8 + (1 + mn)) N = some j from pfind_at hj2 hj3 (fun i hi => hj5 i (Nat.zero_le _) hi))]
                have e9 : tradeM J z (z + 8 + (1 + mn)) N = G9 := by simp only [tradeM, (show pO J z (z + 8 + (1 + mn)) N = some j from pfind_at hj2 hj3 (fun i hi => hj5 i (Nat.zero_le _) hi))]; rw [if_neg (by rw [ea1, eb1]; exact (tr_t a1 (by omega) b1 (by omega)).1.mp (by rw [← ea1, ← eb1]; exact c_3)), hand_eq (by omega) (by omega) (by omega), hG9]
                rw [e9]; exact ⟨hu9.1, hu9.2.trans hr9.2⟩) dX6_trade_128
        · skip
          refine lv_iload_n hx hb dX6_trade_77 rfl (lv_at hl 0 rfl) ?_
          refine lv_bipush (v := -2) hx hb dX6_trade_78 (by decide) ?_
          refine lv_icmp_gt (tgt := 123) hx hb dX6_trade_80 (by decide) (fun c_10 => ?_) (fun c_10 => ?_)
          · skip
            refine lv_aload_n hx hb dX6_trade_123 rfl (lv_at hl 2 rfl) ?_
            refine lv_iload_n hx hb dX6_trade_124 rfl (lv_at hl 3 rfl) ?_
            refine g_callv hD hS hA (va_runV (As := [.int (nI mn)]) (rest := []) ⟨hx, hb, hml, hown, hts⟩ (c_X6_done l D cs ad I H.size k hk mn (by omega) z J N hRl hN8 w0 hw0 hw1 hw2) (cwV 1 hts gX6_trade_X6_done rfl rfl rfl (by decide +kernel) ⟨Nat.le_of_ble_eq_true rfl, Nat.le_of_ble_eq_true rfl⟩) (g_preV hP hD hK hN (k := k) hk (by decide) rfl rfl rfl rfl) rfl rfl hl.1 rfl (lv_room (Nat.le_of_ble_eq_true rfl)) dX6_trade_125 ⟨Nat.le_of_ble_eq_true rfl, Nat.le_of_ble_eq_true rfl⟩) (fun u11 H locs hu11 hP hD hS => ?_)
            exact g_vret hx hb hr hlocks hP hD hS (by
              rw [trD_some (show pO J z (z + 8 + (1 + mn)) N = some j from pfind_at hj2 hj3 (fun i hi => hj5 i (Nat.zero_le _) hi))]
              have e9 : tradeM J z (z + 8 + (1 + mn)) N = J := by simp only [tradeM, (show pO J z (z + 8 + (1 + mn)) N = some j from pfind_at hj2 hj3 (fun i hi => hj5 i (Nat.zero_le _) hi))]; rw [if_pos (Classical.byContradiction fun y => c_3 (by rw [ea1, eb1]; exact (tr_t a1 (by omega) b1 (by omega)).1.mpr (by rw [← ea1, ← eb1]; exact y))), if_pos (Classical.byContradiction fun y => Int32.not_le.mpr c_10 (by rw [ea1, eb1]; exact (tr_t a1 (by omega) b1 (by omega)).2.1.mpr (by rw [← ea1, ← eb1]; exact y)))]
              rw [e9]; exact hu11) dX6_trade_128
          · skip
            refine lv_aload_n hx hb dX6_trade_83 rfl (lv_at hl 2 rfl) ?_
            refine lv_iload_n hx hb dX6_trade_84 rfl (lv_at hl 3 rfl) ?_
            refine lv_iconst (v := nI 2) hx hb dX6_trade_85 (by decide) ?_
            refine lv_iload_n hx hb dX6_trade_86 rfl (lv_at hl 0 rfl) ?_
            refine lv_if_le (tgt := 94) hx hb dX6_trade_87 (by decide) (fun c_12 => ?_) (fun c_12 => ?_)
            · skip
              refine lv_iconst (v := nI 1) hx hb dX6_trade_94 (by decide) ?_
              refine g_callM (M := wr I (k + 4) (31 * mn + 2) (I (k + 4) (31 * mn + 2) + (nI 1))) hD hS hA (va_runV (As := [.int (nI mn), .int (nI 2), .int (nI 1)]) (rest := []) ⟨hx, hb, hml, hown, hts⟩ (c_X6_add l D cs ad I H.size k hk mn (by omega) 2 (by omega) (nI 1)) (cwV 3 hts gX6_trade_X6_add rfl rfl rfl (by decide +kernel) ⟨Nat.le_of_ble_eq_true rfl, Nat.le_of_ble_eq_true rfl⟩) (g_preV hP hD hK hN (k := k) hk (by decide) rfl rfl rfl rfl) rfl rfl hl.1 rfl (lv_room (Nat.le_of_ble_eq_true rfl)) dX6_trade_95 ⟨Nat.le_of_ble_eq_true rfl, Nat.le_of_ble_eq_true rfl⟩) (fun u13 H locs hu13 hP hD hS => ?_)
              refine lv_aload_n hx hb dX6_trade_98 rfl (lv_at hl 2 rfl) ?_
              refine lv_iload_n hx hb dX6_trade_99 rfl (lv_at hl 1 rfl) ?_
              refine lv_topi (fun y9 ey9 => ?_)
              obtain rfl := ey9.trans hj4
              refine lv_iconst (v := nI 2) hx hb dX6_trade_100 (by decide) ?_
              refine lv_iload_n hx hb dX6_trade_101 rfl (lv_at hl 0 rfl) ?_
              refine lv_if_le (tgt := 109) hx hb dX6_trade_102 (by decide) (fun c_14 => ?_) (fun c_14 => ?_)
              · skip
                refine lv_iconst (v := -1) hx hb dX6_trade_109 (by decide) ?_
                refine g_callM (M := wr u13 (k + 4) (31 * j + 2) (u13 (k + 4) (31 * j + 2) + (-1))) hD hS hA (va_runV (As := [.int (nI j), .int (nI 2), .int (-1)]) (rest := []) ⟨hx, hb, hml, hown, hts⟩ (c_X6_add l D cs ad u13 H.size k hk j (by omega) 2 (by omega) (-1)) (cwV 3 hts gX6_trade_X6_add rfl rfl rfl (by decide +kernel) ⟨Nat.le_of_ble_eq_true rfl, Nat.le_of_ble_eq_true rfl⟩) (g_preV hP hD hK hN (k := k) hk (by decide) rfl rfl rfl rfl) rfl rfl hl.1 rfl (lv_room (Nat.le_of_ble_eq_true rfl)) dX6_trade_110 ⟨Nat.le_of_ble_eq_true rfl, Nat.le_of_ble_eq_true rfl⟩) (fun u15 H locs hu15 hP hD hS => ?_)
                refine lv_aload_n hx hb dX6_trade_113 rfl (lv_at hl 2 rfl) ?_
                refine g_get (κ := 10) (ci := 6) (v := .ref (ad (k + 5))) (C := RX6) (T := TX6) (N := 8) hx hb hts hown hK hP (k := k) hk (by decide) rfl (fun _ h => List.mem_cons_of_mem _ (List.mem_append_right _ h)) rfl 5 (by decide) (hts _ (List.mem_of_getElem? (i := 2) rfl)) (fun _ h9 => h9) rfl dX6_trade_114 ?_
                refine lv_iconst (v := nI 2) hx hb dX6_trade_117 (by decide) ?_
                refine lv_dup2_11 hx hb dX6_trade_118 rfl rfl ?_
                refine g_ialdn (n := 4) (i := 2) hx hb hK hP (k := (k + 5)) (kd_10_5 hk) (by decide) rfl (by omega) (by decide) dX6_trade_119 ?_
                refine lv_iconst (v := nI 1) hx hb dX6_trade_120 (by decide) ?_
                refine lv_iadd hx hb dX6_trade_121 ?_
                refine g_iastn (n := 4) (i := 2) hx hb hK hP hD hS (k := (k + 5)) (kd_10_5 hk) (by decide) (fun _ => rfl) (by omega) (by decide) dX6_trade_122 (fun u16 H locs hu16 hP hD hS => ?_)
                obtain ⟨G9, hG9⟩ : ∃ G, G = wr (wr (wr J (z + 8 + (1 + mn)) 2 (J (z + 8 + (1 + mn)) 2 + nI 1)) (z + 8 + (1 + j)) 2 (J (z + 8 + (1 + j)) 2 + -1)) z 6 (J z 6 + nI 1) := ⟨_, rfl⟩
                have hr9 : Rk z G9 k I u16 N := by
                  have a := hRl.wt (i := mn) (f := 2) (J (z + 8 + (1 + mn)) 2 + nI 1) (by omega) (by decide)
                  have b := a.wt (i := j) (f := 2) (J (z + 8 + (1 + j)) 2 + -1) (by omega) (by decide)
                  rw [hG9, hu16, hu15, hu13, wr_n _ _ _ (show k + 5 ≠ k + 4 from by omega), wr_n _ _ _ (show k + 5 ≠ k + 4 from by omega), wr_sn _ _ _ (show 31 * j + 2 ≠ 31 * mn + 2 from by omega), hRl.t (i := mn) (f := 2) (by omega) (by decide), hRl.t (i := j) (f := 2) (by omega) (by decide), hRl.n2]
                  have b2 := b.wn2 (J z 6 + nI 1)
                  exact ⟨b2, by rw [wr_n _ _ _ (by omega), wr_n _ _ _ (by omega), wr_n _ _ _ (by omega)]⟩
                have hw9 : G9 (z + 8 + (1 + mn)) 7 = nI w0 := by rw [hG9, wr_n _ _ _ (by omega), wr_n _ _ _ (by omega), wr_sn _ _ _ (by decide)]; exact hw0
                skip
                refine lv_aload_n hx hb dX6_trade_123 rfl (lv_at hl 2 rfl) ?_
                refine lv_iload_n hx hb dX6_trade_124 rfl (lv_at hl 3 rfl) ?_
                refine g_callv hD hS hA (va_runV (As := [.int (nI mn)]) (rest := []) ⟨hx, hb, hml, hown, hts⟩ (c_X6_done l D cs ad u16 H.size k hk mn (by omega) z G9 N hr9.1 hN8 w0 hw9 hw1 hw2) (cwV 1 hts gX6_trade_X6_done rfl rfl rfl (by decide +kernel) ⟨Nat.le_of_ble_eq_true rfl, Nat.le_of_ble_eq_true rfl⟩) (g_preV hP hD hK hN (k := k) hk (by decide) rfl rfl rfl rfl) rfl rfl hl.1 rfl (lv_room (Nat.le_of_ble_eq_true rfl)) dX6_trade_125 ⟨Nat.le_of_ble_eq_true rfl, Nat.le_of_ble_eq_true rfl⟩) (fun u17 H locs hu17 hP hD hS => ?_)
                exact g_vret hx hb hr hlocks hP hD hS (by
                  rw [trD_some (show pO J z (z + 8 + (1 + mn)) N = some j from pfind_at hj2 hj3 (fun i hi => hj5 i (Nat.zero_le _) hi))]
                  have e9 : tradeM J z (z + 8 + (1 + mn)) N = G9 := by simp only [tradeM, (show pO J z (z + 8 + (1 + mn)) N = some j from pfind_at hj2 hj3 (fun i hi => hj5 i (Nat.zero_le _) hi))]; rw [if_pos (Classical.byContradiction fun y => c_3 (by rw [ea1, eb1]; exact (tr_t a1 (by omega) b1 (by omega)).1.mpr (by rw [← ea1, ← eb1]; exact y))), if_neg (by rw [ea1, eb1]; exact (tr_t a1 (by omega) b1 (by omega)).2.1.mp (by rw [← ea1, ← eb1]; exact Int32.not_lt.mp c_10)), hand_eq2 (by omega) (by omega) (by omega), hG9]
                  rw [e9]; exact ⟨hu17.1, hu17.2.trans hr9.2⟩) dX6_trade_128
              · skip
                exact absurd ((tr_t a1 (by omega) b1 (by omega)).2.2.2 (by rw [← ea1, ← eb1]; exact Int32.not_lt.mp c_10)) (by rw [← ea1, ← eb1]; exact c_14)
            · skip
              exact absurd ((tr_t a1 (by omega) b1 (by omega)).2.2.2 (by rw [← ea1, ← eb1]; exact Int32.not_lt.mp c_10)) (by rw [← ea1, ← eb1]; exact c_12)
      · skip
        exact g_vret hx hb hr hlocks hP hD hS (by rw [trD_none (by rcases hpf with ⟨_, h⟩ | ⟨j, _, hj, _, e, _⟩ <;> first | exact pfind_no (fun j hj => h j (by omega) hj) | exact absurd (e.symm.trans c_2) (nI_m1 (by omega)))]; exact Rk.rf hRl) dX6_trade_57
    · skip
      obtain ⟨h1n, et⟩ := m1_sub ht c_1 (by omega)
      obtain ⟨q8_, hq8, hq9⟩ := hIV.place (show n - 1 < N from by omega)
      refine lv_iload_n hx hb dX6_trade_13 rfl (lv_at hl 0 rfl) ?_
      refine lv_topi (fun y9 ey9 => ?_)
      obtain rfl := ey9.trans et
      refine lv_iload_n hx hb dX6_trade_14 rfl (lv_at hl 3 rfl) ?_
      refine lv_icmp_eq (tgt := 46) hx hb dX6_trade_15 (by decide) (fun c_18 => ?_) (fun c_18 => ?_)
      · skip
        have nc_18 : (n - 1) = mn := (nI_eq (a := (n - 1)) (b := mn) (by omega) (by omega)).mp c_18
        refine lv_iinc (v := t + (-1)) (lv' := [(3, .int (t + (-1))), (2, .int x), (0, .ref (ad k)), (1, .int (nI mn))]) hx hb dX6_trade_46 hl (k := 0) rfl rfl (by decide) rfl (fun ls hl => ?_)
        refine lv_goto (tgt := 9) hx hb dX6_trade_49 (by decide) ?_
        exact ih9 (n - 1) (t + (-1)) x _ _ _ (by omega) (by rw [et]; exact (sub1 _).symm) (pfI_n hpf h1n (pP_f1 (by have := nc_18; omega))) (by omega) hP hD hS (lv_sub hl [0, 1, 2, 3] rfl)
      · skip
        have nc_18 : ¬ (n - 1) = mn := fun z9_ => c_18 ((nI_eq (a := (n - 1)) (b := mn) (by omega) (by omega)).mpr z9_)
        refine lv_aload_n hx hb dX6_trade_18 rfl (lv_at hl 2 rfl) ?_
        refine lv_iload_n hx hb dX6_trade_19 rfl (lv_at hl 0 rfl) ?_
        refine lv_topi (fun y9 ey9 => ?_)
        obtain rfl := ey9.trans et
        refine g_callF (F := f_X6_isFree I k (n - 1)) hD hS hA (va_runV (As := [.int (nI (n - 1))]) (rest := []) ⟨hx, hb, hml, hown, hts⟩ (c_X6_isFree l D cs ad I H.size k hk (n - 1) (by omega)) (cwV 1 hts gX6_trade_X6_isFree rfl rfl rfl (by decide +kernel) ⟨Nat.le_of_ble_eq_true rfl, Nat.le_of_ble_eq_true rfl⟩) (g_preV hP hD hK hN (k := k) hk (by decide) rfl rfl rfl rfl) rfl rfl hl.1 rfl (lv_room (Nat.le_of_ble_eq_true rfl)) dX6_trade_20 ⟨Nat.le_of_ble_eq_true rfl, Nat.le_of_ble_eq_true rfl⟩) (fun H locs hP hD hS => ?_)
        refine lv_if_eq (tgt := 46) hx hb dX6_trade_23 (by decide) (fun c_19 => ?_) (fun c_19 => ?_)
        · skip
          refine lv_iinc (v := t + (-1)) (lv' := [(3, .int (t + (-1))), (2, .int x), (0, .ref (ad k)), (1, .int (nI mn))]) hx hb dX6_trade_46 hl (k := 0) rfl rfl (by decide) rfl (fun ls hl => ?_)
          refine lv_goto (tgt := 9) hx hb dX6_trade_49 (by decide) ?_
          exact ih9 (n - 1) (t + (-1)) x _ _ _ (by omega) (by rw [et]; exact (sub1 _).symm) (pfI_n hpf h1n (pP_f2 (hRl.free0 (by omega) c_19))) (by omega) hP hD hS (lv_sub hl [0, 1, 2, 3] rfl)
        · skip
          refine lv_aload_n hx hb dX6_trade_26 rfl (lv_at hl 2 rfl) ?_
          refine lv_iload_n hx hb dX6_trade_27 rfl (lv_at hl 3 rfl) ?_
          refine lv_iconst (v := nI 0) hx hb dX6_trade_28 (by decide) ?_
          refine g_callF (F := I (k + 4) (31 * mn + 0)) hD hS hA (va_runV (As := [.int (nI mn), .int (nI 0)]) (rest := []) ⟨hx, hb, hml, hown, hts⟩ (c_X6_get l D cs ad I H.size k hk mn (by omega) 0 (by omega)) (cwV 2 hts gX6_trade_X6_get rfl rfl rfl (by decide +kernel) ⟨Nat.le_of_ble_eq_true rfl, Nat.le_of_ble_eq_true rfl⟩) (g_preV hP hD hK hN (k := k) hk (by decide) rfl rfl rfl rfl) rfl rfl hl.1 rfl (lv_room (Nat.le_of_ble_eq_true rfl)) dX6_trade_29 ⟨Nat.le_of_ble_eq_true rfl, Nat.le_of_ble_eq_true rfl⟩) (fun H locs hP hD hS => ?_)
          rw [show I (k + 4) (31 * mn + 0) = nI p from ((hRl.t (by omega) (by decide)).trans hpp)]
          refine lv_aload_n hx hb dX6_trade_32 rfl (lv_at hl 2 rfl) ?_
          refine lv_iload_n hx hb dX6_trade_33 rfl (lv_at hl 0 rfl) ?_
          refine lv_topi (fun y9 ey9 => ?_)
          obtain rfl := ey9.trans et
          refine lv_iconst (v := nI 0) hx hb dX6_trade_34 (by decide) ?_
          refine g_callF (F := I (k + 4) (31 * (n - 1) + 0)) hD hS hA (va_runV (As := [.int (nI (n - 1)), .int (nI 0)]) (rest := [.int (nI p)]) ⟨hx, hb, hml, hown, hts⟩ (c_X6_get l D cs ad I H.size k hk (n - 1) (by omega) 0 (by omega)) (cwV 2 hts gX6_trade_X6_get rfl rfl rfl (by decide +kernel) ⟨Nat.le_of_ble_eq_true rfl, Nat.le_of_ble_eq_true rfl⟩) (g_preV hP hD hK hN (k := k) hk (by decide) rfl rfl rfl rfl) rfl rfl hl.1 rfl (lv_room (Nat.le_of_ble_eq_true rfl)) dX6_trade_35 ⟨Nat.le_of_ble_eq_true rfl, Nat.le_of_ble_eq_true rfl⟩) (fun H locs hP hD hS => ?_)
          rw [show I (k + 4) (31 * (n - 1) + 0) = J (z + 8 + (1 + (n - 1))) 0 from (hRl.t (by omega) (by decide))]
          refine g_callF (F := f_X6_isNear (nI p) (J (z + 8 + (1 + (n - 1))) 0)) hD hS hA (va_runS (As := [.int (nI p), .int (J (z + 8 + (1 + (n - 1))) 0)]) (rest := []) ⟨hx, hb, hml, hown, hts⟩ (c_X6_isNear l D cs ad I H.size (nI p) (J (z + 8 + (1 + (n - 1))) 0)) (va_cwS 2 hts gX6_trade_X6_isNear rfl rfl rfl (by decide +kernel) ⟨Nat.le_of_ble_eq_true rfl, Nat.le_of_ble_eq_true rfl⟩) (g_preS hP hD hK hN) rfl rfl hl.1 rfl (lv_room (Nat.le_of_ble_eq_true rfl)) dX6_trade_38 ⟨Nat.le_of_ble_eq_true rfl, Nat.le_of_ble_eq_true rfl⟩) (fun H locs hP hD hS => ?_)
          refine lv_if_eq (tgt := 46) hx hb dX6_trade_41 (by decide) (fun c_20 => ?_) (fun c_20 => ?_)
          · skip
            refine lv_iinc (v := t + (-1)) (lv' := [(3, .int (t + (-1))), (2, .int x), (0, .ref (ad k)), (1, .int (nI mn))]) hx hb dX6_trade_46 hl (k := 0) rfl rfl (by decide) rfl (fun ls hl => ?_)
            refine lv_goto (tgt := 9) hx hb dX6_trade_49 (by decide) ?_
            exact ih9 (n - 1) (t + (-1)) x _ _ _ (by omega) (by rw [et]; exact (sub1 _).symm) (pfI_n hpf h1n (pP_f3 (by rw [hq9, hpp, near_sym hq8 hp, ← nearM hp, ← hq9]; exact c_20))) (by omega) hP hD hS (lv_sub hl [0, 1, 2, 3] rfl)
          · skip
            refine lv_iload_n hx hb dX6_trade_44 rfl (lv_at hl 0 rfl) ?_
            refine lv_topi (fun y9 ey9 => ?_)
            obtain rfl := ey9.trans et
            refine lv_istore_n (lv' := [(2, .int (nI (n - 1))), (3, .int t), (0, .ref (ad k)), (1, .int (nI mn))]) hx hb dX6_trade_45 rfl hl (by decide) rfl (fun ls hl => ?_)
            refine lv_iinc (v := t + (-1)) (lv' := [(3, .int (t + (-1))), (2, .int (nI (n - 1))), (0, .ref (ad k)), (1, .int (nI mn))]) hx hb dX6_trade_46 hl (k := 1) rfl rfl (by decide) rfl (fun ls hl => ?_)
            refine lv_goto (tgt := 9) hx hb dX6_trade_49 (by decide) ?_
            exact ih9 (n - 1) (t + (-1)) (nI (n - 1)) _ _ _ (by omega) (by rw [et]; exact (sub1 _).symm) (pfI_y h1n hn (pP_t (by have := nc_18; omega) (hRl.free1 (by omega) c_19) (by rw [hq9, hpp, near_sym hq8 hp, ← nearM hp, ← hq9]; exact c_20))) (by omega) hP hD hS (lv_sub hl [0, 1, 2, 3] rfl)
