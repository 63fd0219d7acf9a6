/-- model memory k and maze z tell the same -/
def Rl (z : Nat) (J : Mm) (k : Nat) (I : Mm) (N : Nat) : Prop :=
  I k 6 = nI N ∧ (∀ j, j < 3 → ∀ c, c < 256 → I (k + 1 + j) c = J (z + 1 + 1 + j) c) ∧
  (∀ i, i < 8 → (∀ f, f < 6 → I (k + 4) (31 * i + f) = J (z + 8 + (1 + i)) f) ∧ I (k + 4) (31 * i + 6) = J (z + 8 + (1 + i)) 7 ∧ ∀ j, j < 24 → I (k + 4) (31 * i + 7 + j) = J (z + 8 + (1 + i) + 8) j) ∧
  (I (k + 5) 0 = J z 4 ∧ I (k + 5) 1 = J z 5 ∧ I (k + 5) 2 = J z 6) ∧ I (k + 5) 3 = f_X0_openedByCrew J z N
/-- what holds of a maze behind every call -/
def IV (J : Mm) (z N : Nat) : Prop :=
  WT J z N ∧ (∀ c, c < 256 → ∃ h, h ≤ 10 ∧ J (z + 1 + 1) c = nI h) ∧ (∀ c, c < 256 → J (z + 1 + 1) c ≠ 0 → J (z + 1 + 2) c = 0 ∧ J (z + 1 + 3) c = 0) ∧ (∀ c, c < 256 → J (z + 1 + 3) c = 0 ∨ J (z + 1 + 3) c = 1) ∧
  (∀ i, i < N → (∃ h, h ≤ 9 ∧ J (z + 8 + (1 + i)) 2 = nI h) ∧ (∃ h, h ≤ 60 ∧ J (z + 8 + (1 + i)) 3 = nI h) ∧ (J (z + 8 + (1 + i)) 4 = 0 → ∀ p, p < 256 → J (z + 8 + (1 + i)) 0 = nI p → J (z + 1 + 1) p = 0)) ∧
  (∀ i, N ≤ i → i < 8 → J (z + 8 + (1 + i)) 3 = 0 ∧ J (z + 8 + (1 + i)) 4 = 0 ∧ J (z + 8 + (1 + i)) 5 = 0 ∧ J (z + 8 + (1 + i)) 7 = 0) ∧
  (∀ i, i < 8 → ∀ j, j < 24 → ∃ h, h ≤ 6 ∧ J (z + 8 + (1 + i) + 8) j = nI h)
section RL
variable {z k N : Nat} {J I v : Mm}
theorem Rl.n (h : Rl z J k I N) : I k 6 = nI N := h.1
theorem Rl.c1 (h : Rl z J k I N) {c : Nat} (hc : c < 256) : I (k + 1) c = J (z + 1 + 1) c := h.2.1 0 (by decide) c hc
theorem Rl.c2 (h : Rl z J k I N) {c : Nat} (hc : c < 256) : I (k + 2) c = J (z + 1 + 2) c := h.2.1 1 (by decide) c hc
theorem Rl.c3 (h : Rl z J k I N) {c : Nat} (hc : c < 256) : I (k + 3) c = J (z + 1 + 3) c := h.2.1 2 (by decide) c hc
theorem Rl.t (h : Rl z J k I N) {i f : Nat} (hi : i < 8) (hf : f < 6) : I (k + 4) (31 * i + f) = J (z + 8 + (1 + i)) f := (h.2.2.1 i hi).1 f hf
theorem Rl.t6 (h : Rl z J k I N) {i : Nat} (hi : i < 8) : I (k + 4) (31 * i + 6) = J (z + 8 + (1 + i)) 7 := (h.2.2.1 i hi).2.1
theorem Rl.o (h : Rl z J k I N) {i j : Nat} (hi : i < 8) (hj : j < 24) : I (k + 4) (31 * i + (7 + j)) = J (z + 8 + (1 + i) + 8) j := by
  rw [← Nat.add_assoc]; exact (h.2.2.1 i hi).2.2 j hj
theorem Rl.o0 (h : Rl z J k I N) {i : Nat} (hi : i < 8) : I (k + 4) (31 * i + 7) = J (z + 8 + (1 + i) + 8) 0 := (h.2.2.1 i hi).2.2 0 (by decide)
theorem Rl.n0 (h : Rl z J k I N) : I (k + 5) 0 = J z 4 := h.2.2.2.1.1
theorem Rl.n1 (h : Rl z J k I N) : I (k + 5) 1 = J z 5 := h.2.2.2.1.2.1
theorem Rl.n2 (h : Rl z J k I N) : I (k + 5) 2 = J z 6 := h.2.2.2.1.2.2
theorem Rl.n3 (h : Rl z J k I N) : I (k + 5) 3 = f_X0_openedByCrew J z N := h.2.2.2.2
theorem Rl.eqw (h : Rl z J k I N) (e : EqW k v I) : Rl z J k v N := by
  obtain ⟨a, b, c, d, f⟩ := h
  have e4 := e (k + 4) (by omega)
  have e5 := e (k + 5) (by omega)
  refine ⟨by rw [e k (by omega)]; exact a, fun j hj => by rw [e (k + 1 + j) (by omega)]; exact b j hj, by rw [e4]; exact c, by rw [e5]; exact d, by rw [e5]; exact f⟩
theorem isFree_0 {I : Mm} {k i : Nat} (h : f_X6_isFree I k i = 0) : ¬ I (k + 4) (31 * i + 4) = 0 := fun z => by
  simp only [f_X6_isFree] at h
  rw [if_pos z] at h; exact absurd h (by decide)
theorem isFree_1 {I : Mm} {k i : Nat} (h : ¬ f_X6_isFree I k i = 0) : I (k + 4) (31 * i + 4) = 0 := Classical.byContradiction fun z => by
  simp only [f_X6_isFree] at h
  rw [if_neg z] at h; exact absurd rfl h
theorem Rl.free0 (h : Rl z J k I N) {i : Nat} (hi : i < 8) (hf : f_X6_isFree I k i = 0) : ¬ J (z + 8 + (1 + i)) 4 = 0 := by rw [← h.t hi (by decide)]; exact isFree_0 hf
theorem Rl.free1 (h : Rl z J k I N) {i : Nat} (hi : i < 8) (hf : ¬ f_X6_isFree I k i = 0) : J (z + 8 + (1 + i)) 4 = 0 := by rw [← h.t hi (by decide)]; exact isFree_1 hf
theorem Rl.open0 (h : Rl z J k I N) {c : Nat} (hc : c < 256) (hf : f_X6_isOpen I k c = 0) : ¬ opn J z c := by rw [opn, ← h.c1 hc]; exact isOpen_0 hf
theorem Rl.open1 (h : Rl z J k I N) {c : Nat} (hc : c < 256) (hf : ¬ f_X6_isOpen I k c = 0) : opn J z c := by rw [opn, ← h.c1 hc]; exact isOpen_1 hf
/-- sources laid into a wave -/
def SV (k : Nat) (I v : Mm) (S : Nat → Prop) : Prop := EqW k v I ∧ ∀ c, c < 256 → (S c → v (k + 6) c = nI 0) ∧ (¬ S c → v (k + 6) c = -1)
theorem SV.clr {S : Nat → Prop} (hS : ∀ c, c < 256 → ¬ S c) : SV k I (clrM I k 256) S := ⟨fun a ha => wrA_n _ _ ha, fun c hc => ⟨fun y => absurd y (hS c hc), fun _ => by
  simp only [clrM]; rw [wrA_s, if_pos hc]⟩⟩
theorem SV.cg {S S' : Nat → Prop} (h : SV k I v S) (e : ∀ c, c < 256 → (S' c ↔ S c)) : SV k I v S' := ⟨h.1, fun c hc => ⟨fun y => (h.2 c hc).1 ((e c hc).mp y), fun y => (h.2 c hc).2 (fun y2 => y ((e c hc).mpr y2))⟩⟩
theorem SV.add {S S' : Nat → Prop} {p : Nat} (h : SV k I v S) (e : ∀ c, c < 256 → (S' c ↔ S c ∨ c = p)) : SV k I (wr v (k + 6) p (nI 0)) S' := ⟨h.1.wr _ _, fun c hc => by
  by_cases g : c = p
  · subst g
    exact ⟨fun _ => wr_ss _ _ _ _, fun y => absurd ((e c hc).mpr (Or.inr rfl)) y⟩
  · rw [wr_sn _ _ _ g]
    exact ⟨fun y => (h.2 c hc).1 (((e c hc).mp y).elim id (fun y => absurd y g)), fun y => (h.2 c hc).2 (fun y2 => y ((e c hc).mpr (Or.inl y2)))⟩⟩
theorem SV.di {op S : Nat → Prop} (h : SV k I v S) {c : Nat} (hc : c < 256) : DI op S 0 c (v (k + 6) c) := by
  by_cases g : S c
  · exact Or.inr ⟨0, Nat.le_refl _, (h.2 c hc).1 g, g, fun d hd => absurd hd (Nat.not_lt_zero _)⟩
  · exact Or.inl ⟨(h.2 c hc).2 g, fun d hd y => by rw [show d = 0 from by omega] at y; exact g y⟩
theorem IV.wt (h : IV J z N) : WT J z N := h.1
theorem IV.place (h : IV J z N) {i : Nat} (hi : i < N) : ∃ p, p < 256 ∧ J (z + 8 + (1 + i)) 0 = nI p := h.1.2.2.1 i hi
theorem rch_open {op src : Nat → Prop} (h : ∀ c, c < 256 → src c → op c) : ∀ (d c : Nat), c < 256 → rch op src d c → op c
  | 0, c, hc, y => h c hc y
  | d + 1, c, hc, y => y.elim (rch_open h d c hc) (fun y => y.1)
theorem IV.litO (h : IV J z N) {c : Nat} (hc : c < 256) (y : litR J z N c) : opn J z c := by
  refine rch_open (fun c hc y => ?_) 3 c hc y
  obtain ⟨i, hi, h4, h3, h0⟩ := y
  exact (h.2.2.2.2.1 i hi).2.2 h4 c hc h0
theorem IV.post (h : IV J z N) {c : Nat} (hc : c < 256) : 0 < J (z + 1 + 3) c ↔ (opn J z c ∧ J (z + 1 + 3) c = nI 1) := by
  rcases h.2.2.2.1 c hc with e | e
  · rw [e]; exact ⟨fun y => absurd y (by decide), fun y => absurd y.2 (by decide)⟩
  · rw [e]
    refine ⟨fun _ => ⟨Classical.byContradiction fun y => ?_, rfl⟩, fun _ => by decide⟩
    have := (h.2.2.1 c hc y).2
    rw [e] at this; exact absurd this (by decide)
theorem IV.heldO (h : IV J z N) {c : Nat} (hc : c < 256) (y : heldP J z c) : opn J z c :=
  rch_open (fun c hc y => ((h.post hc).mp y.2).1) 2 c hc y
end RL

set_option maxHeartbeats 4000000 in
set_option maxRecDepth 100000 in
theorem c_X6_shine (l : Launch) (D : va_G) (cs : Nat → ClassId) (ad : Nat → Nat) (I : Mm) (sz : Nat) (k : Nat) (hk : kM.getD k 0 = 10) (z : Nat) (J : Mm) (N : Nat) (hRl : Rl z J k I N) (hIV : IV J z N) : MetN l yX6_shine wsX6_shine ({ frames := 2, cells := 0, slots := 0, locals := 47 }) kM cs D ad I sz [.ref (ad k)] (fun u => EqW k u I ∧ ∀ c, c < 256 → (u (k + 6) c ≠ -1 ↔ litR J z N c)) 0 0 := by
  refine g_met (cc := cX6_shine) (maxL := 2) (ret := none) (by decide) rfl (Nat.le_of_ble_eq_true rfl) ?_
  intro pg e s m args below meth c ls hx hb hr hml hts hown hlocks hsz hP hD hK hN hS hA hl
  have hown : s.vm.findClass RX6 = some m.cls := hown
  have hl : lv_has ls 2 [(0, .ref (ad k))] := hl
  have hN8 := hIV.1.2.1
  refine lv_aload_n hx hb dX6_shine_0 rfl (lv_at hl 0 rfl) ?_
  refine g_callM (M := clrM I k 256) hD hS hA (va_runV (As := []) (rest := []) ⟨hx, hb, hml, hown, hts⟩ (c_X6_clear l D cs ad I s.heap.size k hk) (cwV 0 hts gX6_shine_X6_clear rfl rfl rfl (by decide +kernel) ⟨Nat.le_of_ble_eq_true rfl, Nat.le_of_ble_eq_true rfl⟩) (g_preV hP hD hK hN (k := k) hk (by decide) rfl rfl rfl rfl) rfl rfl hl.1 rfl (lv_room (Nat.le_of_ble_eq_true rfl)) dX6_shine_1 ⟨Nat.le_of_ble_eq_true rfl, Nat.le_of_ble_eq_true rfl⟩) (fun u1 H locs hu1 hP hD hS => ?_)
  refine lv_iconst (v := nI 0) hx hb dX6_shine_4 (by decide) ?_
  refine lv_istore_n (lv' := [(1, .int (nI 0)), (0, .ref (ad k))]) hx hb dX6_shine_5 rfl hl (by decide) rfl (fun ls hl => ?_)
  suffices KL6 : ∀ (fuel : Nat) (i : Nat) (v : Mm) (H : Heap) (locs : List Loc) (ls : Array Slot), (i ≤ N) → (SV k I v (srL J z i)) → N - i < fuel → va_P D vwCl (gw kM cs ad v) H → va_D (gA kM ad sz) (gw kM cs ad v) → va_S (gA kM ad sz) s.heap H locs → lv_has ls 2 [(1, .int (nI i)), (0, .ref (ad k))] → W pg l e ({ frames := 2, cells := 0, slots := 0, locals := 47 }) s m args below meth c H locs 0 0 (MQ below (va_Qv (fun u => EqW k u I ∧ ∀ c, c < 256 → (u (k + 6) c ≠ -1 ↔ litR J z N c)) (wat kM cs D ad (gA kM ad sz)) (gA kM ad sz)) args s 0 0 (gA kM ad sz)) (F0 m 6 ls []) from KL6 _ 0 u1 _ _ _ (Nat.zero_le _) (by rw [hu1]; exact SV.clr (fun c hc y => by obtain ⟨j, hj, _⟩ := y; exact absurd hj (Nat.not_lt_zero _))) (Nat.lt_succ_self _) hP hD hS (lv_sub hl [0, 1] rfl)
  intro fuel6
  induction fuel6 with
  | zero => intro _ _ _ _ _ _ _ hm; exact absurd hm (Nat.not_lt_zero _)
  | succ fuel6 ih6 =>
    intro i v H locs ls hi hsv hm6 hP hD hS hl
    refine lv_iload_n hx hb dX6_shine_6 rfl (lv_at hl 0 rfl) ?_
    refine lv_aload_n hx hb dX6_shine_7 rfl (lv_at hl 1 rfl) ?_
    refine g_get (κ := 10) (ci := 6) (v := .int (v k 6)) (C := RX6) (T := TX6) (N := 8) hx hb hts hown hK hP (k := k) hk (by decide) rfl (fun _ h => List.mem_cons_of_mem _ (List.mem_append_right _ h)) rfl 6 (by decide) (hts _ (List.mem_of_getElem? (i := 1) rfl)) (fun _ h9 => h9) rfl dX6_shine_8 ?_
    rw [show v k 6 = nI N from (hRl.eqw hsv.1).n]
    refine lv_icmp_ge (tgt := 49) hx hb dX6_shine_11 (by decide) (fun c_2 => ?_) (fun c_2 => ?_)
    · skip
      have nc_2 : N ≤ i := (nI_leI (a := N) (b := i) (by omega) (by omega)).mp c_2
      refine lv_aload_n hx hb dX6_shine_49 rfl (lv_at hl 1 rfl) ?_
      rw [show i = N from by omega] at hsv
      refine lv_iconst (v := nI 3) hx hb dX6_shine_50 (by decide) ?_
      refine g_callv hD hS hA (va_runV (As := [.int (nI 3)]) (rest := []) ⟨hx, hb, hml, hown, hts⟩ (c_X6_spread l D cs ad v H.size k hk 3 (by omega) (opn J z) (srL J z N) (fun c hc => by rw [opn, (hRl.eqw hsv.1).c1 hc]) (fun c hc => hsv.di hc)) (cwV 1 hts gX6_shine_X6_spread rfl rfl rfl (by decide +kernel) ⟨Nat.le_of_ble_eq_true rfl, Nat.le_of_ble_eq_true rfl⟩) (g_preV hP hD hK hN (k := k) hk (by decide) rfl rfl rfl rfl) rfl rfl hl.1 rfl (lv_room (Nat.le_of_ble_eq_true rfl)) dX6_shine_51 ⟨Nat.le_of_ble_eq_true rfl, Nat.le_of_ble_eq_true rfl⟩) (fun u3 H locs hu3 hP hD hS => ?_)
      exact g_vret hx hb hr hlocks hP hD hS ⟨hu3.1.tr hsv.1, fun c hc => DI_ne (hu3.2 c hc) (by decide)⟩ dX6_shine_54
    · skip
      have nc_2 : ¬ N ≤ i := fun z9_ => c_2 ((nI_leI (a := N) (b := i) (by omega) (by omega)).mpr z9_)
      refine lv_aload_n hx hb dX6_shine_14 rfl (lv_at hl 1 rfl) ?_
      refine lv_iload_n hx hb dX6_shine_15 rfl (lv_at hl 0 rfl) ?_
      refine g_callF (F := f_X6_isFree v k i) hD hS hA (va_runV (As := [.int (nI i)]) (rest := []) ⟨hx, hb, hml, hown, hts⟩ (c_X6_isFree l D cs ad v H.size k hk i (by omega)) (cwV 1 hts gX6_shine_X6_isFree rfl rfl rfl (by decide +kernel) ⟨Nat.le_of_ble_eq_true rfl, Nat.le_of_ble_eq_true rfl⟩) (g_preV hP hD hK hN (k := k) hk (by decide) rfl rfl rfl rfl) rfl rfl hl.1 rfl (lv_room (Nat.le_of_ble_eq_true rfl)) dX6_shine_16 ⟨Nat.le_of_ble_eq_true rfl, Nat.le_of_ble_eq_true rfl⟩) (fun H locs hP hD hS => ?_)
      refine lv_if_eq (tgt := 43) hx hb dX6_shine_19 (by decide) (fun c_4 => ?_) (fun c_4 => ?_)
      · skip
        refine lv_iinc (v := nI (i + 1)) (lv' := [(1, .int (nI (i + 1))), (0, .ref (ad k))]) hx hb dX6_shine_43 hl (k := 0) rfl (nI_1 i) (by decide) rfl (fun ls hl => ?_)
        refine lv_goto (tgt := 6) hx hb dX6_shine_46 (by decide) ?_
        have hsv2 : SV k I v (srL J z (i + 1)) := hsv.cg (fun c hc => by have y := srL_n (I := J) (z := z) (i := i) (fun y => (hRl.eqw hsv.1).free0 (by omega) c_4 y.1) c; exact ⟨fun y2 => (y.mp ⟨hc, y2⟩).2, fun y2 => (y.mpr ⟨hc, y2⟩).2⟩)
        exact ih6 (i + 1) v _ _ _ (by omega) hsv2 (by omega) hP hD hS (lv_sub hl [0, 1] rfl)
      · skip
        refine lv_aload_n hx hb dX6_shine_22 rfl (lv_at hl 1 rfl) ?_
        refine lv_iload_n hx hb dX6_shine_23 rfl (lv_at hl 0 rfl) ?_
        refine lv_iconst (v := nI 3) hx hb dX6_shine_24 (by decide) ?_
        refine g_callF (F := v (k + 4) (31 * i + 3)) hD hS hA (va_runV (As := [.int (nI i), .int (nI 3)]) (rest := []) ⟨hx, hb, hml, hown, hts⟩ (c_X6_get l D cs ad v H.size k hk i (by omega) 3 (by omega)) (cwV 2 hts gX6_shine_X6_get rfl rfl rfl (by decide +kernel) ⟨Nat.le_of_ble_eq_true rfl, Nat.le_of_ble_eq_true rfl⟩) (g_preV hP hD hK hN (k := k) hk (by decide) rfl rfl rfl rfl) rfl rfl hl.1 rfl (lv_room (Nat.le_of_ble_eq_true rfl)) dX6_shine_25 ⟨Nat.le_of_ble_eq_true rfl, Nat.le_of_ble_eq_true rfl⟩) (fun H locs hP hD hS => ?_)
        rw [show v (k + 4) (31 * i + 3) = J (z + 8 + (1 + i)) 3 from ((hRl.eqw hsv.1).t (by omega) (by decide))]
        refine lv_if_le (tgt := 43) hx hb dX6_shine_28 (by decide) (fun c_5 => ?_) (fun c_5 => ?_)
        · skip
          refine lv_iinc (v := nI (i + 1)) (lv' := [(1, .int (nI (i + 1))), (0, .ref (ad k))]) hx hb dX6_shine_43 hl (k := 0) rfl (nI_1 i) (by decide) rfl (fun ls hl => ?_)
          refine lv_goto (tgt := 6) hx hb dX6_shine_46 (by decide) ?_
          have hsv2 : SV k I v (srL J z (i + 1)) := hsv.cg (fun c hc => by have y := srL_n (I := J) (z := z) (i := i) (fun y => not_lt_z c_5 y.2) c; exact ⟨fun y2 => (y.mp ⟨hc, y2⟩).2, fun y2 => (y.mpr ⟨hc, y2⟩).2⟩)
          exact ih6 (i + 1) v _ _ _ (by omega) hsv2 (by omega) hP hD hS (lv_sub hl [0, 1] rfl)
        · skip
          refine lv_aload_n hx hb dX6_shine_31 rfl (lv_at hl 1 rfl) ?_
          refine g_get (κ := 10) (ci := 6) (v := .ref (ad (k + 6))) (C := RX6) (T := TX6) (N := 8) hx hb hts hown hK hP (k := k) hk (by decide) rfl (fun _ h => List.mem_cons_of_mem _ (List.mem_append_right _ h)) rfl 7 (by decide) (hts _ (List.mem_of_getElem? (i := 2) rfl)) (fun _ h9 => h9) rfl dX6_shine_32 ?_
          refine lv_aload_n hx hb dX6_shine_35 rfl (lv_at hl 1 rfl) ?_
          refine lv_iload_n hx hb dX6_shine_36 rfl (lv_at hl 0 rfl) ?_
          refine lv_iconst (v := nI 0) hx hb dX6_shine_37 (by decide) ?_
          refine g_callF (F := v (k + 4) (31 * i + 0)) hD hS hA (va_runV (As := [.int (nI i), .int (nI 0)]) (rest := [.ref (ad (k + 6))]) ⟨hx, hb, hml, hown, hts⟩ (c_X6_get l D cs ad v H.size k hk i (by omega) 0 (by omega)) (cwV 2 hts gX6_shine_X6_get rfl rfl rfl (by decide +kernel) ⟨Nat.le_of_ble_eq_true rfl, Nat.le_of_ble_eq_true rfl⟩) (g_preV hP hD hK hN (k := k) hk (by decide) rfl rfl rfl rfl) rfl rfl hl.1 rfl (lv_room (Nat.le_of_ble_eq_true rfl)) dX6_shine_38 ⟨Nat.le_of_ble_eq_true rfl, Nat.le_of_ble_eq_true rfl⟩) (fun H locs hP hD hS => ?_)
          rw [show v (k + 4) (31 * i + 0) = J (z + 8 + (1 + i)) 0 from ((hRl.eqw hsv.1).t (by omega) (by decide))]
          obtain ⟨p, hp8, hp9⟩ := hIV.place (show i < N from by omega)
          refine lv_topi (fun y9 ey9 => ?_)
          obtain rfl := ey9.trans hp9
          refine lv_iconst (v := nI 0) hx hb dX6_shine_41 (by decide) ?_
          refine g_iastn (n := 256) (i := p) hx hb hK hP hD hS (k := (k + 6)) (kd_10_7 hk) (by decide) (fun _ => rfl) (by omega) (by decide) dX6_shine_42 (fun u6 H locs hu6 hP hD hS => ?_)
          refine lv_iinc (v := nI (i + 1)) (lv' := [(1, .int (nI (i + 1))), (0, .ref (ad k))]) hx hb dX6_shine_43 hl (k := 0) rfl (nI_1 i) (by decide) rfl (fun ls hl => ?_)
          refine lv_goto (tgt := 6) hx hb dX6_shine_46 (by decide) ?_
          have hsv2 : SV k I u6 (srL J z (i + 1)) := by rw [hu6]; exact hsv.add (fun c hc => by have y := srL_y (I := J) (z := z) (i := i) ((hRl.eqw hsv.1).free1 (by omega) c_4) (not_le_z c_5) hp9 hp8 c; exact ⟨fun y2 => (y.mp ⟨hc, y2⟩).elim (fun y => Or.inl y.2) Or.inr, fun y2 => (y.mpr (y2.elim (fun y => Or.inl ⟨hc, y⟩) Or.inr)).2⟩)
          exact ih6 (i + 1) u6 _ _ _ (by omega) hsv2 (by omega) hP hD hS (lv_sub hl [0, 1] rfl)

set_option maxHeartbeats 4000000 in
set_option maxRecDepth 100000 in
theorem c_X6_hold (l : Launch) (D : va_G) (cs : Nat → ClassId) (ad : Nat → Nat) (I : Mm) (sz : Nat) (k : Nat) (hk : kM.getD k 0 = 10) (z : Nat) (J : Mm) (N : Nat) (hRl : Rl z J k I N) (hIV : IV J z N) : MetN l yX6_hold wsX6_hold ({ frames := 2, cells := 0, slots := 0, locals := 47 }) kM cs D ad I sz [.ref (ad k)] (fun u => EqW k u I ∧ ∀ c, c < 256 → (u (k + 6) c ≠ -1 ↔ heldP J z c)) 0 0 := by
  refine g_met (cc := cX6_hold) (maxL := 2) (ret := none) (by decide) rfl (Nat.le_of_ble_eq_true rfl) ?_
  intro pg e s m args below meth c ls hx hb hr hml hts hown hlocks hsz hP hD hK hN hS hA hl
  have hown : s.vm.findClass RX6 = some m.cls := hown
  have hl : lv_has ls 2 [(0, .ref (ad k))] := hl
  have hN8 := hIV.1.2.1
  refine lv_aload_n hx hb dX6_hold_0 rfl (lv_at hl 0 rfl) ?_
  refine g_callM (M := clrM I k 256) hD hS hA (va_runV (As := []) (rest := []) ⟨hx, hb, hml, hown, hts⟩ (c_X6_clear l D cs ad I s.heap.size k hk) (cwV 0 hts gX6_hold_X6_clear rfl rfl rfl (by decide +kernel) ⟨Nat.le_of_ble_eq_true rfl, Nat.le_of_ble_eq_true rfl⟩) (g_preV hP hD hK hN (k := k) hk (by decide) rfl rfl rfl rfl) rfl rfl hl.1 rfl (lv_room (Nat.le_of_ble_eq_true rfl)) dX6_hold_1 ⟨Nat.le_of_ble_eq_true rfl, Nat.le_of_ble_eq_true rfl⟩) (fun u1 H locs hu1 hP hD hS => ?_)
  refine lv_iconst (v := nI 0) hx hb dX6_hold_4 (by decide) ?_
  refine lv_istore_n (lv' := [(1, .int (nI 0)), (0, .ref (ad k))]) hx hb dX6_hold_5 rfl hl (by decide) rfl (fun ls hl => ?_)
  suffices KL6 : ∀ (fuel : Nat) (i : Nat) (v : Mm) (H : Heap) (locs : List Loc) (ls : Array Slot), (i ≤ 256) → (SV k I v (srH J z i)) → 256 - i < fuel → va_P D vwCl (gw kM cs ad v) H → va_D (gA kM ad sz) (gw kM cs ad v) → va_S (gA kM ad sz) s.heap H locs → lv_has ls 2 [(1, .int (nI i)), (0, .ref (ad k))] → W pg l e ({ frames := 2, cells := 0, slots := 0, locals := 47 }) s m args below meth c H locs 0 0 (MQ below (va_Qv (fun u => EqW k u I ∧ ∀ c, c < 256 → (u (k + 6) c ≠ -1 ↔ heldP J z c)) (wat kM cs D ad (gA kM ad sz)) (gA kM ad sz)) args s 0 0 (gA kM ad sz)) (F0 m 6 ls []) from KL6 _ 0 u1 _ _ _ (Nat.zero_le _) (by rw [hu1]; exact SV.clr (fun c hc y => absurd y.1 (Nat.not_lt_zero _))) (Nat.lt_succ_self _) hP hD hS (lv_sub hl [0, 1] rfl)
  intro fuel6
  induction fuel6 with
  | zero => intro _ _ _ _ _ _ _ hm; exact absurd hm (Nat.not_lt_zero _)
  | succ fuel6 ih6 =>
    intro i v H locs ls hi hsv hm6 hP hD hS hl
    refine lv_iload_n hx hb dX6_hold_6 rfl (lv_at hl 0 rfl) ?_
    refine lv_sipush (v := nI 256) hx hb dX6_hold_7 (by decide) ?_
    refine lv_icmp_ge (tgt := 44) hx hb dX6_hold_10 (by decide) (fun c_2 => ?_) (fun c_2 => ?_)
    · skip
      have nc_2 : 256 ≤ i := (nI_leI (a := 256) (b := i) (by omega) (by omega)).mp c_2
      refine lv_aload_n hx hb dX6_hold_44 rfl (lv_at hl 1 rfl) ?_
      rw [show i = 256 from by omega] at hsv
      refine lv_iconst (v := nI 2) hx hb dX6_hold_45 (by decide) ?_
      refine g_callv hD hS hA (va_runV (As := [.int (nI 2)]) (rest := []) ⟨hx, hb, hml, hown, hts⟩ (c_X6_spread l D cs ad v H.size k hk 2 (by omega) (opn J z) (srH J z 256) (fun c hc => by rw [opn, (hRl.eqw hsv.1).c1 hc]) (fun c hc => hsv.di hc)) (cwV 1 hts gX6_hold_X6_spread rfl rfl rfl (by decide +kernel) ⟨Nat.le_of_ble_eq_true rfl, Nat.le_of_ble_eq_true rfl⟩) (g_preV hP hD hK hN (k := k) hk (by decide) rfl rfl rfl rfl) rfl rfl hl.1 rfl (lv_room (Nat.le_of_ble_eq_true rfl)) dX6_hold_46 ⟨Nat.le_of_ble_eq_true rfl, Nat.le_of_ble_eq_true rfl⟩) (fun u3 H locs hu3 hP hD hS => ?_)
      exact g_vret hx hb hr hlocks hP hD hS ⟨hu3.1.tr hsv.1, fun c hc => DI_ne (hu3.2 c hc) (by decide)⟩ dX6_hold_49
    · skip
      have nc_2 : ¬ 256 ≤ i := fun z9_ => c_2 ((nI_leI (a := 256) (b := i) (by omega) (by omega)).mpr z9_)
      refine lv_aload_n hx hb dX6_hold_13 rfl (lv_at hl 1 rfl) ?_
      refine lv_iload_n hx hb dX6_hold_14 rfl (lv_at hl 0 rfl) ?_
      refine g_callF (F := f_X6_isOpen v k i) hD hS hA (va_runV (As := [.int (nI i)]) (rest := []) ⟨hx, hb, hml, hown, hts⟩ (c_X6_isOpen l D cs ad v H.size k hk i (by omega)) (cwV 1 hts gX6_hold_X6_isOpen rfl rfl rfl (by decide +kernel) ⟨Nat.le_of_ble_eq_true rfl, Nat.le_of_ble_eq_true rfl⟩) (g_preV hP hD hK hN (k := k) hk (by decide) rfl rfl rfl rfl) rfl rfl hl.1 rfl (lv_room (Nat.le_of_ble_eq_true rfl)) dX6_hold_15 ⟨Nat.le_of_ble_eq_true rfl, Nat.le_of_ble_eq_true rfl⟩) (fun H locs hP hD hS => ?_)
      refine lv_if_eq (tgt := 38) hx hb dX6_hold_18 (by decide) (fun c_4 => ?_) (fun c_4 => ?_)
      · skip
        refine lv_iinc (v := nI (i + 1)) (lv' := [(1, .int (nI (i + 1))), (0, .ref (ad k))]) hx hb dX6_hold_38 hl (k := 0) rfl (nI_1 i) (by decide) rfl (fun ls hl => ?_)
        refine lv_goto (tgt := 6) hx hb dX6_hold_41 (by decide) ?_
        have hsv2 : SV k I v (srH J z (i + 1)) := hsv.cg (fun c hc => srH_n (I := J) (z := z) (i := i) (fun y => (hRl.eqw hsv.1).open0 (by omega) c_4 ((hIV.post (by omega)).mp y).1) c)
        exact ih6 (i + 1) v _ _ _ (by omega) hsv2 (by omega) hP hD hS (lv_sub hl [0, 1] rfl)
      · skip
        refine lv_aload_n hx hb dX6_hold_21 rfl (lv_at hl 1 rfl) ?_
        refine g_get (κ := 10) (ci := 6) (v := .ref (ad (k + 3))) (C := RX6) (T := TX6) (N := 8) hx hb hts hown hK hP (k := k) hk (by decide) rfl (fun _ h => List.mem_cons_of_mem _ (List.mem_append_right _ h)) rfl 3 (by decide) (hts _ (List.mem_of_getElem? (i := 1) rfl)) (fun _ h9 => h9) rfl dX6_hold_22 ?_
        refine lv_iload_n hx hb dX6_hold_25 rfl (lv_at hl 0 rfl) ?_
        refine g_ialdn (n := 256) (i := i) hx hb hK hP (k := (k + 3)) (kd_10_3 hk) (by decide) rfl (by omega) (by decide) dX6_hold_26 ?_
        rw [show v (k + 3) i = J (z + 1 + 3) i from ((hRl.eqw hsv.1).c3 (by omega))]
        refine lv_iconst (v := nI 1) hx hb dX6_hold_27 (by decide) ?_
        refine lv_icmp_ne (tgt := 38) hx hb dX6_hold_28 (by decide) (fun c_5 => ?_) (fun c_5 => ?_)
        · skip
          refine lv_iinc (v := nI (i + 1)) (lv' := [(1, .int (nI (i + 1))), (0, .ref (ad k))]) hx hb dX6_hold_38 hl (k := 0) rfl (nI_1 i) (by decide) rfl (fun ls hl => ?_)
          refine lv_goto (tgt := 6) hx hb dX6_hold_41 (by decide) ?_
          have hsv2 : SV k I v (srH J z (i + 1)) := hsv.cg (fun c hc => srH_n (I := J) (z := z) (i := i) (fun y => c_5 ((hIV.post (by omega)).mp y).2) c)
          exact ih6 (i + 1) v _ _ _ (by omega) hsv2 (by omega) hP hD hS (lv_sub hl [0, 1] rfl)
        · skip
          refine lv_aload_n hx hb dX6_hold_31 rfl (lv_at hl 1 rfl) ?_
          refine g_get (κ := 10) (ci := 6) (v := .ref (ad (k + 6))) (C := RX6) (T := TX6) (N := 8) hx hb hts hown hK hP (k := k) hk (by decide) rfl (fun _ h => List.mem_cons_of_mem _ (List.mem_append_right _ h)) rfl 7 (by decide) (hts _ (List.mem_of_getElem? (i := 2) rfl)) (fun _ h9 => h9) rfl dX6_hold_32 ?_
          refine lv_iload_n hx hb dX6_hold_35 rfl (lv_at hl 0 rfl) ?_
          refine lv_iconst (v := nI 0) hx hb dX6_hold_36 (by decide) ?_
          refine g_iastn (n := 256) (i := i) hx hb hK hP hD hS (k := (k + 6)) (kd_10_7 hk) (by decide) (fun _ => rfl) (by omega) (by decide) dX6_hold_37 (fun u6 H locs hu6 hP hD hS => ?_)
          refine lv_iinc (v := nI (i + 1)) (lv' := [(1, .int (nI (i + 1))), (0, .ref (ad k))]) hx hb dX6_hold_38 hl (k := 0) rfl (nI_1 i) (by decide) rfl (fun ls hl => ?_)
          refine lv_goto (tgt := 6) hx hb dX6_hold_41 (by decide) ?_
          have hsv2 : SV k I u6 (srH J z (i + 1)) := by rw [hu6]; exact hsv.add (fun c hc => srH_y (I := J) (z := z) (i := i) ((hIV.post (by omega)).mpr ⟨(hRl.eqw hsv.1).open1 (by omega) c_4, c_5⟩) c)
          exact ih6 (i + 1) u6 _ _ _ (by omega) hsv2 (by omega) hP hD hS (lv_sub hl [0, 1] rfl)

set_option maxHeartbeats 4000000 in
set_option maxRecDepth 100000 in
theorem c_X6_isHeld (l : Launch) (D : va_G) (cs : Nat → ClassId) (ad : Nat → Nat) (I : Mm) (sz : Nat) (k : Nat) (hk : kM.getD k 0 = 10) (c0 : Nat) (hc0 : c0 < 256) (z : Nat) (J : Mm) (N : Nat) (hRl : Rl z J k I N) (hIV : IV J z N) (hwl : ∀ c, c < 256 → (I (k + 6) c ≠ -1 ↔ heldP J z c)) : MetI l yX6_isHeld wsX6_isHeld ({ frames := 1, cells := 0, slots := 0, locals := 21 }) kM cs D ad I sz [.ref (ad k), .int (nI c0)] (fun r u => r = bi (cd (heldP J z c0)) ∧ u = I) 0 0 := by
  refine g_met (cc := cX6_isHeld) (maxL := 2) (ret := (some .boolean)) (by decide) rfl (Nat.le_of_ble_eq_true rfl) ?_
  intro pg e s m args below meth c ls hx hb hr hml hts hown hlocks hsz hP hD hK hN hS hA hl
  have hown : s.vm.findClass RX6 = some m.cls := hown
  have hl : lv_has ls 2 [(0, .ref (ad k)), (1, .int (nI c0))] := hl
  have hN8 := hIV.1.2.1
  refine lv_aload_n hx hb dX6_isHeld_0 rfl (lv_at hl 0 rfl) ?_
  refine lv_iload_n hx hb dX6_isHeld_1 rfl (lv_at hl 1 rfl) ?_
  refine g_callF (F := f_X6_isOpen I k c0) hD hS hA (va_runV (As := [.int (nI c0)]) (rest := []) ⟨hx, hb, hml, hown, hts⟩ (c_X6_isOpen l D cs ad I s.heap.size k hk c0 (by omega)) (cwV 1 hts gX6_isHeld_X6_isOpen rfl rfl rfl (by decide +kernel) ⟨Nat.le_of_ble_eq_true rfl, Nat.le_of_ble_eq_true rfl⟩) (g_preV hP hD hK hN (k := k) hk (by decide) rfl rfl rfl rfl) rfl rfl hl.1 rfl (lv_room (Nat.le_of_ble_eq_true rfl)) dX6_isHeld_2 ⟨Nat.le_of_ble_eq_true rfl, Nat.le_of_ble_eq_true rfl⟩) (fun H locs hP hD hS => ?_)
  refine lv_if_eq (tgt := 22) hx hb dX6_isHeld_5 (by decide) (fun c_1 => ?_) (fun c_1 => ?_)
  · skip
    refine lv_iconst (v := nI 0) hx hb dX6_isHeld_22 (by decide) ?_
    exact g_iret (v := nI 0) hx hb hr hlocks rfl hP hD hS ⟨by rw [cd_f (fun y => hRl.open0 hc0 c_1 (hIV.heldO hc0 y))]; rfl, rfl⟩ dX6_isHeld_23
  · skip
    refine lv_aload_n hx hb dX6_isHeld_8 rfl (lv_at hl 0 rfl) ?_
    refine g_get (κ := 10) (ci := 6) (v := .ref (ad (k + 6))) (C := RX6) (T := TX6) (N := 8) hx hb hts hown hK hP (k := k) hk (by decide) rfl (fun _ h => List.mem_cons_of_mem _ (List.mem_append_right _ h)) rfl 7 (by decide) (hts _ (List.mem_of_getElem? (i := 1) rfl)) (fun _ h9 => h9) rfl dX6_isHeld_9 ?_
    refine lv_iload_n hx hb dX6_isHeld_12 rfl (lv_at hl 1 rfl) ?_
    refine g_ialdn (n := 256) (i := c0) hx hb hK hP (k := (k + 6)) (kd_10_7 hk) (by decide) rfl (by omega) (by decide) dX6_isHeld_13 ?_
    refine lv_iconst (v := -1) hx hb dX6_isHeld_14 (by decide) ?_
    refine lv_icmp_eq (tgt := 22) hx hb dX6_isHeld_15 (by decide) (fun c_2 => ?_) (fun c_2 => ?_)
    · skip
      refine lv_iconst (v := nI 0) hx hb dX6_isHeld_22 (by decide) ?_
      exact g_iret (v := nI 0) hx hb hr hlocks rfl hP hD hS ⟨by rw [cd_f (fun y => (hwl c0 hc0).mpr y c_2)]; rfl, rfl⟩ dX6_isHeld_23
    · skip
      refine lv_iconst (v := nI 1) hx hb dX6_isHeld_18 (by decide) ?_
      refine lv_goto (tgt := 23) hx hb dX6_isHeld_19 (by decide) ?_
      exact g_iret (v := nI 1) hx hb hr hlocks rfl hP hD hS ⟨by rw [cd_t ((hwl c0 hc0).mp c_2)]; rfl, rfl⟩ dX6_isHeld_23

def ltL (J : Mm) (z N c : Nat) (n : Nat) : Prop := ∃ w, w < n ∧ nb c w < 256 ∧ litR J z N (nb c w)
theorem ltL_n {J : Mm} {z N c n : Nat} (h : ¬ (nb c n < 256 ∧ litR J z N (nb c n))) : ltL J z N c (n + 1) ↔ ltL J z N c n := by
  constructor
  · rintro ⟨w, h1, h2⟩
    by_cases e : w = n
    · subst e; exact absurd h2 h
    · exact ⟨w, by omega, h2⟩
  · rintro ⟨w, h1, h2⟩
    exact ⟨w, by omega, h2⟩
theorem ltL_y {J : Mm} {z N c n : Nat} (h : nb c n < 256 ∧ litR J z N (nb c n)) : ltL J z N c (n + 1) := ⟨n, by omega, h⟩
theorem ltL_up {J : Mm} {z N c n : Nat} (h : ltL J z N c n) : ltL J z N c (n + 1) := by
  obtain ⟨w, h1, h2⟩ := h
  exact ⟨w, by omega, h2⟩
theorem cd_cg {P Q : Prop} (h : P ↔ Q) : cd P = cd Q := by
  by_cases p : P
  · rw [cd_t p, cd_t (h.mp p)]
  · rw [cd_f p, cd_f (fun q => p (h.mpr q))]
theorem bi_cd0 {P : Prop} (h : bi (cd P) = 0) : ¬ P := fun p => by rw [cd_t p] at h; exact absurd h (by decide)
theorem bi_cd1 {P : Prop} (h : ¬ bi (cd P) = 0) : P := Classical.byContradiction fun p => by rw [cd_f p] at h; exact absurd rfl h

set_option maxHeartbeats 4000000 in
set_option maxRecDepth 100000 in
theorem c_X6_isLit (l : Launch) (D : va_G) (cs : Nat → ClassId) (ad : Nat → Nat) (I : Mm) (sz : Nat) (k : Nat) (hk : kM.getD k 0 = 10) (c0 : Nat) (hc0 : c0 < 256) (z : Nat) (J : Mm) (N : Nat) (hRl : Rl z J k I N) (hIV : IV J z N) (hwl : ∀ c, c < 256 → (I (k + 6) c ≠ -1 ↔ litR J z N c)) : MetI l yX6_isLit wsX6_isLit ({ frames := 1, cells := 0, slots := 0, locals := 21 }) kM cs D ad I sz [.ref (ad k), .int (nI c0)] (fun r u => r = bi (cd (litC J z N c0)) ∧ u = I) 0 0 := by
  refine g_met (cc := cX6_isLit) (maxL := 5) (ret := (some .boolean)) (by decide) rfl (Nat.le_of_ble_eq_true rfl) ?_
  intro pg e s m args below meth c ls hx hb hr hml hts hown hlocks hsz hP hD hK hN hS hA hl
  have hown : s.vm.findClass RX6 = some m.cls := hown
  have hl : lv_has ls 5 [(0, .ref (ad k)), (1, .int (nI c0))] := hl
  have hN8 := hIV.1.2.1
  refine lv_aload_n hx hb dX6_isLit_0 rfl (lv_at hl 0 rfl) ?_
  refine g_get (κ := 10) (ci := 6) (v := .ref (ad (k + 1))) (C := RX6) (T := TX6) (N := 8) hx hb hts hown hK hP (k := k) hk (by decide) rfl (fun _ h => List.mem_cons_of_mem _ (List.mem_append_right _ h)) rfl 1 (by decide) (hts _ (List.mem_of_getElem? (i := 1) rfl)) (fun _ h9 => h9) rfl dX6_isLit_1 ?_
  refine lv_iload_n hx hb dX6_isLit_4 rfl (lv_at hl 1 rfl) ?_
  refine g_ialdn (n := 256) (i := c0) hx hb hK hP (k := (k + 1)) (kd_10_1 hk) (by decide) rfl (by omega) (by decide) dX6_isLit_5 ?_
  rw [show I (k + 1) c0 = J (z + 1 + 1) c0 from (hRl.c1 (by omega))]
  refine lv_if_ne (tgt := 25) hx hb dX6_isLit_6 (by decide) (fun c_1 => ?_) (fun c_1 => ?_)
  · skip
    refine lv_iconst (v := nI 0) hx hb dX6_isLit_25 (by decide) ?_
    refine lv_istore_n (lv' := [(2, .int (nI 0)), (0, .ref (ad k)), (1, .int (nI c0))]) hx hb dX6_isLit_26 rfl hl (by decide) rfl (fun ls hl => ?_)
    refine lv_iconst (v := nI 0) hx hb dX6_isLit_27 (by decide) ?_
    refine lv_istore_n (lv' := [(3, .int (nI 0)), (2, .int (nI 0)), (0, .ref (ad k)), (1, .int (nI c0))]) hx hb dX6_isLit_28 rfl hl (by decide) rfl (fun ls hl => ?_)
    suffices KL29 : ∀ (fuel : Nat) (i : Nat) (f : Int32) (H : Heap) (locs : List Loc) (ls : Array Slot), (i ≤ 4) → (f = bi (cd (ltL J z N c0 i))) → (J (z + 1 + 1) c0 = nI 10 → i = 0) → 4 - i < fuel → va_P D vwCl (gw kM cs ad I) H → va_D (gA kM ad sz) (gw kM cs ad I) → va_S (gA kM ad sz) s.heap H locs → lv_has ls 5 [(3, .int (nI i)), (2, .int f), (0, .ref (ad k)), (1, .int (nI c0))] → W pg l e ({ frames := 1, cells := 0, slots := 0, locals := 21 }) s m args below meth c H locs 0 0 (MQ below (va_Qi (fun r u => r = bi (cd (litC J z N c0)) ∧ u = I) (wat kM cs D ad (gA kM ad sz)) (gA kM ad sz)) args s 0 0 (gA kM ad sz)) (F0 m 29 ls []) from KL29 _ 0 (nI 0) _ _ _ (Nat.zero_le _) (by rw [cd_f (fun y => by obtain ⟨w, hw, _⟩ := y; exact absurd hw (Nat.not_lt_zero _))]; rfl) (fun _ => rfl) (Nat.lt_succ_self _) hP hD hS (lv_sub hl [0, 1, 2, 3] rfl)
    intro fuel29
    induction fuel29 with
    | zero => intro _ _ _ _ _ _ _ _ hm; exact absurd hm (Nat.not_lt_zero _)
    | succ fuel29 ih29 =>
      intro i f H locs ls hi hf hic hm29 hP hD hS hl
      refine lv_iload_n hx hb dX6_isLit_29 rfl (lv_at hl 0 rfl) ?_
      refine lv_iconst (v := nI 4) hx hb dX6_isLit_30 (by decide) ?_
      refine lv_icmp_ge (tgt := 94) hx hb dX6_isLit_31 (by decide) (fun c_2 => ?_) (fun c_2 => ?_)
      · skip
        have nc_2 : 4 ≤ i := (nI_leI (a := 4) (b := i) (by omega) (by omega)).mp c_2
        refine lv_iload_n hx hb dX6_isLit_94 rfl (lv_at hl 1 rfl) ?_
        exact g_iret (v := f) hx hb hr hlocks (by rw [hf]; exact bi_nar _) hP hD hS ⟨by rw [hf, show i = 4 from by omega]; exact congrArg bi (cd_cg ⟨fun y => ⟨fun e => by have := hic e; omega, Or.inr ⟨c_1, y⟩⟩, fun y => y.2.elim (fun y => absurd (hIV.litO hc0 y) c_1) (fun y => y.2)⟩), rfl⟩ dX6_isLit_95
      · skip
        have nc_2 : ¬ 4 ≤ i := fun z9_ => c_2 ((nI_leI (a := 4) (b := i) (by omega) (by omega)).mpr z9_)
        refine lv_aload_n hx hb dX6_isLit_34 rfl (lv_at hl 2 rfl) ?_
        refine g_get (κ := 10) (ci := 6) (v := .ref (ad (k + 1))) (C := RX6) (T := TX6) (N := 8) hx hb hts hown hK hP (k := k) hk (by decide) rfl (fun _ h => List.mem_cons_of_mem _ (List.mem_append_right _ h)) rfl 1 (by decide) (hts _ (List.mem_of_getElem? (i := 1) rfl)) (fun _ h9 => h9) rfl dX6_isLit_35 ?_
        refine lv_iload_n hx hb dX6_isLit_38 rfl (lv_at hl 3 rfl) ?_
        refine g_ialdn (n := 256) (i := c0) hx hb hK hP (k := (k + 1)) (kd_10_1 hk) (by decide) rfl (by omega) (by decide) dX6_isLit_39 ?_
        rw [show I (k + 1) c0 = J (z + 1 + 1) c0 from (hRl.c1 (by omega))]
        refine lv_bipush (v := nI 10) hx hb dX6_isLit_40 (by decide) ?_
        refine lv_icmp_eq (tgt := 94) hx hb dX6_isLit_42 (by decide) (fun c_3 => ?_) (fun c_3 => ?_)
        · skip
          refine lv_iload_n hx hb dX6_isLit_94 rfl (lv_at hl 1 rfl) ?_
          exact g_iret (v := f) hx hb hr hlocks (by rw [hf]; exact bi_nar _) hP hD hS ⟨by rw [hf, show i = 0 from hic c_3, cd_f (P := litC J z N c0) (fun y => y.1 c_3), cd_f (P := ltL J z N c0 0) (fun y => by obtain ⟨w, hw, _⟩ := y; exact absurd hw (Nat.not_lt_zero _))], rfl⟩ dX6_isLit_95
        · skip
          refine lv_iload_n hx hb dX6_isLit_45 rfl (lv_at hl 3 rfl) ?_
          refine lv_iload_n hx hb dX6_isLit_46 rfl (lv_at hl 0 rfl) ?_
          refine g_callF (F := f_X6_beside (nI c0) (nI i)) hD hS hA (va_runS (As := [.int (nI c0), .int (nI i)]) (rest := []) ⟨hx, hb, hml, hown, hts⟩ (c_X6_beside l D cs ad I H.size (nI c0) (nI i)) (va_cwS 2 hts gX6_isLit_X6_beside rfl rfl rfl (by decide +kernel) ⟨Nat.le_of_ble_eq_true rfl, Nat.le_of_ble_eq_true rfl⟩) (g_preS hP hD hK hN) rfl rfl hl.1 rfl (lv_room (Nat.le_of_ble_eq_true rfl)) dX6_isLit_47 ⟨Nat.le_of_ble_eq_true rfl, Nat.le_of_ble_eq_true rfl⟩) (fun H locs hP hD hS => ?_)
          refine lv_istore (lv' := [(4, .int (f_X6_beside (nI c0) (nI i))), (3, .int (nI i)), (2, .int f), (0, .ref (ad k)), (1, .int (nI c0))]) hx hb dX6_isLit_50 hl (by decide) rfl (fun ls hl => ?_)
          refine lv_iload_n hx hb dX6_isLit_52 rfl (lv_at hl 2 rfl) ?_
          refine lv_if_ne (tgt := 82) hx hb dX6_isLit_53 (by decide) (fun c_4 => ?_) (fun c_4 => ?_)
          · skip
            refine lv_iconst (v := nI 1) hx hb dX6_isLit_82 (by decide) ?_
            refine lv_goto (tgt := 87) hx hb dX6_isLit_83 (by decide) ?_
            refine lv_istore_n (lv' := [(2, .int (nI 1)), (4, .int (f_X6_beside (nI c0) (nI i))), (3, .int (nI i)), (0, .ref (ad k)), (1, .int (nI c0))]) hx hb dX6_isLit_87 rfl hl (by decide) rfl (fun ls hl => ?_)
            refine lv_iinc (v := nI (i + 1)) (lv' := [(3, .int (nI (i + 1))), (2, .int (nI 1)), (4, .int (f_X6_beside (nI c0) (nI i))), (0, .ref (ad k)), (1, .int (nI c0))]) hx hb dX6_isLit_88 hl (k := 2) rfl (nI_1 i) (by decide) rfl (fun ls hl => ?_)
            refine lv_goto (tgt := 29) hx hb dX6_isLit_91 (by decide) ?_
            exact ih29 (i + 1) (nI 1) _ _ _ (by omega) (by rw [cd_t (ltL_up (bi_cd1 (by rw [← hf]; exact c_4)))]; rfl) (fun e => absurd e c_3) (by omega) hP hD hS (lv_sub hl [0, 1, 3, 4] rfl)
          · skip
            refine lv_iload hx hb dX6_isLit_56 (lv_at hl 0 rfl) ?_
            refine lv_iconst (v := -1) hx hb dX6_isLit_58 (by decide) ?_
            refine lv_icmp_eq (tgt := 86) hx hb dX6_isLit_59 (by decide) (fun c_5 => ?_) (fun c_5 => ?_)
            · skip
              refine lv_iconst (v := nI 0) hx hb dX6_isLit_86 (by decide) ?_
              refine lv_istore_n (lv' := [(2, .int (nI 0)), (4, .int (f_X6_beside (nI c0) (nI i))), (3, .int (nI i)), (0, .ref (ad k)), (1, .int (nI c0))]) hx hb dX6_isLit_87 rfl hl (by decide) rfl (fun ls hl => ?_)
              refine lv_iinc (v := nI (i + 1)) (lv' := [(3, .int (nI (i + 1))), (2, .int (nI 0)), (4, .int (f_X6_beside (nI c0) (nI i))), (0, .ref (ad k)), (1, .int (nI c0))]) hx hb dX6_isLit_88 hl (k := 2) rfl (nI_1 i) (by decide) rfl (fun ls hl => ?_)
              refine lv_goto (tgt := 29) hx hb dX6_isLit_91 (by decide) ?_
              exact ih29 (i + 1) (nI 0) _ _ _ (by omega) (by rw [cd_cg (ltL_n (fun y => besN hc0 (by omega) c_5 y.1)), ← hf]; exact c_4.symm) (fun e => absurd e c_3) (by omega) hP hD hS (lv_sub hl [0, 1, 3, 4] rfl)
            · skip
              obtain ⟨hnb1, hnb2⟩ := besY hc0 (by omega) c_5
              refine lv_aload_n hx hb dX6_isLit_62 rfl (lv_at hl 3 rfl) ?_
              refine lv_iload hx hb dX6_isLit_63 (lv_at hl 0 rfl) ?_
              refine lv_topi (fun y9 ey9 => ?_)
              obtain rfl := ey9.trans hnb2
              refine g_callF (F := f_X6_isOpen I k (nb c0 i)) hD hS hA (va_runV (As := [.int (nI (nb c0 i))]) (rest := []) ⟨hx, hb, hml, hown, hts⟩ (c_X6_isOpen l D cs ad I H.size k hk (nb c0 i) (by omega)) (cwV 1 hts gX6_isLit_X6_isOpen rfl rfl rfl (by decide +kernel) ⟨Nat.le_of_ble_eq_true rfl, Nat.le_of_ble_eq_true rfl⟩) (g_preV hP hD hK hN (k := k) hk (by decide) rfl rfl rfl rfl) rfl rfl hl.1 rfl (lv_room (Nat.le_of_ble_eq_true rfl)) dX6_isLit_65 ⟨Nat.le_of_ble_eq_true rfl, Nat.le_of_ble_eq_true rfl⟩) (fun H locs hP hD hS => ?_)
              refine lv_if_eq (tgt := 86) hx hb dX6_isLit_68 (by decide) (fun c_6 => ?_) (fun c_6 => ?_)
              · skip
                refine lv_iconst (v := nI 0) hx hb dX6_isLit_86 (by decide) ?_
                refine lv_istore_n (lv' := [(2, .int (nI 0)), (4, .int (f_X6_beside (nI c0) (nI i))), (3, .int (nI i)), (0, .ref (ad k)), (1, .int (nI c0))]) hx hb dX6_isLit_87 rfl hl (by decide) rfl (fun ls hl => ?_)
                refine lv_iinc (v := nI (i + 1)) (lv' := [(3, .int (nI (i + 1))), (2, .int (nI 0)), (4, .int (f_X6_beside (nI c0) (nI i))), (0, .ref (ad k)), (1, .int (nI c0))]) hx hb dX6_isLit_88 hl (k := 2) rfl (nI_1 i) (by decide) rfl (fun ls hl => ?_)
                refine lv_goto (tgt := 29) hx hb dX6_isLit_91 (by decide) ?_
                exact ih29 (i + 1) (nI 0) _ _ _ (by omega) (by rw [cd_cg (ltL_n (fun y => hRl.open0 hnb1 c_6 (hIV.litO hnb1 y.2))), ← hf]; exact c_4.symm) (fun e => absurd e c_3) (by omega) hP hD hS (lv_sub hl [0, 1, 3, 4] rfl)
              · skip
                refine lv_aload_n hx hb dX6_isLit_71 rfl (lv_at hl 3 rfl) ?_
                refine g_get (κ := 10) (ci := 6) (v := .ref (ad (k + 6))) (C := RX6) (T := TX6) (N := 8) hx hb hts hown hK hP (k := k) hk (by decide) rfl (fun _ h => List.mem_cons_of_mem _ (List.mem_append_right _ h)) rfl 7 (by decide) (hts _ (List.mem_of_getElem? (i := 2) rfl)) (fun _ h9 => h9) rfl dX6_isLit_72 ?_
                refine lv_iload hx hb dX6_isLit_75 (lv_at hl 0 rfl) ?_
                refine lv_topi (fun y9 ey9 => ?_)
                obtain rfl := ey9.trans hnb2
                refine g_ialdn (n := 256) (i := (nb c0 i)) hx hb hK hP (k := (k + 6)) (kd_10_7 hk) (by decide) rfl (by omega) (by decide) dX6_isLit_77 ?_
                refine lv_iconst (v := -1) hx hb dX6_isLit_78 (by decide) ?_
                refine lv_icmp_eq (tgt := 86) hx hb dX6_isLit_79 (by decide) (fun c_7 => ?_) (fun c_7 => ?_)
                · skip
                  refine lv_iconst (v := nI 0) hx hb dX6_isLit_86 (by decide) ?_
                  refine lv_istore_n (lv' := [(2, .int (nI 0)), (4, .int (f_X6_beside (nI c0) (nI i))), (3, .int (nI i)), (0, .ref (ad k)), (1, .int (nI c0))]) hx hb dX6_isLit_87 rfl hl (by decide) rfl (fun ls hl => ?_)
                  refine lv_iinc (v := nI (i + 1)) (lv' := [(3, .int (nI (i + 1))), (2, .int (nI 0)), (4, .int (f_X6_beside (nI c0) (nI i))), (0, .ref (ad k)), (1, .int (nI c0))]) hx hb dX6_isLit_88 hl (k := 2) rfl (nI_1 i) (by decide) rfl (fun ls hl => ?_)
                  refine lv_goto (tgt := 29) hx hb dX6_isLit_91 (by decide) ?_
                  exact ih29 (i + 1) (nI 0) _ _ _ (by omega) (by rw [cd_cg (ltL_n (fun y => (hwl _ hnb1).mpr y.2 c_7)), ← hf]; exact c_4.symm) (fun e => absurd e c_3) (by omega) hP hD hS (lv_sub hl [0, 1, 3, 4] rfl)
                · skip
                  refine lv_iconst (v := nI 1) hx hb dX6_isLit_82 (by decide) ?_
                  refine lv_goto (tgt := 87) hx hb dX6_isLit_83 (by decide) ?_
                  refine lv_istore_n (lv' := [(2, .int (nI 1)), (4, .int (f_X6_beside (nI c0) (nI i))), (3, .int (nI i)), (0, .ref (ad k)), (1, .int (nI c0))]) hx hb dX6_isLit_87 rfl hl (by decide) rfl (fun ls hl => ?_)
                  refine lv_iinc (v := nI (i + 1)) (lv' := [(3, .int (nI (i + 1))), (2, .int (nI 1)), (4, .int (f_X6_beside (nI c0) (nI i))), (0, .ref (ad k)), (1, .int (nI c0))]) hx hb dX6_isLit_88 hl (k := 2) rfl (nI_1 i) (by decide) rfl (fun ls hl => ?_)
                  refine lv_goto (tgt := 29) hx hb dX6_isLit_91 (by decide) ?_
                  exact ih29 (i + 1) (nI 1) _ _ _ (by omega) (by rw [cd_t (ltL_y ⟨hnb1, (hwl _ hnb1).mp c_7⟩)]; rfl) (fun e => absurd e c_3) (by omega) hP hD hS (lv_sub hl [0, 1, 3, 4] rfl)
  · skip
    refine lv_aload_n hx hb dX6_isLit_9 rfl (lv_at hl 0 rfl) ?_
    refine g_get (κ := 10) (ci := 6) (v := .ref (ad (k + 6))) (C := RX6) (T := TX6) (N := 8) hx hb hts hown hK hP (k := k) hk (by decide) rfl (fun _ h => List.mem_cons_of_mem _ (List.mem_append_right _ h)) rfl 7 (by decide) (hts _ (List.mem_of_getElem? (i := 2) rfl)) (fun _ h9 => h9) rfl dX6_isLit_10 ?_
    refine lv_iload_n hx hb dX6_isLit_13 rfl (lv_at hl 1 rfl) ?_
    refine g_ialdn (n := 256) (i := c0) hx hb hK hP (k := (k + 6)) (kd_10_7 hk) (by decide) rfl (by omega) (by decide) dX6_isLit_14 ?_
    refine lv_iconst (v := -1) hx hb dX6_isLit_15 (by decide) ?_
    refine lv_icmp_eq (tgt := 23) hx hb dX6_isLit_16 (by decide) (fun c_8 => ?_) (fun c_8 => ?_)
    · skip
      refine lv_iconst (v := nI 0) hx hb dX6_isLit_23 (by decide) ?_
      exact g_iret (v := nI 0) hx hb hr hlocks rfl hP hD hS ⟨by rw [cd_f (fun y => y.2.elim (fun y => (hwl c0 hc0).mpr y c_8) (fun y => y.1 c_1))]; rfl, rfl⟩ dX6_isLit_24
    · skip
      refine lv_iconst (v := nI 1) hx hb dX6_isLit_19 (by decide) ?_
      refine lv_goto (tgt := 24) hx hb dX6_isLit_20 (by decide) ?_
      exact g_iret (v := nI 1) hx hb hr hlocks rfl hP hD hS ⟨by rw [cd_t ⟨by rw [c_1]; decide, Or.inl ((hwl c0 hc0).mp c_8)⟩]; rfl, rfl⟩ dX6_isLit_24
