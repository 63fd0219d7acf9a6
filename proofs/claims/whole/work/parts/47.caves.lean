def mkC (op : Nat → Prop) : Nat → Nat → Prop := mkM op (fun _ => False) op (fun x => x)
def cnC (op : Nat → Prop) (f : Nat) : Nat → Prop := conn (fun x => op x ∧ ¬ mkC op f x) (fun x => x = f)
noncomputable def bN (op : Nat → Prop) (f : Nat) : Nat := cn (fun c => cd (mkC op f c)) 256
noncomputable def c2N (op go : Nat → Prop) (p : Nat → Nat) (N : Nat) (f : Nat) : Nat := cn (fun x => cd ((op x ∧ ¬ mkC op x x) ∧ ∃ q, q < N ∧ go q ∧ cnC op x (p q))) f
noncomputable def csN (op go : Nat → Prop) (p : Nat → Nat) (N w f : Nat) : Nat := if w = 0 then cvs op (fun _ => False) f else if w = 1 then lgst op (fun _ => False) f else c2N op go p N f
def CM (op : Nat → Prop) (k f : Nat) (v : Mm) : Prop := ∀ c, c < 256 → (v (k + 6) c ≠ -1 ↔ mkC op f c) ∧ (v (k + 6) c = -1 ∨ ∃ g, g < f ∧ v (k + 6) c = nI (g + 256))
section CAV
variable {op go : Nat → Prop} {p : Nat → Nat} {N k f w : Nat} {I v u : Mm}
theorem CM_0 (op : Nat → Prop) (k : Nat) (I : Mm) : CM op k 0 (clrM I k 256) := fun c hc => by
  have e : clrM I k 256 (k + 6) c = -1 := by simp only [clrM]; rw [wrA_s, if_pos hc]
  exact ⟨⟨fun y => absurd e y, fun y => False.elim y⟩, Or.inl e⟩
theorem CM_n (h : CM op k f v) (hn : ¬ (op f ∧ ¬ mkC op f f)) : CM op k (f + 1) v := fun c hc =>
  ⟨(h c hc).1.trans (mkM_n (M0 := fun _ => False) (p := fun x => x) hn c).symm, (h c hc).2.elim Or.inl (fun ⟨g, a, b⟩ => Or.inr ⟨g, by omega, b⟩)⟩
theorem CM_MI (h : CM op k f v) (hf : f < 256) (hm : v (k + 6) f = -1) : MI (mkC op f) k v f :=
  ⟨hf, fun c hc => (h c hc).1, fun c hc e => by
    rcases (h c hc).2 with y | ⟨g, a, b⟩
    · exact nI_m1 (by omega) (e.symm.trans y)
    · have := (nI_eq (by omega) (by omega)).mp (b.symm.trans e); omega, hm⟩
theorem CM_y (h : CM op k f v) (hf : f < 256) (ho : op f) (hm : v (k + 6) f = -1) (hu : ∀ c, c < 256 → (cnC op f c → u (k + 6) c = nI (f + 256)) ∧ (¬ cnC op f c → u (k + 6) c = v (k + 6) c)) : CM op k (f + 1) u := fun c hc => by
  have hM : ¬ mkC op f f := fun y => ((h f hf).1.mpr y) hm
  by_cases g : cnC op f c
  · rw [(hu c hc).1 g]
    exact ⟨⟨fun _ => Or.inr ⟨ho, hM, g⟩, fun _ => nI_m1 (by omega)⟩, Or.inr ⟨f, by omega, rfl⟩⟩
  · rw [(hu c hc).2 g]
    refine ⟨(h c hc).1.trans ⟨Or.inl, fun y => y.elim id (fun y => absurd y.2.2 g)⟩, (h c hc).2.elim Or.inl (fun ⟨x, a, b⟩ => Or.inr ⟨x, by omega, b⟩)⟩
theorem CM_b (h : CM op k f v) : cn (fun c => decide (¬ v (k + 6) c = -1)) 256 = bN op f := cn_cd (fun c hc => by rw [decide_eq_true_iff]; exact (h c hc).1)
theorem cn_mo {p q : Nat → Bool} : ∀ n, (∀ i, i < n → p i = true → q i = true) → cn p n ≤ cn q n
  | 0, _ => Nat.le_refl _
  | n + 1, h => by
    have ih := cn_mo n (fun i hi => h i (by omega))
    cases e : p n with
    | true => rw [cn_t e, cn_t (h n (by omega) e)]; omega
    | false =>
      rw [cn_f e]
      cases e2 : q n with
      | true => rw [cn_t e2]; omega
      | false => rw [cn_f e2]; exact ih
theorem bN_le (op : Nat → Prop) (f : Nat) : bN op f ≤ bN op (f + 1) := cn_mo 256 (fun i _ y => cd_t (Or.inl (cd_i.mp y)))
theorem bN_256 (op : Nat → Prop) (f : Nat) : bN op f ≤ 256 := cn_le _ _
theorem lgst_le (op : Nat → Prop) : ∀ f, lgst op (fun _ => False) f ≤ 256
  | 0 => Nat.zero_le _
  | f + 1 => by
    simp only [lgst]
    have := lgst_le op f
    have h2 := bN_256 op (f + 1)
    exact Nat.max_le.mpr ⟨this, Nat.le_trans (Nat.sub_le _ _) h2⟩
theorem csN_le (hf : f ≤ 256) : csN op go p N w f ≤ 256 := by
  simp only [csN]
  split
  · exact Nat.le_trans (cn_le _ _) hf
  · split
    · exact lgst_le op f
    · exact Nat.le_trans (cn_le _ _) hf
theorem csN_n (hn : ¬ (op f ∧ ¬ mkC op f f)) : csN op go p N w (f + 1) = csN op go p N w f := by
  simp only [csN]
  split
  · exact cvs_n hn
  · split
    · exact lgst_n hn
    · exact cn_f (cd_f (fun y => hn y.1))
theorem csN_1 (hw : w = 1) : csN op go p N w (f + 1) = max (csN op go p N w f) (bN op (f + 1) - bN op f) := by
  simp only [csN]
  rw [if_neg (show ¬ w = 0 by omega), if_pos hw, if_neg (show ¬ w = 0 by omega), if_pos hw]; rfl
theorem csN_0 (hw : w = 0) (h : op f ∧ ¬ mkC op f f) : csN op go p N w (f + 1) = csN op go p N w f + 1 := by
  simp only [csN]
  rw [if_pos hw, if_pos hw]; exact cvs_y h
theorem csN_2 (h0 : ¬ w = 0) (h1 : ¬ w = 1) (h : op f ∧ ¬ mkC op f f) (hq : ∃ q, q < N ∧ go q ∧ cnC op f (p q)) : csN op go p N w (f + 1) = csN op go p N w f + 1 := by
  simp only [csN]
  rw [if_neg h0, if_neg h1, if_neg h0, if_neg h1]; exact cn_t (cd_t ⟨h, hq⟩)
theorem csN_2n (h0 : ¬ w = 0) (h1 : ¬ w = 1) (hq : ¬ ∃ q, q < N ∧ go q ∧ cnC op f (p q)) : csN op go p N w (f + 1) = csN op go p N w f := by
  simp only [csN]
  rw [if_neg h0, if_neg h1, if_neg h0, if_neg h1]; exact cn_f (cd_f (fun y => hq y.2))
def wiC (op go : Nat → Prop) (p : Nat → Nat) (f i : Nat) : Prop := ∃ q, q < i ∧ go q ∧ cnC op f (p q)
theorem wiC_n {i : Nat} (h : ¬ (go i ∧ cnC op f (p i))) : wiC op go p f (i + 1) ↔ wiC op go p f i := by
  constructor
  · rintro ⟨q, a, b⟩
    by_cases e : q = i
    · subst e; exact absurd b h
    · exact ⟨q, by omega, b⟩
  · rintro ⟨q, a, b⟩; exact ⟨q, by omega, b⟩
theorem wiC_y {i : Nat} (h : go i ∧ cnC op f (p i)) : wiC op go p f (i + 1) := ⟨i, by omega, h⟩
theorem wiC_up {i : Nat} (h : wiC op go p f i) : wiC op go p f (i + 1) := by
  obtain ⟨q, a, b⟩ := h; exact ⟨q, by omega, b⟩
end CAV

theorem wiC_d {op go : Nat → Prop} {p : Nat → Nat} {f i : Nat} : wiC op go p f i = ∃ q, q < i ∧ go q ∧ cnC op f (p q) := rfl

set_option maxHeartbeats 4000000 in
set_option maxRecDepth 100000 in
theorem c_X6_cavesOf (l : Launch) (D : va_G) (cs : Nat → ClassId) (ad : Nat → Nat) (I : Mm) (sz : Nat) (k : Nat) (hk : kM.getD k 0 = 10) (w : Nat) (hw : w < 3) (z : Nat) (J : Mm) (N : Nat) (hRl : Rl z J k I N) (hWT : WT J z N) : MetI l yX6_cavesOf wsX6_cavesOf ({ frames := 2, cells := 0, slots := 0, locals := 46 }) kM cs D ad I sz [.ref (ad k), .int (nI w)] (fun r u => EqW k u I ∧ r = nI (csN (opn J z) (frC J z) (plC J z) N w 256)) 0 0 := by
  refine g_met (cc := cX6_cavesOf) (maxL := 8) (ret := (some .int)) (by decide) rfl (Nat.le_of_ble_eq_true rfl) ?_
  intro pg e s m args below meth c ls hx hb hr hml hts hown hlocks hsz hP hD hK hN hS hA hl
  have hown : s.vm.findClass RX6 = some m.cls := hown
  have hl : lv_has ls 8 [(0, .ref (ad k)), (1, .int (nI w))] := hl
  have hN8 := hWT.2.1
  refine lv_iconst (v := nI 0) hx hb dX6_cavesOf_0 (by decide) ?_
  refine lv_istore_n (lv' := [(2, .int (nI 0)), (0, .ref (ad k)), (1, .int (nI w))]) hx hb dX6_cavesOf_1 rfl hl (by decide) rfl (fun ls hl => ?_)
  refine lv_aload_n hx hb dX6_cavesOf_2 rfl (lv_at hl 1 rfl) ?_
  refine g_callM (M := clrM I k 256) hD hS hA (va_runV (As := []) (rest := []) ⟨hx, hb, hml, hown, hts⟩ (c_X6_clear l D cs ad I s.heap.size k hk) (cwV 0 hts gX6_cavesOf_X6_clear rfl rfl rfl (by decide +kernel) ⟨Nat.le_of_ble_eq_true rfl, Nat.le_of_ble_eq_true rfl⟩) (g_preV hP hD hK hN (k := k) hk (by decide) rfl rfl rfl rfl) rfl rfl hl.1 rfl (lv_room (Nat.le_of_ble_eq_true rfl)) dX6_cavesOf_3 ⟨Nat.le_of_ble_eq_true rfl, Nat.le_of_ble_eq_true rfl⟩) (fun u1 H locs hu1 hP hD hS => ?_)
  refine lv_iconst (v := nI 0) hx hb dX6_cavesOf_6 (by decide) ?_
  refine lv_istore_n (lv' := [(3, .int (nI 0)), (2, .int (nI 0)), (0, .ref (ad k)), (1, .int (nI w))]) hx hb dX6_cavesOf_7 rfl hl (by decide) rfl (fun ls hl => ?_)
  suffices KL8 : ∀ (fuel : Nat) (f9 : Nat) (sN : Nat) (v : Mm) (H : Heap) (locs : List Loc) (ls : Array Slot), (f9 ≤ 256) → (EqW k v I) → (CM (opn J z) k f9 v) → (sN = csN (opn J z) (frC J z) (plC J z) N w f9) → 256 - f9 < fuel → va_P D vwCl (gw kM cs ad v) H → va_D (gA kM ad sz) (gw kM cs ad v) → va_S (gA kM ad sz) s.heap H locs → lv_has ls 8 [(3, .int (nI f9)), (2, .int (nI sN)), (0, .ref (ad k)), (1, .int (nI w))] → W pg l e ({ frames := 2, cells := 0, slots := 0, locals := 46 }) s m args below meth c H locs 0 0 (MQ below (va_Qi (fun r u => EqW k u I ∧ r = nI (csN (opn J z) (frC J z) (plC J z) N w 256)) (wat kM cs D ad (gA kM ad sz)) (gA kM ad sz)) args s 0 0 (gA kM ad sz)) (F0 m 8 ls []) from KL8 _ 0 0 u1 _ _ _ (Nat.zero_le _) (by rw [hu1]; exact fun a ha => wrA_n _ _ ha) (by rw [hu1]; exact CM_0 _ _ _) (by simp only [csN, cvs, lgst, c2N, cn]; (repeat' split) <;> rfl) (Nat.lt_succ_self _) hP hD hS (lv_sub hl [0, 1, 2, 3] rfl)
  intro fuel8
  induction fuel8 with
  | zero => intro _ _ _ _ _ _ _ _ _ _ hm; exact absurd hm (Nat.not_lt_zero _)
  | succ fuel8 ih8 =>
    intro f9 sN v H locs ls hf9 hE hCM hs hm8 hP hD hS hl
    refine lv_iload_n hx hb dX6_cavesOf_8 rfl (lv_at hl 0 rfl) ?_
    refine lv_sipush (v := nI 256) hx hb dX6_cavesOf_9 (by decide) ?_
    refine lv_icmp_ge (tgt := 155) hx hb dX6_cavesOf_12 (by decide) (fun c_2 => ?_) (fun c_2 => ?_)
    · skip
      have nc_2 : 256 ≤ f9 := (nI_leI (a := 256) (b := f9) (by omega) (by omega)).mp c_2
      refine lv_iload_n hx hb dX6_cavesOf_155 rfl (lv_at hl 1 rfl) ?_
      exact g_iret (v := nI sN) hx hb hr hlocks rfl hP hD hS ⟨hE, by rw [hs, show f9 = 256 from by omega]⟩ dX6_cavesOf_156
    · skip
      have nc_2 : ¬ 256 ≤ f9 := fun z9_ => c_2 ((nI_leI (a := 256) (b := f9) (by omega) (by omega)).mpr z9_)
      refine lv_aload_n hx hb dX6_cavesOf_15 rfl (lv_at hl 2 rfl) ?_
      refine lv_iload_n hx hb dX6_cavesOf_16 rfl (lv_at hl 0 rfl) ?_
      refine g_callF (F := f_X6_isOpen v k f9) hD hS hA (va_runV (As := [.int (nI f9)]) (rest := []) ⟨hx, hb, hml, hown, hts⟩ (c_X6_isOpen l D cs ad v H.size k hk f9 (by omega)) (cwV 1 hts gX6_cavesOf_X6_isOpen rfl rfl rfl (by decide +kernel) ⟨Nat.le_of_ble_eq_true rfl, Nat.le_of_ble_eq_true rfl⟩) (g_preV hP hD hK hN (k := k) hk (by decide) rfl rfl rfl rfl) rfl rfl hl.1 rfl (lv_room (Nat.le_of_ble_eq_true rfl)) dX6_cavesOf_17 ⟨Nat.le_of_ble_eq_true rfl, Nat.le_of_ble_eq_true rfl⟩) (fun H locs hP hD hS => ?_)
      refine lv_if_eq (tgt := 149) hx hb dX6_cavesOf_20 (by decide) (fun c_3 => ?_) (fun c_3 => ?_)
      · skip
        refine lv_iinc (v := nI (f9 + 1)) (lv' := [(3, .int (nI (f9 + 1))), (2, .int (nI sN)), (0, .ref (ad k)), (1, .int (nI w))]) hx hb dX6_cavesOf_149 hl (k := 0) rfl (nI_1 f9) (by decide) rfl (fun ls hl => ?_)
        refine lv_goto (tgt := 8) hx hb dX6_cavesOf_152 (by decide) ?_
        exact ih8 (f9 + 1) sN v _ _ _ (by omega) hE (CM_n hCM (fun y => (hRl.eqw hE).open0 (by omega) c_3 y.1)) (by rw [csN_n (fun y => (hRl.eqw hE).open0 (by omega) c_3 y.1)]; exact hs) (by omega) hP hD hS (lv_sub hl [0, 1, 2, 3] rfl)
      · skip
        refine lv_aload_n hx hb dX6_cavesOf_23 rfl (lv_at hl 2 rfl) ?_
        refine g_get (κ := 10) (ci := 6) (v := .ref (ad (k + 6))) (C := RX6) (T := TX6) (N := 8) hx hb hts hown hK hP (k := k) hk (by decide) rfl (fun _ h => List.mem_cons_of_mem _ (List.mem_append_right _ h)) rfl 7 (by decide) (hts _ (List.mem_of_getElem? (i := 1) rfl)) (fun _ h9 => h9) rfl dX6_cavesOf_24 ?_
        refine lv_iload_n hx hb dX6_cavesOf_27 rfl (lv_at hl 0 rfl) ?_
        refine g_ialdn (n := 256) (i := f9) hx hb hK hP (k := (k + 6)) (kd_10_7 hk) (by decide) rfl (by omega) (by decide) dX6_cavesOf_28 ?_
        refine lv_iconst (v := -1) hx hb dX6_cavesOf_29 (by decide) ?_
        refine lv_icmp_eq (tgt := 36) hx hb dX6_cavesOf_30 (by decide) (fun c_4 => ?_) (fun c_4 => ?_)
        · skip
          have hw9 := c_4
          refine lv_aload_n hx hb dX6_cavesOf_36 rfl (lv_at hl 2 rfl) ?_
          refine g_callF (F := nI (cn (fun c => decide (¬ v (k + 6) c = -1)) 256)) hD hS hA (va_runV (As := []) (rest := []) ⟨hx, hb, hml, hown, hts⟩ (c_X6_found l D cs ad v H.size k hk) (cwV 0 hts gX6_cavesOf_X6_found rfl rfl rfl (by decide +kernel) ⟨Nat.le_of_ble_eq_true rfl, Nat.le_of_ble_eq_true rfl⟩) (g_preV hP hD hK hN (k := k) hk (by decide) rfl rfl rfl rfl) rfl rfl hl.1 rfl (lv_room (Nat.le_of_ble_eq_true rfl)) dX6_cavesOf_37 ⟨Nat.le_of_ble_eq_true rfl, Nat.le_of_ble_eq_true rfl⟩) (fun H locs hP hD hS => ?_)
          rw [CM_b hCM]
          refine lv_istore (lv' := [(4, .int (nI (bN (opn J z) f9))), (3, .int (nI f9)), (2, .int (nI sN)), (0, .ref (ad k)), (1, .int (nI w))]) hx hb dX6_cavesOf_40 hl (by decide) rfl (fun ls hl => ?_)
          refine lv_iconst (v := nI 0) hx hb dX6_cavesOf_42 (by decide) ?_
          refine lv_istore (lv' := [(5, .int (nI 0)), (4, .int (nI (bN (opn J z) f9))), (3, .int (nI f9)), (2, .int (nI sN)), (0, .ref (ad k)), (1, .int (nI w))]) hx hb dX6_cavesOf_43 hl (by decide) rfl (fun ls hl => ?_)
          refine lv_aload_n hx hb dX6_cavesOf_45 rfl (lv_at hl 4 rfl) ?_
          refine lv_iload_n hx hb dX6_cavesOf_46 rfl (lv_at hl 2 rfl) ?_
          refine g_callv hD hS hA (va_runV (As := [.int (nI f9)]) (rest := []) ⟨hx, hb, hml, hown, hts⟩ (c_X6_spreadFrom l D cs ad v H.size k hk f9 (by omega) (opn J z) (mkC (opn J z) f9) (fun c hc => by rw [(hRl.eqw hE).c1 hc]; exact Iff.rfl) (CM_MI hCM (by omega) c_4)) (cwV 1 hts gX6_cavesOf_X6_spreadFrom rfl rfl rfl (by decide +kernel) ⟨Nat.le_of_ble_eq_true rfl, Nat.le_of_ble_eq_true rfl⟩) (g_preV hP hD hK hN (k := k) hk (by decide) rfl rfl rfl rfl) rfl rfl hl.1 rfl (lv_room (Nat.le_of_ble_eq_true rfl)) dX6_cavesOf_47 ⟨Nat.le_of_ble_eq_true rfl, Nat.le_of_ble_eq_true rfl⟩) (fun u5 H locs hsf hP hD hS => ?_)
          have hop1 : opn J z f9 := (hRl.eqw hE).open1 (by omega) c_3
          have hCM2 : CM (opn J z) k (f9 + 1) u5 := CM_y hCM (by omega) hop1 c_4 hsf.2
          have hE2 : EqW k u5 I := hsf.1.tr hE
          have hnm : opn J z f9 ∧ ¬ mkC (opn J z) f9 f9 := ⟨hop1, fun y => ((hCM f9 (by omega)).1.mpr y) c_4⟩
          have hb1 := bN_le (opn J z) f9
          have hb2 := bN_256 (opn J z) (f9 + 1)
          have hsN : sN ≤ 256 := by rw [hs]; exact csN_le (by omega)
          refine lv_aload_n hx hb dX6_cavesOf_50 rfl (lv_at hl 4 rfl) ?_
          refine g_callF (F := nI (cn (fun c => decide (¬ u5 (k + 6) c = -1)) 256)) hD hS hA (va_runV (As := []) (rest := []) ⟨hx, hb, hml, hown, hts⟩ (c_X6_found l D cs ad u5 H.size k hk) (cwV 0 hts gX6_cavesOf_X6_found rfl rfl rfl (by decide +kernel) ⟨Nat.le_of_ble_eq_true rfl, Nat.le_of_ble_eq_true rfl⟩) (g_preV hP hD hK hN (k := k) hk (by decide) rfl rfl rfl rfl) rfl rfl hl.1 rfl (lv_room (Nat.le_of_ble_eq_true rfl)) dX6_cavesOf_51 ⟨Nat.le_of_ble_eq_true rfl, Nat.le_of_ble_eq_true rfl⟩) (fun H locs hP hD hS => ?_)
          rw [CM_b hCM2]
          refine lv_iload hx hb dX6_cavesOf_54 (lv_at hl 1 rfl) ?_
          refine lv_isub hx hb dX6_cavesOf_56 ?_
          rw [pk_sub (a := (bN (opn J z) (f9 + 1))) (b := (bN (opn J z) f9)) (by omega)]
          refine lv_istore (lv' := [(6, .int (nI ((bN (opn J z) (f9 + 1)) - (bN (opn J z) f9)))), (5, .int (nI 0)), (4, .int (nI (bN (opn J z) f9))), (3, .int (nI f9)), (2, .int (nI sN)), (0, .ref (ad k)), (1, .int (nI w))]) hx hb dX6_cavesOf_57 hl (by decide) rfl (fun ls hl => ?_)
          refine lv_iconst (v := nI 0) hx hb dX6_cavesOf_59 (by decide) ?_
          refine lv_istore (lv' := [(7, .int (nI 0)), (6, .int (nI ((bN (opn J z) (f9 + 1)) - (bN (opn J z) f9)))), (5, .int (nI 0)), (4, .int (nI (bN (opn J z) f9))), (3, .int (nI f9)), (2, .int (nI sN)), (0, .ref (ad k)), (1, .int (nI w))]) hx hb dX6_cavesOf_60 hl (by decide) rfl (fun ls hl => ?_)
          suffices KL62 : ∀ (fuel : Nat) (i : Nat) (f5 : Int32) (H : Heap) (locs : List Loc) (ls : Array Slot), (i ≤ N) → (f5 = bi (cd (wiC (opn J z) (frC J z) (plC J z) f9 i))) → N - i < fuel → va_P D vwCl (gw kM cs ad u5) H → va_D (gA kM ad sz) (gw kM cs ad u5) → va_S (gA kM ad sz) s.heap H locs → lv_has ls 8 [(7, .int (nI i)), (6, .int (nI ((bN (opn J z) (f9 + 1)) - (bN (opn J z) f9)))), (5, .int f5), (4, .int (nI (bN (opn J z) f9))), (3, .int (nI f9)), (2, .int (nI sN)), (0, .ref (ad k)), (1, .int (nI w))] → W pg l e ({ frames := 2, cells := 0, slots := 0, locals := 46 }) s m args below meth c H locs 0 0 (MQ below (va_Qi (fun r u => EqW k u I ∧ r = nI (csN (opn J z) (frC J z) (plC J z) N w 256)) (wat kM cs D ad (gA kM ad sz)) (gA kM ad sz)) args s 0 0 (gA kM ad sz)) (F0 m 62 ls []) from KL62 _ 0 (nI 0) _ _ _ (Nat.zero_le _) (by rw [cd_f (fun y => by obtain ⟨q, hq, _⟩ := y; exact absurd hq (Nat.not_lt_zero _))]; rfl) (Nat.lt_succ_self _) hP hD hS (lv_sub hl [0, 1, 2, 3, 4, 5, 6, 7] rfl)
          intro fuel62
          induction fuel62 with
          | zero => intro _ _ _ _ _ _ _ hm; exact absurd hm (Nat.not_lt_zero _)
          | succ fuel62 ih62 =>
            intro i f5 H locs ls hi hf5 hm62 hP hD hS hl
            refine lv_iload hx hb dX6_cavesOf_62 (lv_at hl 0 rfl) ?_
            refine lv_aload_n hx hb dX6_cavesOf_64 rfl (lv_at hl 6 rfl) ?_
            refine g_get (κ := 10) (ci := 6) (v := .int (u5 k 6)) (C := RX6) (T := TX6) (N := 8) hx hb hts hown hK hP (k := k) hk (by decide) rfl (fun _ h => List.mem_cons_of_mem _ (List.mem_append_right _ h)) rfl 6 (by decide) (hts _ (List.mem_of_getElem? (i := 2) rfl)) (fun _ h9 => h9) rfl dX6_cavesOf_65 ?_
            rw [show u5 k 6 = nI N from (hRl.eqw hE2).n]
            refine lv_icmp_ge (tgt := 118) hx hb dX6_cavesOf_68 (by decide) (fun c_6 => ?_) (fun c_6 => ?_)
            · skip
              have nc_6 : N ≤ i := (nI_leI (a := N) (b := i) (by omega) (by omega)).mp c_6
              refine lv_iload_n hx hb dX6_cavesOf_118 rfl (lv_at hl 7 rfl) ?_
              refine lv_iconst (v := nI 1) hx hb dX6_cavesOf_119 (by decide) ?_
              refine lv_icmp_ne (tgt := 132) hx hb dX6_cavesOf_120 (by decide) (fun c_7 => ?_) (fun c_7 => ?_)
              · skip
                have nc_7 : ¬ w = 1 := fun z9_ => c_7 ((nI_eq (a := w) (b := 1) (by omega) (by omega)).mpr z9_)
                refine lv_iload_n hx hb dX6_cavesOf_132 rfl (lv_at hl 5 rfl) ?_
                refine lv_iload_n hx hb dX6_cavesOf_133 rfl (lv_at hl 7 rfl) ?_
                refine lv_if_eq (tgt := 142) hx hb dX6_cavesOf_134 (by decide) (fun c_8 => ?_) (fun c_8 => ?_)
                · skip
                  have nc_8 : w = 0 := (nI_eq (a := w) (b := 0) (by omega) (by omega)).mp c_8
                  refine lv_iconst (v := nI 1) hx hb dX6_cavesOf_142 (by decide) ?_
                  refine lv_goto (tgt := 147) hx hb dX6_cavesOf_143 (by decide) ?_
                  refine lv_iadd hx hb dX6_cavesOf_147 ?_
                  rw [nI_add sN 1]
                  refine lv_istore_n (lv' := [(2, .int (nI (sN + 1))), (7, .int (nI i)), (6, .int (nI ((bN (opn J z) (f9 + 1)) - (bN (opn J z) f9)))), (5, .int f5), (4, .int (nI (bN (opn J z) f9))), (3, .int (nI f9)), (0, .ref (ad k)), (1, .int (nI w))]) hx hb dX6_cavesOf_148 rfl hl (by decide) rfl (fun ls hl => ?_)
                  refine lv_iinc (v := nI (f9 + 1)) (lv' := [(3, .int (nI (f9 + 1))), (2, .int (nI (sN + 1))), (7, .int (nI i)), (6, .int (nI ((bN (opn J z) (f9 + 1)) - (bN (opn J z) f9)))), (5, .int f5), (4, .int (nI (bN (opn J z) f9))), (0, .ref (ad k)), (1, .int (nI w))]) hx hb dX6_cavesOf_149 hl (k := 5) rfl (nI_1 f9) (by decide) rfl (fun ls hl => ?_)
                  refine lv_goto (tgt := 8) hx hb dX6_cavesOf_152 (by decide) ?_
                  exact ih8 (f9 + 1) (sN + 1) u5 _ _ _ (by omega) hE2 hCM2 (by rw [csN_0 nc_8 hnm, hs]) (by omega) hP hD hS (lv_sub hl [0, 1, 6, 7] rfl)
                · skip
                  have nc_8 : ¬ w = 0 := fun z9_ => c_8 ((nI_eq (a := w) (b := 0) (by omega) (by omega)).mpr z9_)
                  refine lv_iload hx hb dX6_cavesOf_137 (lv_at hl 2 rfl) ?_
                  refine lv_if_eq (tgt := 146) hx hb dX6_cavesOf_139 (by decide) (fun c_9 => ?_) (fun c_9 => ?_)
                  · skip
                    refine lv_iconst (v := nI 0) hx hb dX6_cavesOf_146 (by decide) ?_
                    refine lv_iadd hx hb dX6_cavesOf_147 ?_
                    rw [nI_add sN 0]
                    refine lv_istore_n (lv' := [(2, .int (nI (sN + 0))), (7, .int (nI i)), (6, .int (nI ((bN (opn J z) (f9 + 1)) - (bN (opn J z) f9)))), (5, .int f5), (4, .int (nI (bN (opn J z) f9))), (3, .int (nI f9)), (0, .ref (ad k)), (1, .int (nI w))]) hx hb dX6_cavesOf_148 rfl hl (by decide) rfl (fun ls hl => ?_)
                    refine lv_iinc (v := nI (f9 + 1)) (lv' := [(3, .int (nI (f9 + 1))), (2, .int (nI (sN + 0))), (7, .int (nI i)), (6, .int (nI ((bN (opn J z) (f9 + 1)) - (bN (opn J z) f9)))), (5, .int f5), (4, .int (nI (bN (opn J z) f9))), (0, .ref (ad k)), (1, .int (nI w))]) hx hb dX6_cavesOf_149 hl (k := 5) rfl (nI_1 f9) (by decide) rfl (fun ls hl => ?_)
                    refine lv_goto (tgt := 8) hx hb dX6_cavesOf_152 (by decide) ?_
                    exact ih8 (f9 + 1) (sN + 0) u5 _ _ _ (by omega) hE2 hCM2 (by rw [csN_2n nc_8 nc_7 (bi_cd0 (by rw [show N = i from by omega, ← wiC_d, ← hf5]; exact c_9)), hs]; rfl) (by omega) hP hD hS (lv_sub hl [0, 1, 6, 7] rfl)
                  · skip
                    refine lv_iconst (v := nI 1) hx hb dX6_cavesOf_142 (by decide) ?_
                    refine lv_goto (tgt := 147) hx hb dX6_cavesOf_143 (by decide) ?_
                    refine lv_iadd hx hb dX6_cavesOf_147 ?_
                    rw [nI_add sN 1]
                    refine lv_istore_n (lv' := [(2, .int (nI (sN + 1))), (7, .int (nI i)), (6, .int (nI ((bN (opn J z) (f9 + 1)) - (bN (opn J z) f9)))), (5, .int f5), (4, .int (nI (bN (opn J z) f9))), (3, .int (nI f9)), (0, .ref (ad k)), (1, .int (nI w))]) hx hb dX6_cavesOf_148 rfl hl (by decide) rfl (fun ls hl => ?_)
                    refine lv_iinc (v := nI (f9 + 1)) (lv' := [(3, .int (nI (f9 + 1))), (2, .int (nI (sN + 1))), (7, .int (nI i)), (6, .int (nI ((bN (opn J z) (f9 + 1)) - (bN (opn J z) f9)))), (5, .int f5), (4, .int (nI (bN (opn J z) f9))), (0, .ref (ad k)), (1, .int (nI w))]) hx hb dX6_cavesOf_149 hl (k := 5) rfl (nI_1 f9) (by decide) rfl (fun ls hl => ?_)
                    refine lv_goto (tgt := 8) hx hb dX6_cavesOf_152 (by decide) ?_
                    exact ih8 (f9 + 1) (sN + 1) u5 _ _ _ (by omega) hE2 hCM2 (by rw [csN_2 nc_8 nc_7 hnm (bi_cd1 (by rw [show N = i from by omega, ← wiC_d, ← hf5]; exact c_9)), hs]) (by omega) hP hD hS (lv_sub hl [0, 1, 6, 7] rfl)
              · skip
                have nc_7 : w = 1 := (nI_eq (a := w) (b := 1) (by omega) (by omega)).mp c_7
                refine lv_iload_n hx hb dX6_cavesOf_123 rfl (lv_at hl 5 rfl) ?_
                refine lv_iload hx hb dX6_cavesOf_124 (lv_at hl 1 rfl) ?_
                refine va_mmax hx hb (hml.trans hl.1.symm) hown (hts _ (List.mem_of_getElem? (i := 3) rfl)) (hts _ (List.mem_of_getElem? (i := 4) rfl)) (hts _ (List.mem_of_getElem? (i := 5) rfl)) (hts _ (List.mem_of_getElem? (i := 6) rfl)) (Nat.le_of_ble_eq_true rfl) (Nat.le_of_ble_eq_true rfl) (Nat.le_of_ble_eq_true rfl) (Nat.le_of_ble_eq_true rfl) dX6_cavesOf_126 ?_
                rw [nI_max sN ((bN (opn J z) (f9 + 1)) - (bN (opn J z) f9)) (by omega) (by omega)]
                refine lv_goto (tgt := 148) hx hb dX6_cavesOf_129 (by decide) ?_
                refine lv_istore_n (lv' := [(2, .int (nI (max sN ((bN (opn J z) (f9 + 1)) - (bN (opn J z) f9))))), (7, .int (nI i)), (6, .int (nI ((bN (opn J z) (f9 + 1)) - (bN (opn J z) f9)))), (5, .int f5), (4, .int (nI (bN (opn J z) f9))), (3, .int (nI f9)), (0, .ref (ad k)), (1, .int (nI w))]) hx hb dX6_cavesOf_148 rfl hl (by decide) rfl (fun ls hl => ?_)
                refine lv_iinc (v := nI (f9 + 1)) (lv' := [(3, .int (nI (f9 + 1))), (2, .int (nI (max sN ((bN (opn J z) (f9 + 1)) - (bN (opn J z) f9))))), (7, .int (nI i)), (6, .int (nI ((bN (opn J z) (f9 + 1)) - (bN (opn J z) f9)))), (5, .int f5), (4, .int (nI (bN (opn J z) f9))), (0, .ref (ad k)), (1, .int (nI w))]) hx hb dX6_cavesOf_149 hl (k := 5) rfl (nI_1 f9) (by decide) rfl (fun ls hl => ?_)
                refine lv_goto (tgt := 8) hx hb dX6_cavesOf_152 (by decide) ?_
                exact ih8 (f9 + 1) (max sN ((bN (opn J z) (f9 + 1)) - (bN (opn J z) f9))) u5 _ _ _ (by omega) hE2 hCM2 (by rw [csN_1 nc_7, hs]) (by omega) hP hD hS (lv_sub hl [0, 1, 6, 7] rfl)
            · skip
              have nc_6 : ¬ N ≤ i := fun z9_ => c_6 ((nI_leI (a := N) (b := i) (by omega) (by omega)).mpr z9_)
              refine lv_iload hx hb dX6_cavesOf_71 (lv_at hl 2 rfl) ?_
              refine lv_if_ne (tgt := 105) hx hb dX6_cavesOf_73 (by decide) (fun c_10 => ?_) (fun c_10 => ?_)
              · skip
                refine lv_iconst (v := nI 1) hx hb dX6_cavesOf_105 (by decide) ?_
                refine lv_goto (tgt := 110) hx hb dX6_cavesOf_106 (by decide) ?_
                refine lv_istore (lv' := [(5, .int (nI 1)), (7, .int (nI i)), (6, .int (nI ((bN (opn J z) (f9 + 1)) - (bN (opn J z) f9)))), (4, .int (nI (bN (opn J z) f9))), (3, .int (nI f9)), (2, .int (nI sN)), (0, .ref (ad k)), (1, .int (nI w))]) hx hb dX6_cavesOf_110 hl (by decide) rfl (fun ls hl => ?_)
                refine lv_iinc (v := nI (i + 1)) (lv' := [(7, .int (nI (i + 1))), (5, .int (nI 1)), (6, .int (nI ((bN (opn J z) (f9 + 1)) - (bN (opn J z) f9)))), (4, .int (nI (bN (opn J z) f9))), (3, .int (nI f9)), (2, .int (nI sN)), (0, .ref (ad k)), (1, .int (nI w))]) hx hb dX6_cavesOf_112 hl (k := 1) rfl (nI_1 i) (by decide) rfl (fun ls hl => ?_)
                refine lv_goto (tgt := 62) hx hb dX6_cavesOf_115 (by decide) ?_
                exact ih62 (i + 1) (nI 1) _ _ _ (by omega) (by rw [cd_t (wiC_up (bi_cd1 (by rw [← hf5]; exact c_10)))]; rfl) (by omega) hP hD hS (lv_sub hl [0, 2, 1, 3, 4, 5, 6, 7] rfl)
              · skip
                refine lv_aload_n hx hb dX6_cavesOf_76 rfl (lv_at hl 6 rfl) ?_
                refine lv_iload hx hb dX6_cavesOf_77 (lv_at hl 0 rfl) ?_
                refine g_callF (F := f_X6_isFree u5 k i) hD hS hA (va_runV (As := [.int (nI i)]) (rest := []) ⟨hx, hb, hml, hown, hts⟩ (c_X6_isFree l D cs ad u5 H.size k hk i (by omega)) (cwV 1 hts gX6_cavesOf_X6_isFree rfl rfl rfl (by decide +kernel) ⟨Nat.le_of_ble_eq_true rfl, Nat.le_of_ble_eq_true rfl⟩) (g_preV hP hD hK hN (k := k) hk (by decide) rfl rfl rfl rfl) rfl rfl hl.1 rfl (lv_room (Nat.le_of_ble_eq_true rfl)) dX6_cavesOf_79 ⟨Nat.le_of_ble_eq_true rfl, Nat.le_of_ble_eq_true rfl⟩) (fun H locs hP hD hS => ?_)
                refine lv_if_eq (tgt := 109) hx hb dX6_cavesOf_82 (by decide) (fun c_11 => ?_) (fun c_11 => ?_)
                · skip
                  refine lv_iconst (v := nI 0) hx hb dX6_cavesOf_109 (by decide) ?_
                  refine lv_istore (lv' := [(5, .int (nI 0)), (7, .int (nI i)), (6, .int (nI ((bN (opn J z) (f9 + 1)) - (bN (opn J z) f9)))), (4, .int (nI (bN (opn J z) f9))), (3, .int (nI f9)), (2, .int (nI sN)), (0, .ref (ad k)), (1, .int (nI w))]) hx hb dX6_cavesOf_110 hl (by decide) rfl (fun ls hl => ?_)
                  refine lv_iinc (v := nI (i + 1)) (lv' := [(7, .int (nI (i + 1))), (5, .int (nI 0)), (6, .int (nI ((bN (opn J z) (f9 + 1)) - (bN (opn J z) f9)))), (4, .int (nI (bN (opn J z) f9))), (3, .int (nI f9)), (2, .int (nI sN)), (0, .ref (ad k)), (1, .int (nI w))]) hx hb dX6_cavesOf_112 hl (k := 1) rfl (nI_1 i) (by decide) rfl (fun ls hl => ?_)
                  refine lv_goto (tgt := 62) hx hb dX6_cavesOf_115 (by decide) ?_
                  exact ih62 (i + 1) (nI 0) _ _ _ (by omega) (by rw [cd_cg (wiC_n (fun y => (hRl.eqw hE2).free0 (by omega) c_11 y.1)), ← hf5]; exact c_10.symm) (by omega) hP hD hS (lv_sub hl [0, 2, 1, 3, 4, 5, 6, 7] rfl)
                · skip
                  refine lv_aload_n hx hb dX6_cavesOf_85 rfl (lv_at hl 6 rfl) ?_
                  refine g_get (κ := 10) (ci := 6) (v := .ref (ad (k + 6))) (C := RX6) (T := TX6) (N := 8) hx hb hts hown hK hP (k := k) hk (by decide) rfl (fun _ h => List.mem_cons_of_mem _ (List.mem_append_right _ h)) rfl 7 (by decide) (hts _ (List.mem_of_getElem? (i := 1) rfl)) (fun _ h9 => h9) rfl dX6_cavesOf_86 ?_
                  refine lv_aload_n hx hb dX6_cavesOf_89 rfl (lv_at hl 6 rfl) ?_
                  refine lv_iload hx hb dX6_cavesOf_90 (lv_at hl 0 rfl) ?_
                  refine lv_iconst (v := nI 0) hx hb dX6_cavesOf_92 (by decide) ?_
                  refine g_callF (F := u5 (k + 4) (31 * i + 0)) hD hS hA (va_runV (As := [.int (nI i), .int (nI 0)]) (rest := [.ref (ad (k + 6))]) ⟨hx, hb, hml, hown, hts⟩ (c_X6_get l D cs ad u5 H.size k hk i (by omega) 0 (by omega)) (cwV 2 hts gX6_cavesOf_X6_get rfl rfl rfl (by decide +kernel) ⟨Nat.le_of_ble_eq_true rfl, Nat.le_of_ble_eq_true rfl⟩) (g_preV hP hD hK hN (k := k) hk (by decide) rfl rfl rfl rfl) rfl rfl hl.1 rfl (lv_room (Nat.le_of_ble_eq_true rfl)) dX6_cavesOf_93 ⟨Nat.le_of_ble_eq_true rfl, Nat.le_of_ble_eq_true rfl⟩) (fun H locs hP hD hS => ?_)
                  rw [show u5 (k + 4) (31 * i + 0) = J (z + 8 + (1 + i)) 0 from ((hRl.eqw hE2).t (by omega) (by decide))]
                  obtain ⟨p, hp8, hp9⟩ := hWT.2.2.1 i (show i < N from by omega)
                  refine lv_topi (fun y9 ey9 => ?_)
                  obtain rfl := ey9.trans hp9
                  refine g_ialdn (n := 256) (i := p) hx hb hK hP (k := (k + 6)) (kd_10_7 hk) (by decide) rfl (by omega) (by decide) dX6_cavesOf_96 ?_
                  refine lv_iload_n hx hb dX6_cavesOf_97 rfl (lv_at hl 4 rfl) ?_
                  refine lv_sipush (v := nI 256) hx hb dX6_cavesOf_98 (by decide) ?_
                  refine lv_iadd hx hb dX6_cavesOf_101 ?_
                  rw [nI_add f9 256]
                  refine lv_icmp_ne (tgt := 109) hx hb dX6_cavesOf_102 (by decide) (fun c_12 => ?_) (fun c_12 => ?_)
                  · skip
                    refine lv_iconst (v := nI 0) hx hb dX6_cavesOf_109 (by decide) ?_
                    refine lv_istore (lv' := [(5, .int (nI 0)), (7, .int (nI i)), (6, .int (nI ((bN (opn J z) (f9 + 1)) - (bN (opn J z) f9)))), (4, .int (nI (bN (opn J z) f9))), (3, .int (nI f9)), (2, .int (nI sN)), (0, .ref (ad k)), (1, .int (nI w))]) hx hb dX6_cavesOf_110 hl (by decide) rfl (fun ls hl => ?_)
                    refine lv_iinc (v := nI (i + 1)) (lv' := [(7, .int (nI (i + 1))), (5, .int (nI 0)), (6, .int (nI ((bN (opn J z) (f9 + 1)) - (bN (opn J z) f9)))), (4, .int (nI (bN (opn J z) f9))), (3, .int (nI f9)), (2, .int (nI sN)), (0, .ref (ad k)), (1, .int (nI w))]) hx hb dX6_cavesOf_112 hl (k := 1) rfl (nI_1 i) (by decide) rfl (fun ls hl => ?_)
                    refine lv_goto (tgt := 62) hx hb dX6_cavesOf_115 (by decide) ?_
                    exact ih62 (i + 1) (nI 0) _ _ _ (by omega) (by rw [cd_cg (wiC_n (fun y => c_12 ((hsf.2 p hp8).1 (by have y2 := y.2; rw [(show plC J z i = p from by rw [plC, hp9, nI_clamp (by omega)])] at y2; exact y2)))), ← hf5]; exact c_10.symm) (by omega) hP hD hS (lv_sub hl [0, 2, 1, 3, 4, 5, 6, 7] rfl)
                  · skip
                    refine lv_iconst (v := nI 1) hx hb dX6_cavesOf_105 (by decide) ?_
                    refine lv_goto (tgt := 110) hx hb dX6_cavesOf_106 (by decide) ?_
                    refine lv_istore (lv' := [(5, .int (nI 1)), (7, .int (nI i)), (6, .int (nI ((bN (opn J z) (f9 + 1)) - (bN (opn J z) f9)))), (4, .int (nI (bN (opn J z) f9))), (3, .int (nI f9)), (2, .int (nI sN)), (0, .ref (ad k)), (1, .int (nI w))]) hx hb dX6_cavesOf_110 hl (by decide) rfl (fun ls hl => ?_)
                    refine lv_iinc (v := nI (i + 1)) (lv' := [(7, .int (nI (i + 1))), (5, .int (nI 1)), (6, .int (nI ((bN (opn J z) (f9 + 1)) - (bN (opn J z) f9)))), (4, .int (nI (bN (opn J z) f9))), (3, .int (nI f9)), (2, .int (nI sN)), (0, .ref (ad k)), (1, .int (nI w))]) hx hb dX6_cavesOf_112 hl (k := 1) rfl (nI_1 i) (by decide) rfl (fun ls hl => ?_)
                    refine lv_goto (tgt := 62) hx hb dX6_cavesOf_115 (by decide) ?_
                    exact ih62 (i + 1) (nI 1) _ _ _ (by omega) (by rw [cd_t (wiC_y ⟨(hRl.eqw hE2).free1 (by omega) c_11, by rw [(show plC J z i = p from by rw [plC, hp9, nI_clamp (by omega)])]; exact Classical.byContradiction fun y => (CM_MI hCM (by omega) hw9).2.2.1 p hp8 (((hsf.2 p hp8).2 y).symm.trans c_12)⟩)]; rfl) (by omega) hP hD hS (lv_sub hl [0, 2, 1, 3, 4, 5, 6, 7] rfl)
        · skip
          refine lv_goto (tgt := 149) hx hb dX6_cavesOf_33 (by decide) ?_
          refine lv_iinc (v := nI (f9 + 1)) (lv' := [(3, .int (nI (f9 + 1))), (2, .int (nI sN)), (0, .ref (ad k)), (1, .int (nI w))]) hx hb dX6_cavesOf_149 hl (k := 0) rfl (nI_1 f9) (by decide) rfl (fun ls hl => ?_)
          refine lv_goto (tgt := 8) hx hb dX6_cavesOf_152 (by decide) ?_
          exact ih8 (f9 + 1) sN v _ _ _ (by omega) hE (CM_n hCM (fun y => y.2 ((hCM f9 (by omega)).1.mp c_4))) (by rw [csN_n (fun y => y.2 ((hCM f9 (by omega)).1.mp c_4))]; exact hs) (by omega) hP hD hS (lv_sub hl [0, 1, 2, 3] rfl)
