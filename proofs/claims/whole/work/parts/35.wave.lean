def EqW (k : Nat) (u v : Mm) : Prop := ∀ a, a ≠ k + 6 → u a = v a
theorem EqW.rf (k : Nat) (u : Mm) : EqW k u u := fun _ _ => rfl
theorem EqW.tr {k : Nat} {u v w : Mm} (h : EqW k u v) (h2 : EqW k v w) : EqW k u w := fun a ha => (h a ha).trans (h2 a ha)
theorem EqW.wr {k : Nat} {u v : Mm} (h : EqW k u v) (j : Nat) (x : Int32) : EqW k (wr u (k + 6) j x) v := fun a ha => by rw [wr_n _ _ _ ha]; exact h a ha
def Xs (op : Nat → Prop) (w0 : Nat → Int32) (s c w o : Nat) : Prop := ∃ c' w', c' < 256 ∧ w' < 4 ∧ (c' < c ∨ (c' = c ∧ w' < w)) ∧ w0 c' = nI s ∧ nb c' w' = o ∧ op o
def SW (op : Nat → Prop) (k s : Nat) (v v2 : Mm) (c w : Nat) (f : Int32) : Prop := EqW k v2 v ∧ (∀ o, o < 256 → ((v (k + 6) o = -1 ∧ Xs op (v (k + 6)) s c w o) → v2 (k + 6) o = nI (s + 1)) ∧ (¬ (v (k + 6) o = -1 ∧ Xs op (v (k + 6)) s c w o) → v2 (k + 6) o = v (k + 6) o)) ∧ ((f = nI 1 ∧ ∃ o, o < 256 ∧ v (k + 6) o = -1 ∧ Xs op (v (k + 6)) s c w o) ∨ (f = 0 ∧ ∀ o, o < 256 → ¬ (v (k + 6) o = -1 ∧ Xs op (v (k + 6)) s c w o)))
theorem sw_0 (op : Nat → Prop) (k s : Nat) (v : Mm) : SW op k s v v 0 0 0 := by
  have h : ∀ o, ¬ Xs op (v (k + 6)) s 0 0 o := by
    rintro o ⟨c', w', -, -, h, -⟩
    omega
  exact ⟨EqW.rf _ _, fun o _ => ⟨fun y => absurd y.2 (h o), fun _ => rfl⟩, Or.inr ⟨rfl, fun o _ y => h o y.2⟩⟩
theorem sw_cg {op : Nat → Prop} {k s : Nat} {v v2 : Mm} {c w c2 w2 : Nat} {f : Int32} (h : SW op k s v v2 c w f) (e : ∀ o, o < 256 → ((v (k + 6) o = -1 ∧ Xs op (v (k + 6)) s c2 w2 o) ↔ (v (k + 6) o = -1 ∧ Xs op (v (k + 6)) s c w o))) : SW op k s v v2 c2 w2 f := by
  refine ⟨h.1, fun o ho => ⟨fun y => (h.2.1 o ho).1 ((e o ho).mp y), fun y => (h.2.1 o ho).2 (fun z => y ((e o ho).mpr z))⟩, ?_⟩
  rcases h.2.2 with ⟨h1, o, ho, h2⟩ | ⟨h1, h2⟩
  · exact Or.inl ⟨h1, o, ho, (e o ho).mpr h2⟩
  · exact Or.inr ⟨h1, fun o ho y => h2 o ho ((e o ho).mp y)⟩
theorem xs_up {op : Nat → Prop} {w0 : Nat → Int32} {s c w o : Nat} (h : Xs op w0 s c w o) : Xs op w0 s c (w + 1) o := by
  obtain ⟨c', w', h1, h2, h3, h4⟩ := h
  exact ⟨c', w', h1, h2, by omega, h4⟩
theorem xs_or {op : Nat → Prop} {w0 : Nat → Int32} {s c w o : Nat} (h : Xs op w0 s c (w + 1) o) : Xs op w0 s c w o ∨ (nb c w = o ∧ op o) := by
  obtain ⟨c', w', h1, h2, h3, h4, h5, h6⟩ := h
  by_cases e : c' = c ∧ w' = w
  · rw [e.1, e.2] at h5; exact Or.inr ⟨h5, h6⟩
  · exact Or.inl ⟨c', w', h1, h2, by omega, h4, h5, h6⟩
theorem sw_skip {op : Nat → Prop} {k s : Nat} {v v2 : Mm} {c w : Nat} {f : Int32} (h : SW op k s v v2 c w f) (e : nb c w < 256 → op (nb c w) → v2 (k + 6) (nb c w) = -1 → False) : SW op k s v v2 c (w + 1) f := by
  refine sw_cg h (fun o ho => ⟨fun y => ⟨y.1, ?_⟩, fun y => ⟨y.1, xs_up y.2⟩⟩)
  rcases xs_or y.2 with z | ⟨z, z2⟩
  · exact z
  · by_cases g : Xs op (v (k + 6)) s c w o
    · exact g
    · have h3 := (h.2.1 o ho).2 (fun y => g y.2)
      subst z
      exact (e ho z2 (h3.trans y.1)).elim
theorem sw_set {op : Nat → Prop} {k s : Nat} {v v2 : Mm} {c w : Nat} {f : Int32} (h : SW op k s v v2 c w f) (hs : s < 300) (hc : c < 256) (hw : w < 4) (h0 : v (k + 6) c = nI s) (hn : nb c w < 256) (ho : op (nb c w)) (hm : v2 (k + 6) (nb c w) = -1) : SW op k s v (wr v2 (k + 6) (nb c w) (nI (s + 1))) c (w + 1) (nI 1) := by
  have h1 : v (k + 6) (nb c w) = -1 := by
    by_cases g : v (k + 6) (nb c w) = -1 ∧ Xs op (v (k + 6)) s c w (nb c w)
    · exact g.1
    · exact ((h.2.1 _ hn).2 g).symm.trans hm
  have hx : Xs op (v (k + 6)) s c (w + 1) (nb c w) := ⟨c, w, hc, hw, by omega, h0, rfl, ho⟩
  refine ⟨h.1.wr _ _, fun o ho2 => ?_, Or.inl ⟨rfl, _, hn, h1, hx⟩⟩
  by_cases e : o = nb c w
  · subst e
    exact ⟨fun _ => wr_ss _ _ _ _, fun y => absurd ⟨h1, hx⟩ y⟩
  · rw [wr_sn _ _ _ e]
    refine ⟨fun y => (h.2.1 o ho2).1 ⟨y.1, ?_⟩, fun y => (h.2.1 o ho2).2 (fun z => y ⟨z.1, xs_up z.2⟩)⟩
    rcases xs_or y.2 with z | ⟨z, -⟩
    · exact z
    · exact absurd z.symm e
theorem sw_row {op : Nat → Prop} {k s : Nat} {v v2 : Mm} {c : Nat} {f : Int32} (h : SW op k s v v2 c 4 f) : SW op k s v v2 (c + 1) 0 f := by
  refine sw_cg h (fun o ho => ⟨fun y => ⟨y.1, ?_⟩, fun y => ⟨y.1, ?_⟩⟩)
  · obtain ⟨c', w', h1, h2, h3, h4⟩ := y.2
    exact ⟨c', w', h1, h2, by omega, h4⟩
  · obtain ⟨c', w', h1, h2, h3, h4⟩ := y.2
    exact ⟨c', w', h1, h2, by omega, h4⟩
theorem sw_at {op : Nat → Prop} {k s : Nat} {v v2 : Mm} {c w : Nat} {f : Int32} (h : SW op k s v v2 c w f) (hs : s < 300) (hc : c < 256) : v2 (k + 6) c = nI s ↔ v (k + 6) c = nI s := by
  by_cases g : v (k + 6) c = -1 ∧ Xs op (v (k + 6)) s c w c
  · rw [(h.2.1 c hc).1 g, g.1]
    refine ⟨fun y => absurd ((nI_eq (by omega) (by omega)).mp y) (by omega), fun y => absurd y.symm (nI_m1 (by omega))⟩
  · rw [(h.2.1 c hc).2 g]
theorem sw_no {op : Nat → Prop} {k s : Nat} {v v2 : Mm} {c : Nat} {f : Int32} (h : SW op k s v v2 c 0 f) (h0 : ¬ v (k + 6) c = nI s) : SW op k s v v2 (c + 1) 0 f := by
  refine sw_cg h (fun o ho => ⟨fun y => ⟨y.1, ?_⟩, fun y => ⟨y.1, ?_⟩⟩)
  · obtain ⟨c', w', h1, h2, h3, h4, h5⟩ := y.2
    refine ⟨c', w', h1, h2, ?_, h4, h5⟩
    by_cases e : c' = c
    · rw [e] at h4; exact absurd h4 h0
    · omega
  · obtain ⟨c', w', h1, h2, h3, h4⟩ := y.2
    exact ⟨c', w', h1, h2, by omega, h4⟩
theorem rch_st {op src : Nat → Prop} {s : Nat} (h : ∀ c, c < 256 → rch op src (s + 1) c → rch op src s c) : ∀ (d c : Nat), c < 256 → rch op src (s + d) c → rch op src s c
  | 0, _, _, hr => hr
  | d + 1, c, hc, hr => by
    rcases hr with hr | ⟨ho, p, w, hp, hw, hb, hr⟩
    · exact rch_st h d c hc hr
    · exact h c hc (Or.inr ⟨ho, p, w, hp, hw, hb, rch_st h d p hp hr⟩)
theorem sw_fin {op src : Nat → Prop} {k s : Nat} {v v2 : Mm} {f : Int32} (hs : s < 300) (hD : ∀ c, c < 256 → DI op src s c (v (k + 6) c)) (h : SW op k s v v2 256 0 f) : (∀ c, c < 256 → DI op src (s + 1) c (v2 (k + 6) c)) ∧ (f = 0 → ∀ mo, s ≤ mo → ∀ c, c < 256 → DI op src mo c (v2 (k + 6) c)) := by
  have hx : ∀ p, p < 256 → (v (k + 6) p = nI s ↔ (rch op src s p ∧ ∀ d, d < s → ¬ rch op src d p)) := by
    intro p hp
    rcases hD p hp with ⟨h1, h2⟩ | ⟨d, h1, h2, h3, h4⟩
    · rw [h1]; exact ⟨fun y => absurd y.symm (nI_m1 (by omega)), fun y => absurd y.1 (h2 s (Nat.le_refl _))⟩
    · rw [h2]
      constructor
      · intro y
        have e : d = s := (nI_eq (by omega) (by omega)).mp y
        subst e; exact ⟨h3, h4⟩
      · rintro ⟨y1, y2⟩
        rcases Nat.lt_or_ge d s with z | z
        · exact absurd h3 (y2 d z)
        · rw [show d = s from by omega]
  have hN : ∀ c, c < 256 → v (k + 6) c = -1 → (rch op src (s + 1) c ↔ Xs op (v (k + 6)) s 256 0 c) := by
    intro c hc hm
    have hno : ∀ d, d ≤ s → ¬ rch op src d c := by
      rcases hD c hc with ⟨h1, h2⟩ | ⟨d, h1, h2, h3, h4⟩
      · exact h2
      · exact absurd (h2.symm.trans hm) (nI_m1 (by omega))
    constructor
    · rintro (y | ⟨ho, p, w, hp, hw, hb, hr⟩)
      · exact absurd y (hno s (Nat.le_refl _))
      · refine ⟨p, w, hp, hw, Or.inl hp, (hx p hp).mpr ⟨hr, fun d hd z => hno (d + 1) (by omega) (Or.inr ⟨ho, p, w, hp, hw, hb, z⟩)⟩, hb, ho⟩
    · rintro ⟨p, w, hp, hw, -, h4, h5, h6⟩
      exact Or.inr ⟨h6, p, w, hp, hw, h5, ((hx p hp).mp h4).1⟩
  refine ⟨fun c hc => ?_, fun hf mo hmo c hc => ?_⟩
  · by_cases hm : v (k + 6) c = -1
    · by_cases g : Xs op (v (k + 6)) s 256 0 c
      · refine Or.inr ⟨s + 1, Nat.le_refl _, (h.2.1 c hc).1 ⟨hm, g⟩, (hN c hc hm).mpr g, fun d' hd' y => ?_⟩
        rcases hD c hc with ⟨h1, h2⟩ | ⟨d, h1, h2, h3, h4⟩
        · exact h2 d' (by omega) y
        · exact absurd (h2.symm.trans hm) (nI_m1 (by omega))
      · refine Or.inl ⟨((h.2.1 c hc).2 (fun y => g y.2)).trans hm, fun d hd y => ?_⟩
        rcases Nat.lt_or_ge s d with z | z
        · rw [show d = s + 1 from by omega] at y
          exact g ((hN c hc hm).mp y)
        · rcases hD c hc with ⟨h1, h2⟩ | ⟨d2, h1, h2, h3, h4⟩
          · exact h2 d z y
          · exact absurd (h2.symm.trans hm) (nI_m1 (by omega))
    · rw [(h.2.1 c hc).2 (fun y => hm y.1)]
      rcases hD c hc with ⟨h1, h2⟩ | ⟨d, h1, h2, h3, h4⟩
      · exact absurd h1 hm
      · exact Or.inr ⟨d, by omega, h2, h3, h4⟩
  · have hno : ∀ o, o < 256 → ¬ (v (k + 6) o = -1 ∧ Xs op (v (k + 6)) s 256 0 o) := by
      rcases h.2.2 with ⟨h1, -⟩ | ⟨-, h2⟩
      · exact absurd (h1.symm.trans hf) (by decide)
      · exact h2
    have hst : ∀ c, c < 256 → rch op src (s + 1) c → rch op src s c := by
      intro c hc hr
      rcases hD c hc with ⟨h1, h2⟩ | ⟨d, h1, h2, h3, h4⟩
      · exact absurd ⟨h1, (hN c hc h1).mp hr⟩ (hno c hc)
      · exact rch_le h1 h3
    rw [(h.2.1 c hc).2 (hno c hc)]
    rcases hD c hc with ⟨h1, h2⟩ | ⟨d, h1, h2, h3, h4⟩
    · refine Or.inl ⟨h1, fun d hd y => h2 s (Nat.le_refl _) ?_⟩
      rcases Nat.lt_or_ge d s with z | z
      · exact rch_le (Nat.le_of_lt z) y
      · exact rch_st hst (d - s) c hc (by rw [show s + (d - s) = d from by omega]; exact y)
    · exact Or.inr ⟨d, by omega, h2, h3, h4⟩
theorem besY {p w : Nat} (hp : p < 256) (hw : w < 4) (h : ¬ f_X6_beside (nI p) (nI w) = -1) : nb p w < 256 ∧ f_X6_beside (nI p) (nI w) = nI (nb p w) := by
  have e := besM p hp w hw
  by_cases g : nb p w < 256
  · rw [if_pos g] at e; exact ⟨g, e⟩
  · rw [if_neg g] at e; exact absurd e h
theorem besN {p w : Nat} (hp : p < 256) (hw : w < 4) (h : f_X6_beside (nI p) (nI w) = -1) : ¬ nb p w < 256 := fun g => by
  have e := besM p hp w hw
  rw [if_pos g] at e
  exact nI_m1 (by omega) (e.symm.trans h)
theorem isOpen_0 {I : Mm} {k c : Nat} (h : f_X6_isOpen I k c = 0) : ¬ I (k + 1) c = 0 := fun z => by
  simp only [f_X6_isOpen] at h
  rw [if_pos z] at h; exact absurd h (by decide)
theorem isOpen_1 {I : Mm} {k c : Nat} (h : ¬ f_X6_isOpen I k c = 0) : I (k + 1) c = 0 := Classical.byContradiction fun z => by
  simp only [f_X6_isOpen] at h
  rw [if_neg z] at h; exact absurd rfl h

set_option maxHeartbeats 4000000 in
set_option maxRecDepth 100000 in
theorem c_X6_spread (l : Launch) (D : va_G) (cs : Nat → ClassId) (ad : Nat → Nat) (I : Mm) (sz : Nat) (k : Nat) (hk : kM.getD k 0 = 10) (mo : Nat) (hmo : mo ≤ 256) (op : Nat → Prop) (src : Nat → Prop) (hop : ∀ c, c < 256 → (I (k + 1) c = 0 ↔ op c)) (hs0 : ∀ c, c < 256 → DI op src 0 c (I (k + 6) c)) : MetN l yX6_spread wsX6_spread ({ frames := 1, cells := 0, slots := 0, locals := 21 }) kM cs D ad I sz [.ref (ad k), .int (nI mo)] (fun u => EqW k u I ∧ ∀ c, c < 256 → DI op src mo c (u (k + 6) c)) 0 0 := by
  refine g_met (cc := cX6_spread) (maxL := 7) (ret := none) (by decide) rfl (Nat.le_of_ble_eq_true rfl) ?_
  intro pg e s m args below meth c ls hx hb hr hml hts hown hlocks hsz hP hD hK hN hS hA hl
  have hown : s.vm.findClass RX6 = some m.cls := hown
  have hl : lv_has ls 7 [(0, .ref (ad k)), (1, .int (nI mo))] := hl
  refine lv_iconst (v := nI 0) hx hb dX6_spread_0 (by decide) ?_
  refine lv_istore_n (lv' := [(2, .int (nI 0)), (0, .ref (ad k)), (1, .int (nI mo))]) hx hb dX6_spread_1 rfl hl (by decide) rfl (fun ls hl => ?_)
  suffices KL2 : ∀ (fuel : Nat) (sN : Nat) (v : Mm) (H : Heap) (locs : List Loc) (ls : Array Slot), (sN ≤ mo) → (EqW k v I) → (∀ c, c < 256 → DI op src sN c (v (k + 6) c)) → mo - sN < fuel → va_P D vwCl (gw kM cs ad v) H → va_D (gA kM ad sz) (gw kM cs ad v) → va_S (gA kM ad sz) s.heap H locs → lv_has ls 7 [(2, .int (nI sN)), (0, .ref (ad k)), (1, .int (nI mo))] → W pg l e ({ frames := 1, cells := 0, slots := 0, locals := 21 }) s m args below meth c H locs 0 0 (MQ below (va_Qv (fun u => EqW k u I ∧ ∀ c, c < 256 → DI op src mo c (u (k + 6) c)) (wat kM cs D ad (gA kM ad sz)) (gA kM ad sz)) args s 0 0 (gA kM ad sz)) (F0 m 2 ls []) from KL2 _ 0 I _ _ _ (Nat.zero_le _) (EqW.rf _ _) hs0 (Nat.lt_succ_self _) hP hD hS (lv_sub hl [0, 1, 2] rfl)
  intro fuel2
  induction fuel2 with
  | zero => intro _ _ _ _ _ _ _ _ hm; exact absurd hm (Nat.not_lt_zero _)
  | succ fuel2 ih2 =>
    intro sN v H locs ls hsN hE hD_ hm2 hP hD hS hl
    refine lv_iload_n hx hb dX6_spread_2 rfl (lv_at hl 0 rfl) ?_
    refine lv_iload_n hx hb dX6_spread_3 rfl (lv_at hl 2 rfl) ?_
    refine lv_icmp_ge (tgt := 116) hx hb dX6_spread_4 (by decide) (fun c_1 => ?_) (fun c_1 => ?_)
    · skip
      have nc_1 : mo ≤ sN := (nI_leI (a := mo) (b := sN) (by omega) (by omega)).mp c_1
      exact g_vret hx hb hr hlocks hP hD hS ⟨hE, by rw [show sN = mo from by omega] at hD_; exact hD_⟩ dX6_spread_116
    · skip
      have nc_1 : ¬ mo ≤ sN := fun z9_ => c_1 ((nI_leI (a := mo) (b := sN) (by omega) (by omega)).mpr z9_)
      refine lv_iconst (v := nI 0) hx hb dX6_spread_7 (by decide) ?_
      refine lv_istore_n (lv' := [(3, .int (nI 0)), (2, .int (nI sN)), (0, .ref (ad k)), (1, .int (nI mo))]) hx hb dX6_spread_8 rfl hl (by decide) rfl (fun ls hl => ?_)
      refine lv_iconst (v := nI 0) hx hb dX6_spread_9 (by decide) ?_
      refine lv_istore (lv' := [(4, .int (nI 0)), (3, .int (nI 0)), (2, .int (nI sN)), (0, .ref (ad k)), (1, .int (nI mo))]) hx hb dX6_spread_10 hl (by decide) rfl (fun ls hl => ?_)
      suffices KL12 : ∀ (fuel : Nat) (ci : Nat) (v2 : Mm) (f : Int32) (H : Heap) (locs : List Loc) (ls : Array Slot), (ci ≤ 256) → (SW op k sN v v2 ci 0 f) → 256 - ci < fuel → va_P D vwCl (gw kM cs ad v2) H → va_D (gA kM ad sz) (gw kM cs ad v2) → va_S (gA kM ad sz) s.heap H locs → lv_has ls 7 [(4, .int (nI ci)), (3, .int f), (2, .int (nI sN)), (0, .ref (ad k)), (1, .int (nI mo))] → W pg l e ({ frames := 1, cells := 0, slots := 0, locals := 21 }) s m args below meth c H locs 0 0 (MQ below (va_Qv (fun u => EqW k u I ∧ ∀ c, c < 256 → DI op src mo c (u (k + 6) c)) (wat kM cs D ad (gA kM ad sz)) (gA kM ad sz)) args s 0 0 (gA kM ad sz)) (F0 m 12 ls []) from KL12 _ 0 v (nI 0) _ _ _ (Nat.zero_le _) (sw_0 op k sN v) (Nat.lt_succ_self _) hP hD hS (lv_sub hl [0, 1, 2, 3, 4] rfl)
      intro fuel12
      induction fuel12 with
      | zero => intro _ _ _ _ _ _ _ _ hm; exact absurd hm (Nat.not_lt_zero _)
      | succ fuel12 ih12 =>
        intro ci v2 f H locs ls hci hsw hm12 hP hD hS hl
        refine lv_iload hx hb dX6_spread_12 (lv_at hl 0 rfl) ?_
        refine lv_sipush (v := nI 256) hx hb dX6_spread_14 (by decide) ?_
        refine lv_icmp_ge (tgt := 105) hx hb dX6_spread_17 (by decide) (fun c_2 => ?_) (fun c_2 => ?_)
        · skip
          have nc_2 : 256 ≤ ci := (nI_leI (a := 256) (b := ci) (by omega) (by omega)).mp c_2
          refine lv_iload_n hx hb dX6_spread_105 rfl (lv_at hl 1 rfl) ?_
          refine lv_if_ne (tgt := 110) hx hb dX6_spread_106 (by decide) (fun c_3 => ?_) (fun c_3 => ?_)
          · skip
            refine lv_iinc (v := nI (sN + 1)) (lv' := [(2, .int (nI (sN + 1))), (4, .int (nI ci)), (3, .int f), (0, .ref (ad k)), (1, .int (nI mo))]) hx hb dX6_spread_110 hl (k := 2) rfl (nI_1 sN) (by decide) rfl (fun ls hl => ?_)
            refine lv_goto (tgt := 2) hx hb dX6_spread_113 (by decide) ?_
            have hsw9 := hsw
            rw [show ci = 256 from by omega] at hsw9
            exact ih2 (sN + 1) v2 _ _ _ (by omega) (hsw.1.tr hE) (sw_fin (by omega) hD_ hsw9).1 (by omega) hP hD hS (lv_sub hl [0, 3, 4] rfl)
          · skip
            exact g_vret hx hb hr hlocks hP hD hS ⟨hsw.1.tr hE, (sw_fin (by omega) hD_ (by rw [show ci = 256 from by omega] at hsw; exact hsw)).2 c_3 mo (by omega)⟩ dX6_spread_109
        · skip
          have nc_2 : ¬ 256 ≤ ci := fun z9_ => c_2 ((nI_leI (a := 256) (b := ci) (by omega) (by omega)).mpr z9_)
          refine lv_aload_n hx hb dX6_spread_20 rfl (lv_at hl 3 rfl) ?_
          refine g_get (κ := 10) (ci := 6) (v := .ref (ad (k + 6))) (C := RX6) (T := TX6) (N := 8) hx hb hts hown hK hP (k := k) hk (by decide) rfl (fun _ h => List.mem_cons_of_mem _ (List.mem_append_right _ h)) rfl 7 (by decide) (hts _ (List.mem_of_getElem? (i := 1) rfl)) (fun _ h9 => h9) rfl dX6_spread_21 ?_
          refine lv_iload hx hb dX6_spread_24 (lv_at hl 0 rfl) ?_
          refine g_ialdn (n := 256) (i := ci) hx hb hK hP (k := (k + 6)) (kd_10_7 hk) (by decide) rfl (by omega) (by decide) dX6_spread_26 ?_
          refine lv_iload_n hx hb dX6_spread_27 rfl (lv_at hl 2 rfl) ?_
          refine lv_icmp_eq (tgt := 34) hx hb dX6_spread_28 (by decide) (fun c_4 => ?_) (fun c_4 => ?_)
          · skip
            have hat := (sw_at hsw (by omega) (by omega)).mp c_4
            refine lv_iconst (v := nI 0) hx hb dX6_spread_34 (by decide) ?_
            refine lv_istore (lv' := [(5, .int (nI 0)), (4, .int (nI ci)), (3, .int f), (2, .int (nI sN)), (0, .ref (ad k)), (1, .int (nI mo))]) hx hb dX6_spread_35 hl (by decide) rfl (fun ls hl => ?_)
            suffices KL37 : ∀ (fuel : Nat) (wi : Nat) (v2 : Mm) (f : Int32) (H : Heap) (locs : List Loc) (ls : Array Slot), (wi ≤ 4) → (SW op k sN v v2 ci wi f) → 4 - wi < fuel → va_P D vwCl (gw kM cs ad v2) H → va_D (gA kM ad sz) (gw kM cs ad v2) → va_S (gA kM ad sz) s.heap H locs → lv_has ls 7 [(5, .int (nI wi)), (4, .int (nI ci)), (3, .int f), (2, .int (nI sN)), (0, .ref (ad k)), (1, .int (nI mo))] → W pg l e ({ frames := 1, cells := 0, slots := 0, locals := 21 }) s m args below meth c H locs 0 0 (MQ below (va_Qv (fun u => EqW k u I ∧ ∀ c, c < 256 → DI op src mo c (u (k + 6) c)) (wat kM cs D ad (gA kM ad sz)) (gA kM ad sz)) args s 0 0 (gA kM ad sz)) (F0 m 37 ls []) from KL37 _ 0 v2 f _ _ _ (Nat.zero_le _) hsw (Nat.lt_succ_self _) hP hD hS (lv_sub hl [0, 1, 2, 3, 4, 5] rfl)
            intro fuel37
            induction fuel37 with
            | zero => intro _ _ _ _ _ _ _ _ hm; exact absurd hm (Nat.not_lt_zero _)
            | succ fuel37 ih37 =>
              intro wi v2 f H locs ls hwi hsw hm37 hP hD hS hl
              refine lv_iload hx hb dX6_spread_37 (lv_at hl 0 rfl) ?_
              refine lv_iconst (v := nI 4) hx hb dX6_spread_39 (by decide) ?_
              refine lv_icmp_ge (tgt := 99) hx hb dX6_spread_40 (by decide) (fun c_5 => ?_) (fun c_5 => ?_)
              · skip
                have nc_5 : 4 ≤ wi := (nI_leI (a := 4) (b := wi) (by omega) (by omega)).mp c_5
                refine lv_iinc (v := nI (ci + 1)) (lv' := [(4, .int (nI (ci + 1))), (5, .int (nI wi)), (3, .int f), (2, .int (nI sN)), (0, .ref (ad k)), (1, .int (nI mo))]) hx hb dX6_spread_99 hl (k := 1) rfl (nI_1 ci) (by decide) rfl (fun ls hl => ?_)
                refine lv_goto (tgt := 12) hx hb dX6_spread_102 (by decide) ?_
                exact ih12 (ci + 1) v2 f _ _ _ (by omega) (by rw [show wi = 4 from by omega] at hsw; exact sw_row hsw) (by omega) hP hD hS (lv_sub hl [0, 2, 3, 4, 5] rfl)
              · skip
                have nc_5 : ¬ 4 ≤ wi := fun z9_ => c_5 ((nI_leI (a := 4) (b := wi) (by omega) (by omega)).mpr z9_)
                refine lv_iload hx hb dX6_spread_43 (lv_at hl 1 rfl) ?_
                refine lv_iload hx hb dX6_spread_45 (lv_at hl 0 rfl) ?_
                refine g_callF (F := f_X6_beside (nI ci) (nI wi)) hD hS hA (va_runS (As := [.int (nI ci), .int (nI wi)]) (rest := []) ⟨hx, hb, hml, hown, hts⟩ (c_X6_beside l D cs ad v2 H.size (nI ci) (nI wi)) (va_cwS 2 hts gX6_spread_X6_beside rfl rfl rfl (by decide +kernel) ⟨Nat.le_of_ble_eq_true rfl, Nat.le_of_ble_eq_true rfl⟩) (g_preS hP hD hK hN) rfl rfl hl.1 rfl (lv_room (Nat.le_of_ble_eq_true rfl)) dX6_spread_47 ⟨Nat.le_of_ble_eq_true rfl, Nat.le_of_ble_eq_true rfl⟩) (fun H locs hP hD hS => ?_)
                refine lv_istore (lv' := [(6, .int (f_X6_beside (nI ci) (nI wi))), (5, .int (nI wi)), (4, .int (nI ci)), (3, .int f), (2, .int (nI sN)), (0, .ref (ad k)), (1, .int (nI mo))]) hx hb dX6_spread_50 hl (by decide) rfl (fun ls hl => ?_)
                refine lv_iload hx hb dX6_spread_52 (lv_at hl 0 rfl) ?_
                refine lv_iconst (v := -1) hx hb dX6_spread_54 (by decide) ?_
                refine lv_icmp_eq (tgt := 93) hx hb dX6_spread_55 (by decide) (fun c_6 => ?_) (fun c_6 => ?_)
                · skip
                  refine lv_iinc (v := nI (wi + 1)) (lv' := [(5, .int (nI (wi + 1))), (6, .int (f_X6_beside (nI ci) (nI wi))), (4, .int (nI ci)), (3, .int f), (2, .int (nI sN)), (0, .ref (ad k)), (1, .int (nI mo))]) hx hb dX6_spread_93 hl (k := 1) rfl (nI_1 wi) (by decide) rfl (fun ls hl => ?_)
                  refine lv_goto (tgt := 37) hx hb dX6_spread_96 (by decide) ?_
                  exact ih37 (wi + 1) v2 f _ _ _ (by omega) (sw_skip hsw (fun y => absurd y (besN (by omega) (by omega) c_6))) (by omega) hP hD hS (lv_sub hl [0, 2, 3, 4, 5, 6] rfl)
                · skip
                  obtain ⟨hnb1, hnb2⟩ := besY (by omega) (by omega) c_6
                  refine lv_aload_n hx hb dX6_spread_58 rfl (lv_at hl 5 rfl) ?_
                  refine lv_iload hx hb dX6_spread_59 (lv_at hl 0 rfl) ?_
                  refine lv_topi (fun y9 ey9 => ?_)
                  obtain rfl := ey9.trans hnb2
                  refine g_callF (F := f_X6_isOpen v2 k (nb ci wi)) hD hS hA (va_runV (As := [.int (nI (nb ci wi))]) (rest := []) ⟨hx, hb, hml, hown, hts⟩ (c_X6_isOpen l D cs ad v2 H.size k hk (nb ci wi) (by omega)) (cwV 1 hts gX6_spread_X6_isOpen rfl rfl rfl (by decide +kernel) ⟨Nat.le_of_ble_eq_true rfl, Nat.le_of_ble_eq_true rfl⟩) (g_preV hP hD hK hN (k := k) hk (by decide) rfl rfl rfl rfl) rfl rfl hl.1 rfl (lv_room (Nat.le_of_ble_eq_true rfl)) dX6_spread_61 ⟨Nat.le_of_ble_eq_true rfl, Nat.le_of_ble_eq_true rfl⟩) (fun H locs hP hD hS => ?_)
                  refine lv_if_eq (tgt := 93) hx hb dX6_spread_64 (by decide) (fun c_7 => ?_) (fun c_7 => ?_)
                  · skip
                    refine lv_iinc (v := nI (wi + 1)) (lv' := [(5, .int (nI (wi + 1))), (6, .int (f_X6_beside (nI ci) (nI wi))), (4, .int (nI ci)), (3, .int f), (2, .int (nI sN)), (0, .ref (ad k)), (1, .int (nI mo))]) hx hb dX6_spread_93 hl (k := 1) rfl (nI_1 wi) (by decide) rfl (fun ls hl => ?_)
                    refine lv_goto (tgt := 37) hx hb dX6_spread_96 (by decide) ?_
                    exact ih37 (wi + 1) v2 f _ _ _ (by omega) (sw_skip hsw (fun y y2 => absurd ((hop (nb ci wi) y).mpr y2) (fun z => isOpen_0 c_7 (by rw [hsw.1 _ (by omega), hE _ (by omega)]; exact z)))) (by omega) hP hD hS (lv_sub hl [0, 2, 3, 4, 5, 6] rfl)
                  · skip
                    refine lv_aload_n hx hb dX6_spread_67 rfl (lv_at hl 5 rfl) ?_
                    refine g_get (κ := 10) (ci := 6) (v := .ref (ad (k + 6))) (C := RX6) (T := TX6) (N := 8) hx hb hts hown hK hP (k := k) hk (by decide) rfl (fun _ h => List.mem_cons_of_mem _ (List.mem_append_right _ h)) rfl 7 (by decide) (hts _ (List.mem_of_getElem? (i := 1) rfl)) (fun _ h9 => h9) rfl dX6_spread_68 ?_
                    refine lv_iload hx hb dX6_spread_71 (lv_at hl 0 rfl) ?_
                    refine lv_topi (fun y9 ey9 => ?_)
                    obtain rfl := ey9.trans hnb2
                    refine g_ialdn (n := 256) (i := (nb ci wi)) hx hb hK hP (k := (k + 6)) (kd_10_7 hk) (by decide) rfl (by omega) (by decide) dX6_spread_73 ?_
                    refine lv_iconst (v := -1) hx hb dX6_spread_74 (by decide) ?_
                    refine lv_icmp_eq (tgt := 81) hx hb dX6_spread_75 (by decide) (fun c_8 => ?_) (fun c_8 => ?_)
                    · skip
                      refine lv_aload_n hx hb dX6_spread_81 rfl (lv_at hl 5 rfl) ?_
                      refine g_get (κ := 10) (ci := 6) (v := .ref (ad (k + 6))) (C := RX6) (T := TX6) (N := 8) hx hb hts hown hK hP (k := k) hk (by decide) rfl (fun _ h => List.mem_cons_of_mem _ (List.mem_append_right _ h)) rfl 7 (by decide) (hts _ (List.mem_of_getElem? (i := 1) rfl)) (fun _ h9 => h9) rfl dX6_spread_82 ?_
                      refine lv_iload hx hb dX6_spread_85 (lv_at hl 0 rfl) ?_
                      refine lv_topi (fun y9 ey9 => ?_)
                      obtain rfl := ey9.trans hnb2
                      refine lv_iload_n hx hb dX6_spread_87 rfl (lv_at hl 4 rfl) ?_
                      refine lv_iconst (v := nI 1) hx hb dX6_spread_88 (by decide) ?_
                      refine lv_iadd hx hb dX6_spread_89 ?_
                      rw [nI_add sN 1]
                      refine g_iastn (n := 256) (i := (nb ci wi)) hx hb hK hP hD hS (k := (k + 6)) (kd_10_7 hk) (by decide) (fun _ => rfl) (by omega) (by decide) dX6_spread_90 (fun u9 H locs hu9 hP hD hS => ?_)
                      refine lv_iconst (v := nI 1) hx hb dX6_spread_91 (by decide) ?_
                      refine lv_istore_n (lv' := [(3, .int (nI 1)), (6, .int (f_X6_beside (nI ci) (nI wi))), (5, .int (nI wi)), (4, .int (nI ci)), (2, .int (nI sN)), (0, .ref (ad k)), (1, .int (nI mo))]) hx hb dX6_spread_92 rfl hl (by decide) rfl (fun ls hl => ?_)
                      refine lv_iinc (v := nI (wi + 1)) (lv' := [(5, .int (nI (wi + 1))), (3, .int (nI 1)), (6, .int (f_X6_beside (nI ci) (nI wi))), (4, .int (nI ci)), (2, .int (nI sN)), (0, .ref (ad k)), (1, .int (nI mo))]) hx hb dX6_spread_93 hl (k := 2) rfl (nI_1 wi) (by decide) rfl (fun ls hl => ?_)
                      refine lv_goto (tgt := 37) hx hb dX6_spread_96 (by decide) ?_
                      exact ih37 (wi + 1) u9 (nI 1) _ _ _ (by omega) (by rw [hu9]; exact sw_set hsw (by omega) (by omega) (by omega) hat hnb1 ((hop (nb ci wi) hnb1).mp (by rw [← hE _ (by omega), ← hsw.1 _ (by omega)]; exact isOpen_1 c_7)) c_8) (by omega) hP hD hS (lv_sub hl [0, 3, 1, 4, 5, 6] rfl)
                    · skip
                      refine lv_goto (tgt := 93) hx hb dX6_spread_78 (by decide) ?_
                      refine lv_iinc (v := nI (wi + 1)) (lv' := [(5, .int (nI (wi + 1))), (6, .int (f_X6_beside (nI ci) (nI wi))), (4, .int (nI ci)), (3, .int f), (2, .int (nI sN)), (0, .ref (ad k)), (1, .int (nI mo))]) hx hb dX6_spread_93 hl (k := 1) rfl (nI_1 wi) (by decide) rfl (fun ls hl => ?_)
                      refine lv_goto (tgt := 37) hx hb dX6_spread_96 (by decide) ?_
                      exact ih37 (wi + 1) v2 f _ _ _ (by omega) (sw_skip hsw (fun _ _ y => c_8 y)) (by omega) hP hD hS (lv_sub hl [0, 2, 3, 4, 5, 6] rfl)
          · skip
            refine lv_goto (tgt := 99) hx hb dX6_spread_31 (by decide) ?_
            refine lv_iinc (v := nI (ci + 1)) (lv' := [(4, .int (nI (ci + 1))), (3, .int f), (2, .int (nI sN)), (0, .ref (ad k)), (1, .int (nI mo))]) hx hb dX6_spread_99 hl (k := 0) rfl (nI_1 ci) (by decide) rfl (fun ls hl => ?_)
            refine lv_goto (tgt := 12) hx hb dX6_spread_102 (by decide) ?_
            exact ih12 (ci + 1) v2 f _ _ _ (by omega) (sw_no hsw (fun y => c_4 ((sw_at hsw (by omega) (by omega)).mpr y))) (by omega) hP hD hS (lv_sub hl [0, 1, 2, 3, 4] rfl)
