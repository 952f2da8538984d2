/-! the class: plans -/
/-- stage q of the plans holds the state g; the fewest lightings are Y's -/
def pc_st (M : cq_M) (p q : Nat) (g : Nat → Nat) : Prop := ∀ k, k < 3 → M (p + 3 + q) k = nI (g (1 + k)) ∧ M (p + 8 + q) k = nI (g (4 + k))
def pc_fl (M : cq_M) (p q x y v : Nat) : Prop := ∀ k, k < 3 → M (p + 8 + q) k = nI (pl_f x y v k)
def pc_F (M : cq_M) (p : Nat) (Y : Nat → Nat) : Prop := ∀ t, t ≤ 1080 → M (p + 1) t = if Y t = 0 then -1 else nI (Y t)
/-- what is done from stage q on -/
def pc_fr (M M1 : cq_M) (p q : Nat) : Prop := ∀ x, x ≠ p + 1 → ¬ (p + 3 + q < x ∧ x < p + 7) → ¬ (p + 8 + q < x ∧ x < p + 12) → M1 x = M x
theorem pc_fr.rf {M : cq_M} {p q : Nat} : pc_fr M M p q := fun _ _ _ _ => rfl
theorem pc_fr.trans {M M1 M2 : cq_M} {p q : Nat} (h : pc_fr M M1 p q) (h2 : pc_fr M1 M2 p q) : pc_fr M M2 p q := fun x a b c => by rw [h2 x a b c, h x a b c]
theorem pc_fr.less {M M1 : cq_M} {p q r : Nat} (h : pc_fr M M1 p q) (hr : r ≤ q) : pc_fr M M1 p r := fun x a b c => h x a (by omega) (by omega)
theorem pc_st.fr {M M1 : cq_M} {p q : Nat} {g : Nat → Nat} (h : pc_st M p q g) (hf : pc_fr M M1 p q) (hq : q < 4) : pc_st M1 p q g := fun k hk => by
  rw [hf _ (by omega) (by omega) (by omega), hf _ (by omega) (by omega) (by omega)]
  exact h k hk
theorem pc_F.iff {M : cq_M} {p t : Nat} {Y : Nat → Nat} (h : pc_F M p Y) (hb : Y t ≤ 1080) (ht : t ≤ 1080) : (M (p + 1) t = -1 ↔ Y t = 0) ∧ (¬ Y t = 0 → M (p + 1) t = nI (Y t)) := by
  rw [h t ht]
  constructor
  · constructor
    · intro z
      by_cases e : Y t = 0
      · exact e
      · rw [if_neg e] at z
        exact absurd z (nI_m1 (by omega))
    · intro z
      exact if_pos z
  · intro z
    exact if_neg z
/-- the states that are noted behind those of the list, each with all that follow it -/
def pl_d (n : Nat) (l : List (Nat → Nat)) : List (Nat → Nat) := l.flatMap (fun x => x :: pl_dfs n x)
theorem pl_d_app {n : Nat} {l l2 : List (Nat → Nat)} : pl_d n (l ++ l2) = pl_d n l ++ pl_d n l2 := List.flatMap_append
theorem pl_max {r q : Nat} (hr : r < 1000000) (hs : q < 1000000) : (if (0 : Int32) < nI r - nI q then nI r - nI q else 0) = nI (r - q) := by
  have h := pl_sub hr hs
  by_cases e : nI r - nI q ≤ 0
  · rw [if_neg (Int32.not_lt.mpr e), h.1 e]
    rfl
  · rw [if_pos (Int32.not_le.mp e), (h.2 e).1]
theorem pl_go_d {g Y : Nat → Nat} {x y v n : Nat} (h : ¬ pl_st g x y v 3 = 0) : (pl_d n (pl_go g x y v)).foldl pl_note Y = (pl_dfs n (pl_nx g x y v)).foldl pl_note (pl_note Y (pl_nx g x y v)) := by
  rw [show pl_go g x y v = [pl_nx g x y v] from if_neg h]
  show (([pl_nx g x y v]).flatMap (fun q => q :: pl_dfs n q)).foldl pl_note Y = _
  rw [List.flatMap_cons, List.flatMap_nil, List.append_nil]
  rfl
theorem pl_go_d0 {g Y : Nat → Nat} {x y v n : Nat} (h : pl_st g x y v 3 = 0) : (pl_d n (pl_go g x y v)).foldl pl_note Y = Y := by
  rw [show pl_go g x y v = [] from if_pos h]
  rfl
theorem pl_note_le {g Y : Nat → Nat} (hY : ∀ t, Y t ≤ 1080) (hg : g 7 ≤ 1080) : ∀ t, pl_note Y g t ≤ 1080 := pl_fold_le (l := [g]) hY (fun x hx => by rw [List.mem_singleton.mp hx]; exact hg)
theorem pl_dfs_7 {t : Nat} : ∀ (n : Nat) {g x : Nat → Nat} {u : Nat}, pl_ok g u → u + 360 * n ≤ t → x ∈ pl_dfs n g → x 7 ≤ t
  | 0, _, _, _, _, _, hx => absurd hx List.not_mem_nil
  | n + 1, g, x, u, h, ht, hx => by
    obtain ⟨y, hy, hxy⟩ := List.mem_flatMap.mp hx
    have hok := (pl_all_ok h hy).1
    rcases List.mem_cons.mp hxy with e | e
    · rw [e]
      have := hok.2.2.1
      omega
    · exact pl_dfs_7 n hok (by omega) e
theorem pl_go_d7 {g x : Nat → Nat} {a b c n u : Nat} (h : pl_ok g u) (hv : pl_v g a b c) (hu : u + 360 * (n + 1) ≤ 1080) (hx : x ∈ pl_d n (pl_go g a b c)) : x 7 ≤ 1080 := by
  obtain ⟨y, hy, hxy⟩ := List.mem_flatMap.mp hx
  unfold pl_go at hy
  by_cases e : pl_st g a b c 3 = 0
  · rw [if_pos e] at hy
    exact absurd hy List.not_mem_nil
  · rw [if_neg e] at hy
    have hok := pl_nx_ok h hv e
    rw [← List.mem_singleton.mp hy] at hok
    rcases List.mem_cons.mp hxy with e | e
    · rw [e]
      have := hok.2.2.1
      omega
    · exact pl_dfs_7 n hok (by omega) e
abbrev rmX3_mostFlames : Room := ({ frames := 0, cells := 0, slots := 0, locals := 0 })
set_option maxHeartbeats 4000000 in
set_option maxRecDepth 100000 in
theorem kX3_mostFlames (l : Launch) (D : va_G) (cA : Nat → ClassId) (X : cq_X) (Bs : Nat) (p s : Nat) (g : Nat → Nat) (k : Nat) (M : cq_M) (hp : cq_isPlans X p) (hs : s < 4) (hst : pc_st M p s g) (hk : k < 3) (hg9 : g (1 + k) < 1000) : cq_C l yX3_mostFlames wsX3_mostFlames rmX3_mostFlames D cA X Bs [.ref p, .int (nI s), .int (nI k)] M (cq_PI (fun r M1 => r = nI (if 0 < g (1 + k) then 2 else 0) ∧ M1 = M)) 0 0 := by
  refine cq_met (cc := cX3_mostFlames) (maxL := 3) (ret := (some .int)) (by decide) rfl (Nat.le_of_ble_eq_true rfl) [(0, .ref p), (1, .int (nI s)), (2, .int (nI k))] rfl rfl ?_
  intro p9 e9 s9 m9 b9 t9 c9 F hr
  have inX3 : ∀ w ∈ wsX30, w ∈ wsX3_mostFlames := (fun w h => List.mem_cons_of_mem _ (List.mem_append_right _ h))
  refine cq_aload_n F (i := 0) dX3_mostFlames_0 rfl rfl ?_
  refine cq_getT (t := (p + 2)) F (C := RX3) (T := TX3) (N := 4) (ci := 4) hp.kind rfl ⟨⟨by decide, by decide⟩, rfl⟩ inX3 1 (by decide) rfl rfl hp.t1 (F.1.2.2.2.2 _ (List.mem_of_getElem? (l := wsX3_mostFlames) (i := 1) (a := .fieldLink RX3 17 "CordClock$Plans" "timeLeft" "[[I") (by decide +kernel))) dX3_mostFlames_1 ?_
  refine cq_iload_n F (i := 1) dX3_mostFlames_4 rfl rfl ?_
  have hj_5 : s < 4 := (by omega)
  refine cq_aaldA_j F (j := s) (t := (p + 3 + s)) hp.k2 hp.n2 rfl ⟨hj_5, by decide⟩ (hp.rt1 _ hj_5) dX3_mostFlames_5 ?_
  refine cq_iload_n F (i := 2) dX3_mostFlames_6 rfl rfl ?_
  refine cq_iald_j F (j := k) (hp.r1k _ hj_5) (hp.r1n _ hj_5) rfl ⟨(by omega), by decide⟩ dX3_mostFlames_7 ?_
  rw [(hst k hk).1]
  refine cq_if_le F (tgt := 15) dX3_mostFlames_8 (by decide) (fun c_8 => ?_) (fun c_8 => ?_)
  · have c_8 : (g (1 + k)) ≤ 0 := (nI_b (a := (g (1 + k))) (b := 0) (by omega) (by omega)).1.mp c_8
    refine cq_iconst F (v := 0) dX3_mostFlames_15 rfl ?_
    exact cq_iret F hr (by decide) (by decide) dX3_mostFlames_16 ⟨_, rfl, ⟨by first | (rw [if_pos (by omega)]; rfl) | (rw [if_neg (by omega)]; rfl), rfl⟩⟩
  · have c_8 : ¬ (g (1 + k)) ≤ 0 := fun z => c_8 ((nI_b (a := (g (1 + k))) (b := 0) (by omega) (by omega)).1.mpr z)
    refine cq_iconst F (v := 2) dX3_mostFlames_11 rfl ?_
    refine cq_goto F (tgt := 16) dX3_mostFlames_12 (by decide) ?_
    exact cq_iret F hr (by decide) (by decide) dX3_mostFlames_16 ⟨_, rfl, ⟨by first | (rw [if_pos (by omega)]; rfl) | (rw [if_neg (by omega)]; rfl), rfl⟩⟩
theorem hdVX3_mostFlames : yX3_mostFlames.cls = RX3 ∧ yX3_mostFlames.cls ≠ "java/lang/invoke/MethodHandle" ∧ yX3_mostFlames.cls ≠ "java/lang/invoke/VarHandle" ∧ (parseMethodDescriptor yX3_mostFlames.desc).map (fun d => d.parameters.length) = some 2 := by decide +kernel
abbrev rmX3_newFlames : Room := ({ frames := 0, cells := 0, slots := 0, locals := 0 })
set_option maxHeartbeats 4000000 in
set_option maxRecDepth 100000 in
theorem kX3_newFlames (l : Launch) (D : va_G) (cA : Nat → ClassId) (X : cq_X) (Bs : Nat) (p s : Nat) (g : Nat → Nat) (x y v u : Nat) (M : cq_M) (hp : cq_isPlans X p) (hs : s < 3) (hst : pc_st M p s g) (hv : pl_v g x y v) (hok : pl_ok g u) (hfl : pc_fl M p (s + 1) x y v) : cq_C l yX3_newFlames wsX3_newFlames rmX3_newFlames D cA X Bs [.ref p, .int (nI s)] M (cq_PI (fun r M1 => r = nI (pl_m g x y v 3) ∧ M1 = M)) 0 0 := by
  refine cq_met (cc := cX3_newFlames) (maxL := 4) (ret := (some .int)) (by decide) rfl (Nat.le_of_ble_eq_true rfl) [(0, .ref p), (1, .int (nI s))] rfl rfl ?_
  intro p9 e9 s9 m9 b9 t9 c9 F hr
  have inX3 : ∀ w ∈ wsX30, w ∈ wsX3_newFlames := (fun w h => List.mem_cons_of_mem _ (List.mem_append_right _ h))
  have loop_4 : ∀ (n_4 : Nat) (mo k : Nat), mo = pl_m g x y v k → k ≤ 3 → 4 - k < n_4 → cq_V p9 l e9 rmX3_newFlames s9 m9 ([.ref p, .int (nI s)] : List Value).toArray b9 t9 c9 D cA X Bs 4 0 0 (MQ b9 (cq_Q D cA X Bs (cq_PI (fun r M1 => r = nI (pl_m g x y v 3) ∧ M1 = M))) ([.ref p, .int (nI s)] : List Value).toArray s9 0 0 (cq_A Bs)) 4 [(0, .ref p), (1, .int (nI s)), (2, .int (nI mo)), (3, .int (nI k))] [] M := by
    intro n_4
    induction n_4 with
    | zero =>
      intros
      omega
    | succ n_4 ih_4 =>
      intro mo k hmo hk3 hn
      have hvk : k < 3 → g (4 + k) ≤ pl_f x y v k ∧ pl_f x y v k ≤ 2 ∧ (g (1 + k) = 0 → pl_f x y v k = 0) := fun q => hv k q
      have hmk := pl_m_le hv k hk3
      refine cq_iload_n F (i := 3) dX3_newFlames_4 rfl rfl ?_
      refine cq_iconst F (v := 3) dX3_newFlames_5 rfl ?_
      refine cq_icmp_ge F (tgt := 37) dX3_newFlames_6 (by decide) (fun c_6 => ?_) (fun c_6 => ?_)
      · have c_6 : 3 ≤ k := (nI_b (a := 3) (b := k) (by omega) (by omega)).1.mp c_6
        obtain rfl : k = 3 := by omega
        refine cq_iload_n F (i := 2) dX3_newFlames_37 rfl rfl ?_
        exact cq_iret F hr (by decide) (by decide) dX3_newFlames_38 ⟨_, rfl, ⟨by rw [hmo], rfl⟩⟩
      · have c_6 : ¬ 3 ≤ k := fun z => c_6 ((nI_b (a := 3) (b := k) (by omega) (by omega)).1.mpr z)
        refine cq_iload_n F (i := 2) dX3_newFlames_9 rfl rfl ?_
        refine cq_aload_n F (i := 0) dX3_newFlames_10 rfl rfl ?_
        refine cq_getT (t := (p + 7)) F (C := RX3) (T := TX3) (N := 4) (ci := 4) hp.kind rfl ⟨⟨by decide, by decide⟩, rfl⟩ inX3 2 (by decide) rfl rfl hp.t2 (F.1.2.2.2.2 _ (List.mem_of_getElem? (l := wsX3_newFlames) (i := 1) (a := .fieldLink RX3 20 "CordClock$Plans" "flames" "[[I") (by decide +kernel))) dX3_newFlames_11 ?_
        refine cq_iload_n F (i := 1) dX3_newFlames_14 rfl rfl ?_
        refine cq_iconst F (v := 1) dX3_newFlames_15 rfl ?_
        refine cq_iadd F dX3_newFlames_16 ?_
        rw [show (nI s + 1 : Int32) = nI (s + 1) from nI_add _ _]
        have hj_17 : (s + 1) < 4 := (by omega)
        refine cq_aaldA_j F (j := (s + 1)) (t := (p + 8 + (s + 1))) hp.k7 hp.n7 rfl ⟨hj_17, by decide⟩ (hp.rt2 _ hj_17) dX3_newFlames_17 ?_
        refine cq_iload_n F (i := 3) dX3_newFlames_18 rfl rfl ?_
        refine cq_iald_j F (j := k) (hp.r2k _ hj_17) (hp.r2n _ hj_17) rfl ⟨(by omega), by decide⟩ dX3_newFlames_19 ?_
        rw [(hfl k (by omega))]
        refine cq_aload_n F (i := 0) dX3_newFlames_20 rfl rfl ?_
        refine cq_getT (t := (p + 7)) F (C := RX3) (T := TX3) (N := 4) (ci := 4) hp.kind rfl ⟨⟨by decide, by decide⟩, rfl⟩ inX3 2 (by decide) rfl rfl hp.t2 (F.1.2.2.2.2 _ (List.mem_of_getElem? (l := wsX3_newFlames) (i := 1) (a := .fieldLink RX3 20 "CordClock$Plans" "flames" "[[I") (by decide +kernel))) dX3_newFlames_21 ?_
        refine cq_iload_n F (i := 1) dX3_newFlames_24 rfl rfl ?_
        have hj_25 : s < 4 := (by omega)
        refine cq_aaldA_j F (j := s) (t := (p + 8 + s)) hp.k7 hp.n7 rfl ⟨hj_25, by decide⟩ (hp.rt2 _ hj_25) dX3_newFlames_25 ?_
        refine cq_iload_n F (i := 3) dX3_newFlames_26 rfl rfl ?_
        refine cq_iald_j F (j := k) (hp.r2k _ hj_25) (hp.r2n _ hj_25) rfl ⟨(by omega), by decide⟩ dX3_newFlames_27 ?_
        rw [(hst k (by omega)).2]
        refine cq_isub F dX3_newFlames_28 ?_
        rw [show (nI (pl_f x y v k) - nI (g (4 + k)) : Int32) = nI ((pl_f x y v k) - (g (4 + k))) from pk_sub (a := (pl_f x y v k)) (b := (g (4 + k))) (by omega)]
        refine cq_iadd F dX3_newFlames_29 ?_
        rw [show (nI mo + nI ((pl_f x y v k) - (g (4 + k))) : Int32) = nI (mo + ((pl_f x y v k) - (g (4 + k)))) from nI_add _ _]
        refine cq_istore_n F (i := 2) dX3_newFlames_30 rfl (by decide) ?_
        refine cq_iinc F dX3_newFlames_31 rfl (by decide) (fun x_31 e_31 => ?_)
        obtain rfl : x_31 = nI (k + 1) := by rw [e_31]; exact nI_1 _
        refine cq_goto F (tgt := 4) dX3_newFlames_34 (by decide) ?_
        refine cq_loc (L2 := [(0, .ref p), (1, .int (nI s)), (2, .int (nI (mo + ((pl_f x y v k) - (g (4 + k)))))), (3, .int (nI (k + 1)))]) rfl ?_
        exact ih_4 _ (k + 1) (by rw [hmo]; rfl) (by omega) (by omega)
  refine cq_iconst F (v := 0) dX3_newFlames_0 rfl ?_
  refine cq_istore_n F (i := 2) dX3_newFlames_1 rfl (by decide) ?_
  refine cq_iconst F (v := 0) dX3_newFlames_2 rfl ?_
  refine cq_istore_n F (i := 3) dX3_newFlames_3 rfl (by decide) ?_
  refine cq_loc (L2 := [(0, .ref p), (1, .int (nI s)), (2, .int (nI 0)), (3, .int (nI 0))]) rfl ?_
  exact loop_4 5 0 0 rfl (by omega) (by omega)
theorem hdVX3_newFlames : yX3_newFlames.cls = RX3 ∧ yX3_newFlames.cls ≠ "java/lang/invoke/MethodHandle" ∧ yX3_newFlames.cls ≠ "java/lang/invoke/VarHandle" ∧ (parseMethodDescriptor yX3_newFlames.desc).map (fun d => d.parameters.length) = some 1 := by decide +kernel
abbrev rmX3_stepsToSignal : Room := ({ frames := 1, cells := 0, slots := 0, locals := 21 })
set_option maxHeartbeats 4000000 in
set_option maxRecDepth 100000 in
theorem kX3_stepsToSignal (l : Launch) (D : va_G) (cA : Nat → ClassId) (X : cq_X) (Bs : Nat) (p s : Nat) (g : Nat → Nat) (x y v u : Nat) (M : cq_M) (hp : cq_isPlans X p) (hs : s < 3) (hst : pc_st M p s g) (hv : pl_v g x y v) (hok : pl_ok g u) (hfl : pc_fl M p (s + 1) x y v) : cq_C l yX3_stepsToSignal wsX3_stepsToSignal rmX3_stepsToSignal D cA X Bs [.ref p, .int (nI s)] M (cq_PI (fun r M1 => r = (if pl_st g x y v 3 = 0 then -1 else nI (pl_st g x y v 3)) ∧ M1 = M)) 0 0 := by
  refine cq_met (cc := cX3_stepsToSignal) (maxL := 6) (ret := (some .int)) (by decide) rfl (Nat.le_of_ble_eq_true rfl) [(0, .ref p), (1, .int (nI s))] rfl rfl ?_
  intro p9 e9 s9 m9 b9 t9 c9 F hr
  have inX3 : ∀ w ∈ wsX30, w ∈ wsX3_stepsToSignal := (fun w h => List.mem_cons_of_mem _ (List.mem_append_right _ h))
  have loop_4 : ∀ (n_4 : Nat) (lst : Int32) (k : Nat), lst = (if pl_st g x y v k = 0 then -1 else nI (pl_st g x y v k)) → k ≤ 3 → 4 - k < n_4 → cq_V p9 l e9 rmX3_stepsToSignal s9 m9 ([.ref p, .int (nI s)] : List Value).toArray b9 t9 c9 D cA X Bs 6 0 0 (MQ b9 (cq_Q D cA X Bs (cq_PI (fun r M1 => r = (if pl_st g x y v 3 = 0 then -1 else nI (pl_st g x y v 3)) ∧ M1 = M))) ([.ref p, .int (nI s)] : List Value).toArray s9 0 0 (cq_A Bs)) 4 [(0, .ref p), (1, .int (nI s)), (2, .int lst), (3, .int (nI k))] [] M := by
    intro n_4
    induction n_4 with
    | zero =>
      intros
      omega
    | succ n_4 ih_4 =>
      intro lst k hls hk3 hn
      have hvk : k < 3 → g (4 + k) ≤ pl_f x y v k ∧ pl_f x y v k ≤ 2 ∧ (g (1 + k) = 0 → pl_f x y v k = 0) := fun q => hv k q
      have hgk : k < 3 → g (1 + k) ≤ 360 := fun q => (hok.2.1 k q).1
      have hstk := pl_st_le hok hv k hk3
      refine cq_iload_n F (i := 3) dX3_stepsToSignal_4 rfl rfl ?_
      refine cq_iconst F (v := 3) dX3_stepsToSignal_5 rfl ?_
      refine cq_icmp_ge F (tgt := 64) dX3_stepsToSignal_6 (by decide) (fun c_6 => ?_) (fun c_6 => ?_)
      · have c_6 : 3 ≤ k := (nI_b (a := 3) (b := k) (by omega) (by omega)).1.mp c_6
        obtain rfl : k = 3 := by omega
        refine cq_iload_n F (i := 2) dX3_stepsToSignal_64 rfl rfl ?_
        exact cq_iret F hr (by decide) (by decide) dX3_stepsToSignal_65 ⟨_, rfl, ⟨hls, rfl⟩⟩
      · have c_6 : ¬ 3 ≤ k := fun z => c_6 ((nI_b (a := 3) (b := k) (by omega) (by omega)).1.mpr z)
        refine cq_aload_n F (i := 0) dX3_stepsToSignal_9 rfl rfl ?_
        refine cq_getT (t := (p + 7)) F (C := RX3) (T := TX3) (N := 4) (ci := 4) hp.kind rfl ⟨⟨by decide, by decide⟩, rfl⟩ inX3 2 (by decide) rfl rfl hp.t2 (F.1.2.2.2.2 _ (List.mem_of_getElem? (l := wsX3_stepsToSignal) (i := 1) (a := .fieldLink RX3 20 "CordClock$Plans" "flames" "[[I") (by decide +kernel))) dX3_stepsToSignal_10 ?_
        refine cq_iload_n F (i := 1) dX3_stepsToSignal_13 rfl rfl ?_
        refine cq_iconst F (v := 1) dX3_stepsToSignal_14 rfl ?_
        refine cq_iadd F dX3_stepsToSignal_15 ?_
        rw [show (nI s + 1 : Int32) = nI (s + 1) from nI_add _ _]
        have hj_16 : (s + 1) < 4 := (by omega)
        refine cq_aaldA_j F (j := (s + 1)) (t := (p + 8 + (s + 1))) hp.k7 hp.n7 rfl ⟨hj_16, by decide⟩ (hp.rt2 _ hj_16) dX3_stepsToSignal_16 ?_
        refine cq_iload_n F (i := 3) dX3_stepsToSignal_17 rfl rfl ?_
        refine cq_iald_j F (j := k) (hp.r2k _ hj_16) (hp.r2n _ hj_16) rfl ⟨(by omega), by decide⟩ dX3_stepsToSignal_18 ?_
        rw [(hfl k (by omega))]
        refine cq_istore F dX3_stepsToSignal_19 (by decide) ?_
        refine cq_iload F dX3_stepsToSignal_21 rfl ?_
        refine cq_if_le F (tgt := 58) dX3_stepsToSignal_23 (by decide) (fun c_23 => ?_) (fun c_23 => ?_)
        · have c_23 : (pl_f x y v k) ≤ 0 := (nI_b (a := (pl_f x y v k)) (b := 0) (by omega) (by omega)).1.mp c_23
          have hl0 : pl_l g x y v k = 0 := if_pos (by omega)
          refine cq_iinc F dX3_stepsToSignal_58 rfl (by decide) (fun x_58 e_58 => ?_)
          obtain rfl : x_58 = nI (k + 1) := by rw [e_58]; exact nI_1 _
          refine cq_goto F (tgt := 4) dX3_stepsToSignal_61 (by decide) ?_
          refine cq_loc (L2 := [(0, .ref p), (1, .int (nI s)), (2, .int lst), (3, .int (nI (k + 1)))]) rfl ?_
          exact ih_4 _ (k + 1) (by
            have es : pl_st g x y v (k + 1) = pl_s (pl_st g x y v k) (pl_l g x y v k) := rfl
            rw [es]
            rw [show pl_s (pl_st g x y v k) (pl_l g x y v k) = pl_st g x y v k from if_neg (fun q => by have := q.1; omega)]; exact hls) (by omega) (by omega)
        · have c_23 : ¬ (pl_f x y v k) ≤ 0 := fun z => c_23 ((nI_b (a := (pl_f x y v k)) (b := 0) (by omega) (by omega)).1.mpr z)
          refine cq_aload_n F (i := 0) dX3_stepsToSignal_26 rfl rfl ?_
          refine cq_getT (t := (p + 2)) F (C := RX3) (T := TX3) (N := 4) (ci := 4) hp.kind rfl ⟨⟨by decide, by decide⟩, rfl⟩ inX3 1 (by decide) rfl rfl hp.t1 (F.1.2.2.2.2 _ (List.mem_of_getElem? (l := wsX3_stepsToSignal) (i := 2) (a := .fieldLink RX3 17 "CordClock$Plans" "timeLeft" "[[I") (by decide +kernel))) dX3_stepsToSignal_27 ?_
          refine cq_iload_n F (i := 1) dX3_stepsToSignal_30 rfl rfl ?_
          have hj_31 : s < 4 := (by omega)
          refine cq_aaldA_j F (j := s) (t := (p + 3 + s)) hp.k2 hp.n2 rfl ⟨hj_31, by decide⟩ (hp.rt1 _ hj_31) dX3_stepsToSignal_31 ?_
          refine cq_iload_n F (i := 3) dX3_stepsToSignal_32 rfl rfl ?_
          refine cq_iald_j F (j := k) (hp.r1k _ hj_31) (hp.r1n _ hj_31) rfl ⟨(by omega), by decide⟩ dX3_stepsToSignal_33 ?_
          rw [(hst k (by omega)).1]
          refine cq_iload F dX3_stepsToSignal_34 rfl ?_
          refine cq_callSN F (kX6_stepsByDividing l D cA X Bs (g (1 + k)) (pl_f x y v k) M (by omega) (by omega)) ⟨va_cnB 2 F.1.2.2.2.2 ggX3_stepsToSignal_X6_stepsByDividing rfl rfl rfl (F.2.2.2.2.2.1 _ (List.mem_of_getElem? (l := cq_nm) (i := 2) rfl)) (F.1.2.2.2.2 _ (List.mem_of_getElem? (l := wsX3_stepsToSignal) (i := 8) (a := .initialized RX6) (by decide +kernel))) hdVX6_stepsByDividing.2 ⟨Nat.le_of_ble_eq_true rfl, Nat.le_of_ble_eq_true rfl⟩, (F.1.2.2.2.2 _ (List.mem_of_getElem? (l := wsX3_stepsToSignal) (i := 7) (a := .static yX6_stepsByDividing) (by decide +kernel))), trivial⟩ rfl (Nat.le_of_ble_eq_true rfl) dX3_stepsToSignal_36 ⟨Nat.le_of_ble_eq_true rfl, Nat.le_of_ble_eq_true rfl⟩ (cq_kIp fun r_36 h_36 => ?_)
          rw [show ns_last (g (1 + k)) (pl_f x y v k) = pl_l g x y v k from by unfold ns_last pl_l; rw [if_neg (by omega)]] at h_36
          subst h_36
          have hl9 := pl_l_le hok hv (show k < 3 by omega)
          have hl1 : 0 < pl_l g x y v k := by have z1 := hl9.2.1; rw [if_neg (by omega)] at z1; have z2 := hvk (by omega); refine Nat.pos_of_ne_zero (fun q => ?_); rw [q] at z1; omega
          refine cq_istore F dX3_stepsToSignal_39 (by decide) ?_
          refine cq_iload_n F (i := 2) dX3_stepsToSignal_41 rfl rfl ?_
          refine cq_iconst F (v := (-1)) dX3_stepsToSignal_42 rfl ?_
          refine cq_icmp_ne F (tgt := 51) dX3_stepsToSignal_43 (by decide) (fun c_43 => ?_) (fun c_43 => ?_)
          · obtain ⟨hst0, rfl⟩ : ¬ pl_st g x y v k = 0 ∧ lst = nI (pl_st g x y v k) := by
              by_cases q : pl_st g x y v k = 0
              · rw [if_pos q] at hls; exact absurd hls c_43
              · rw [if_neg q] at hls; exact ⟨q, hls⟩
            refine cq_iload_n F (i := 2) dX3_stepsToSignal_51 rfl rfl ?_
            refine cq_iload F dX3_stepsToSignal_52 rfl ?_
            refine cq_mmin F (F.1.2.2.2.2 _ (List.mem_of_getElem? (l := wsX3_stepsToSignal) (i := 3) (a := .methodLink RX3 57 Lib.Math.min.name) (by decide +kernel))) (F.1.2.2.2.2 _ (List.mem_of_getElem? (l := wsX3_stepsToSignal) (i := 4) (a := .static Lib.Math.min.name) (by decide +kernel))) (F.1.2.2.2.2 _ (List.mem_of_getElem? (l := wsX3_stepsToSignal) (i := 5) (a := .initialized "java/lang/Math") (by decide +kernel))) (F.1.2.2.2.2 _ (List.mem_of_getElem? (l := wsX3_stepsToSignal) (i := 6) (a := .code Lib.Math.min.name Lib.Math.min.code 2 (some .int)) (by decide +kernel))) ⟨by decide, Nat.le_of_ble_eq_true rfl, by decide, by decide⟩ dX3_stepsToSignal_54 ?_
            rw [show (if nI (pl_l g x y v k) < nI (pl_st g x y v k) then nI (pl_l g x y v k) else nI (pl_st g x y v k) : Int32) = nI (if (pl_l g x y v k) < (pl_st g x y v k) then (pl_l g x y v k) else (pl_st g x y v k)) from nI_min (x := (pl_l g x y v k)) (y := (pl_st g x y v k)) (by omega) (by omega)]
            refine cq_istore_n F (i := 2) dX3_stepsToSignal_57 rfl (by decide) ?_
            refine cq_iinc F dX3_stepsToSignal_58 rfl (by decide) (fun x_58 e_58 => ?_)
            obtain rfl : x_58 = nI (k + 1) := by rw [e_58]; exact nI_1 _
            refine cq_goto F (tgt := 4) dX3_stepsToSignal_61 (by decide) ?_
            refine cq_loc (L2 := [(0, .ref p), (1, .int (nI s)), (2, .int (nI (if (pl_l g x y v k) < (pl_st g x y v k) then (pl_l g x y v k) else (pl_st g x y v k)))), (3, .int (nI (k + 1)))]) rfl ?_
            exact ih_4 _ (k + 1) (by
            have es : pl_st g x y v (k + 1) = pl_s (pl_st g x y v k) (pl_l g x y v k) := rfl
            rw [es]
            by_cases q : pl_l g x y v k < pl_st g x y v k
            · rw [if_pos q, show pl_s (pl_st g x y v k) (pl_l g x y v k) = pl_l g x y v k from if_pos ⟨by omega, Or.inr q⟩, if_neg (by omega)]
            · rw [if_neg q, show pl_s (pl_st g x y v k) (pl_l g x y v k) = pl_st g x y v k from if_neg (by omega), if_neg hst0]) (by omega) (by omega)
          · have hst0 : pl_st g x y v k = 0 := by
              by_cases q : pl_st g x y v k = 0
              · exact q
              · rw [if_neg q, c_43] at hls; exact absurd hls.symm (nI_m1 (by omega))
            refine cq_iload F dX3_stepsToSignal_46 rfl ?_
            refine cq_goto F (tgt := 57) dX3_stepsToSignal_48 (by decide) ?_
            refine cq_istore_n F (i := 2) dX3_stepsToSignal_57 rfl (by decide) ?_
            refine cq_iinc F dX3_stepsToSignal_58 rfl (by decide) (fun x_58 e_58 => ?_)
            obtain rfl : x_58 = nI (k + 1) := by rw [e_58]; exact nI_1 _
            refine cq_goto F (tgt := 4) dX3_stepsToSignal_61 (by decide) ?_
            refine cq_loc (L2 := [(0, .ref p), (1, .int (nI s)), (2, .int (nI (pl_l g x y v k))), (3, .int (nI (k + 1)))]) rfl ?_
            exact ih_4 _ (k + 1) (by
            have es : pl_st g x y v (k + 1) = pl_s (pl_st g x y v k) (pl_l g x y v k) := rfl
            rw [es]
            rw [show pl_s (pl_st g x y v k) (pl_l g x y v k) = pl_l g x y v k from if_pos ⟨by omega, Or.inl hst0⟩, if_neg (by omega)]) (by omega) (by omega)
  refine cq_iconst F (v := (-1)) dX3_stepsToSignal_0 rfl ?_
  refine cq_nmi (fun x_1 e_1 => ?_)
  refine cq_istore_n F (i := 2) dX3_stepsToSignal_1 rfl (by decide) ?_
  refine cq_iconst F (v := 0) dX3_stepsToSignal_2 rfl ?_
  refine cq_istore_n F (i := 3) dX3_stepsToSignal_3 rfl (by decide) ?_
  refine cq_loc (L2 := [(0, .ref p), (1, .int (nI s)), (2, .int x_1), (3, .int (nI 0))]) rfl ?_
  exact loop_4 5 x_1 0 (by rw [e_1]; rfl) (by omega) (by omega)
theorem hdVX3_stepsToSignal : yX3_stepsToSignal.cls = RX3 ∧ yX3_stepsToSignal.cls ≠ "java/lang/invoke/MethodHandle" ∧ yX3_stepsToSignal.cls ≠ "java/lang/invoke/VarHandle" ∧ (parseMethodDescriptor yX3_stepsToSignal.desc).map (fun d => d.parameters.length) = some 1 := by decide +kernel
abbrev rmX3_noteTold : Room := ({ frames := 0, cells := 0, slots := 0, locals := 0 })
set_option maxHeartbeats 4000000 in
set_option maxRecDepth 100000 in
theorem kX3_noteTold (l : Launch) (D : va_G) (cA : Nat → ClassId) (X : cq_X) (Bs : Nat) (p t q : Nat) (Y : Nat → Nat) (M : cq_M) (hp : cq_isPlans X p) (ht : t ≤ 1080) (hq : 1 ≤ q ∧ q ≤ 1080) (hF : pc_F M p Y) (hb : Y t ≤ 1080) : cq_C l yX3_noteTold wsX3_noteTold rmX3_noteTold D cA X Bs [.ref p, .int (nI t), .int (nI q)] M (cq_PV (fun M1 => pc_F M1 p (ns_up Y t (if Y t = 0 ∨ q < Y t then q else Y t)) ∧ cq_only M M1 (p + 1))) 0 0 := by
  refine cq_met (cc := cX3_noteTold) (maxL := 3) (ret := none) (by decide) rfl (Nat.le_of_ble_eq_true rfl) [(0, .ref p), (1, .int (nI t)), (2, .int (nI q))] rfl rfl ?_
  intro p9 e9 s9 m9 b9 t9 c9 F hr
  have inX3 : ∀ w ∈ wsX30, w ∈ wsX3_noteTold := (fun w h => List.mem_cons_of_mem _ (List.mem_append_right _ h))
  have hi := hF.iff hb ht
  refine cq_iload_n F (i := 1) dX3_noteTold_0 rfl rfl ?_
  refine cq_if_lt F (tgt := 11) dX3_noteTold_1 (by decide) (fun c_1 => ?_) (fun c_1 => ?_)
  · have c_1 : t < 0 := (nI_b (a := t) (b := 0) (by omega) (by omega)).2.1.mp c_1
    omega
  · have c_1 : ¬ t < 0 := fun z => c_1 ((nI_b (a := t) (b := 0) (by omega) (by omega)).2.1.mpr z)
    refine cq_iload_n F (i := 1) dX3_noteTold_4 rfl rfl ?_
    refine cq_sipush F (v := 1080) dX3_noteTold_5 (by decide) ?_
    refine cq_icmp_le F (tgt := 12) dX3_noteTold_8 (by decide) (fun c_8 => ?_) (fun c_8 => ?_)
    · have c_8 : t ≤ 1080 := (nI_b (a := t) (b := 1080) (by omega) (by omega)).1.mp c_8
      refine cq_aload_n F (i := 0) dX3_noteTold_12 rfl rfl ?_
      refine cq_getT (t := (p + 1)) F (C := RX3) (T := TX3) (N := 4) (ci := 4) hp.kind rfl ⟨⟨by decide, by decide⟩, rfl⟩ inX3 0 (by decide) rfl rfl hp.t0 (F.1.2.2.2.2 _ (List.mem_of_getElem? (l := wsX3_noteTold) (i := 1) (a := .fieldLink RX3 9 "CordClock$Plans" "fewest" "[I") (by decide +kernel))) dX3_noteTold_13 ?_
      refine cq_iload_n F (i := 1) dX3_noteTold_16 rfl rfl ?_
      refine cq_iald_j F (j := t) hp.k1 hp.n1 rfl ⟨(by omega), by decide⟩ dX3_noteTold_17 ?_
      refine cq_iconst F (v := (-1)) dX3_noteTold_18 rfl ?_
      refine cq_icmp_eq F (tgt := 32) dX3_noteTold_19 (by decide) (fun c_19 => ?_) (fun c_19 => ?_)
      · have hY0 : Y t = 0 := hi.1.mp c_19
        refine cq_aload_n F (i := 0) dX3_noteTold_32 rfl rfl ?_
        refine cq_getT (t := (p + 1)) F (C := RX3) (T := TX3) (N := 4) (ci := 4) hp.kind rfl ⟨⟨by decide, by decide⟩, rfl⟩ inX3 0 (by decide) rfl rfl hp.t0 (F.1.2.2.2.2 _ (List.mem_of_getElem? (l := wsX3_noteTold) (i := 1) (a := .fieldLink RX3 9 "CordClock$Plans" "fewest" "[I") (by decide +kernel))) dX3_noteTold_33 ?_
        refine cq_iload_n F (i := 1) dX3_noteTold_36 rfl rfl ?_
        refine cq_iload_n F (i := 2) dX3_noteTold_37 rfl rfl ?_
        refine cq_iast_j F (j := t) hp.k1 hp.n1 rfl ⟨(by omega), by decide⟩ dX3_noteTold_38 (fun M_38 h_38 => ?_)
        refine cq_vret F hr (by decide) (by decide) dX3_noteTold_39 ⟨rfl, ?_⟩
        refine ⟨fun j hj => ?_, cq_only1 h_38⟩
        rw [h_38]
        by_cases e : j = t
        · subst e
          rw [cq_up_s, ns_up_s]
          first
          | (rw [if_pos (Or.inl hY0), if_neg (by omega)])
          | (rw [if_pos (Or.inr (by omega)), if_neg (by omega)])
        · rw [cq_up_k e, ns_up_n e]
          exact hF j hj
      · have hY0 : ¬ Y t = 0 := fun z => c_19 (hi.1.mpr z)
        have hMt := hi.2 hY0
        refine cq_iload_n F (i := 2) dX3_noteTold_22 rfl rfl ?_
        refine cq_aload_n F (i := 0) dX3_noteTold_23 rfl rfl ?_
        refine cq_getT (t := (p + 1)) F (C := RX3) (T := TX3) (N := 4) (ci := 4) hp.kind rfl ⟨⟨by decide, by decide⟩, rfl⟩ inX3 0 (by decide) rfl rfl hp.t0 (F.1.2.2.2.2 _ (List.mem_of_getElem? (l := wsX3_noteTold) (i := 1) (a := .fieldLink RX3 9 "CordClock$Plans" "fewest" "[I") (by decide +kernel))) dX3_noteTold_24 ?_
        refine cq_iload_n F (i := 1) dX3_noteTold_27 rfl rfl ?_
        refine cq_iald_j F (j := t) hp.k1 hp.n1 rfl ⟨(by omega), by decide⟩ dX3_noteTold_28 ?_
        rw [hMt]
        refine cq_icmp_ge F (tgt := 39) dX3_noteTold_29 (by decide) (fun c_29 => ?_) (fun c_29 => ?_)
        · have c_29 : (Y t) ≤ q := (nI_b (a := (Y t)) (b := q) (by omega) (by omega)).1.mp c_29
          refine cq_vret F hr (by decide) (by decide) dX3_noteTold_39 ⟨rfl, ?_⟩
          refine ⟨fun j hj => ?_, cq_only.rf⟩
          have e9 : (ns_up Y t (if Y t = 0 ∨ q < Y t then q else Y t)) j = Y j := by
            unfold ns_up
            split
            · rename_i e; rw [if_neg (by omega), e]
            · rfl
          rw [e9]
          exact hF j hj
        · have c_29 : ¬ (Y t) ≤ q := fun z => c_29 ((nI_b (a := (Y t)) (b := q) (by omega) (by omega)).1.mpr z)
          refine cq_aload_n F (i := 0) dX3_noteTold_32 rfl rfl ?_
          refine cq_getT (t := (p + 1)) F (C := RX3) (T := TX3) (N := 4) (ci := 4) hp.kind rfl ⟨⟨by decide, by decide⟩, rfl⟩ inX3 0 (by decide) rfl rfl hp.t0 (F.1.2.2.2.2 _ (List.mem_of_getElem? (l := wsX3_noteTold) (i := 1) (a := .fieldLink RX3 9 "CordClock$Plans" "fewest" "[I") (by decide +kernel))) dX3_noteTold_33 ?_
          refine cq_iload_n F (i := 1) dX3_noteTold_36 rfl rfl ?_
          refine cq_iload_n F (i := 2) dX3_noteTold_37 rfl rfl ?_
          refine cq_iast_j F (j := t) hp.k1 hp.n1 rfl ⟨(by omega), by decide⟩ dX3_noteTold_38 (fun M_38 h_38 => ?_)
          refine cq_vret F hr (by decide) (by decide) dX3_noteTold_39 ⟨rfl, ?_⟩
          refine ⟨fun j hj => ?_, cq_only1 h_38⟩
          rw [h_38]
          by_cases e : j = t
          · subst e
            rw [cq_up_s, ns_up_s]
            first
            | (rw [if_pos (Or.inl hY0), if_neg (by omega)])
            | (rw [if_pos (Or.inr (by omega)), if_neg (by omega)])
          · rw [cq_up_k e, ns_up_n e]
            exact hF j hj
    · have c_8 : ¬ t ≤ 1080 := fun z => c_8 ((nI_b (a := t) (b := 1080) (by omega) (by omega)).1.mpr z)
      omega
theorem hdVX3_noteTold : yX3_noteTold.cls = RX3 ∧ yX3_noteTold.cls ≠ "java/lang/invoke/MethodHandle" ∧ yX3_noteTold.cls ≠ "java/lang/invoke/VarHandle" ∧ (parseMethodDescriptor yX3_noteTold.desc).map (fun d => d.parameters.length) = some 2 := by decide +kernel
theorem hdVX3_tryAll : yX3_tryAll.cls = RX3 ∧ yX3_tryAll.cls ≠ "java/lang/invoke/MethodHandle" ∧ yX3_tryAll.cls ≠ "java/lang/invoke/VarHandle" ∧ (parseMethodDescriptor yX3_tryAll.desc).map (fun d => d.parameters.length) = some 3 := by decide +kernel
theorem hdVX3_burnToSignal : yX3_burnToSignal.cls = RX3 ∧ yX3_burnToSignal.cls ≠ "java/lang/invoke/MethodHandle" ∧ yX3_burnToSignal.cls ≠ "java/lang/invoke/VarHandle" ∧ (parseMethodDescriptor yX3_burnToSignal.desc).map (fun d => d.parameters.length) = some 3 := by decide +kernel
abbrev rmX3_try_0 : Room := ({ frames := 0, cells := 0, slots := 0, locals := 0 })
set_option maxHeartbeats 4000000 in
set_option maxRecDepth 100000 in
theorem kX3_try_0 (l : Launch) (D : va_G) (cA : Nat → ClassId) (X : cq_X) (Bs : Nat) (p s : Nat) (g : Nat → Nat) (Y : Nat → Nat) (M : cq_M) (hp : cq_isPlans X p) (hs : s = 3) (hst : pc_st M p s g) (hok : pl_ok g 1080) (hF : pc_F M p Y) (hb : ∀ t, Y t ≤ 1080) : cq_C l yX3_tryAll wsX3_tryAll rmX3_try_0 D cA X Bs [.ref p, .int (nI s), .int (nI (g 0)), .int (nI (g 7))] M (cq_PV (fun M1 => pc_F M1 p (List.foldl pl_note Y (pl_dfs 0 g)) ∧ pc_fr M M1 p s)) 0 0 := by
  refine cq_met (cc := cX3_tryAll) (maxL := 7) (ret := none) (by decide) rfl (Nat.le_of_ble_eq_true rfl) [(0, .ref p), (1, .int (nI s)), (2, .int (nI (g 0))), (3, .int (nI (g 7)))] rfl rfl ?_
  intro p9 e9 s9 m9 b9 t9 c9 F hr
  refine cq_iload_n F (i := 1) dX3_tryAll_0 rfl rfl ?_
  refine cq_if_lt F (tgt := 9) dX3_tryAll_1 (by decide) (fun c_1 => ?_) (fun c_1 => ?_)
  · have c_1 : s < 0 := (nI_b (a := s) (b := 0) (by omega) (by omega)).2.1.mp c_1
    omega
  · have c_1 : ¬ s < 0 := fun z => c_1 ((nI_b (a := s) (b := 0) (by omega) (by omega)).2.1.mpr z)
    refine cq_iload_n F (i := 1) dX3_tryAll_4 rfl rfl ?_
    refine cq_iconst F (v := 3) dX3_tryAll_5 rfl ?_
    refine cq_icmp_lt F (tgt := 10) dX3_tryAll_6 (by decide) (fun c_6 => ?_) (fun c_6 => ?_)
    · have c_6 : s < 3 := (nI_b (a := s) (b := 3) (by omega) (by omega)).2.1.mp c_6
      omega
    · have c_6 : ¬ s < 3 := fun z => c_6 ((nI_b (a := s) (b := 3) (by omega) (by omega)).2.1.mpr z)
      exact cq_vret F hr (by decide) (by decide) dX3_tryAll_9 ⟨rfl, ⟨hF, pc_fr.rf⟩⟩
abbrev rmX3_burn_0 : Room := ({ frames := 2, cells := 0, slots := 0, locals := 46 })
set_option maxHeartbeats 4000000 in
set_option maxRecDepth 100000 in
theorem kX3_burn_0 (l : Launch) (D : va_G) (cA : Nat → ClassId) (X : cq_X) (Bs : Nat) (p s : Nat) (g : Nat → Nat) (x y v : Nat) (Y : Nat → Nat) (M : cq_M) (hp : cq_isPlans X p) (hs : s = 2) (hst : pc_st M p s g) (hv : pl_v g x y v) (hok : pl_ok g 720) (hfl : pc_fl M p (s + 1) x y v) (hF : pc_F M p Y) (hb : ∀ t, Y t ≤ 1080) : cq_C l yX3_burnToSignal wsX3_burnToSignal rmX3_burn_0 D cA X Bs [.ref p, .int (nI s), .int (nI (g 0)), .int (nI (g 7 + pl_m g x y v 3))] M (cq_PV (fun M1 => pc_F M1 p (List.foldl pl_note Y (pl_d 0 (pl_go g x y v))) ∧ pc_fr M M1 p s)) 0 0 := by
  refine cq_met (cc := cX3_burnToSignal) (maxL := 7) (ret := none) (by decide) rfl (Nat.le_of_ble_eq_true rfl) [(0, .ref p), (1, .int (nI s)), (2, .int (nI (g 0))), (3, .int (nI (g 7 + pl_m g x y v 3)))] rfl rfl ?_
  intro p9 e9 s9 m9 b9 t9 c9 F hr
  have inX3 : ∀ w ∈ wsX30, w ∈ wsX3_burnToSignal := (fun w h => List.mem_cons_of_mem _ (List.mem_append_right _ h))
  have hst9 := pl_st_le hok hv 3 (by omega)
  have hm9 := pl_m_le hv 3 (by omega)
  have hg0 := hok.1
  have hg7 := hok.2.2.1
  have loop_17 : ∀ (n_17 : Nat) (i : Nat) (M2 : cq_M), ¬ pl_st g x y v 3 = 0 → i ≤ 3 → ((∀ j, j < 3 → M2 (p + 8 + (s + 1)) j = nI (if j < i then pl_nx g x y v (4 + j) else pl_f x y v j)) ∧ (∀ j, j < i → M2 (p + 3 + (s + 1)) j = nI (pl_nx g x y v (1 + j))) ∧ ∀ r, r ≠ p + 3 + (s + 1) → r ≠ p + 8 + (s + 1) → M2 r = M r) → 4 - i < n_17 → cq_V p9 l e9 rmX3_burn_0 s9 m9 ([.ref p, .int (nI s), .int (nI (g 0)), .int (nI (g 7 + pl_m g x y v 3))] : List Value).toArray b9 t9 c9 D cA X Bs 7 0 0 (MQ b9 (cq_Q D cA X Bs (cq_PV (fun M1 => pc_F M1 p (List.foldl pl_note Y (pl_d 0 (pl_go g x y v))) ∧ pc_fr M M1 p s))) ([.ref p, .int (nI s), .int (nI (g 0)), .int (nI (g 7 + pl_m g x y v 3))] : List Value).toArray s9 0 0 (cq_A Bs)) 17 [(0, .ref p), (1, .int (nI s)), (2, .int (nI (g 0))), (3, .int (nI (g 7 + pl_m g x y v 3))), (4, .int (nI (pl_st g x y v 3))), (5, .int (nI i))] [] M2 := by
    intro n_17
    induction n_17 with
    | zero =>
      intros
      omega
    | succ n_17 ih_17 =>
      intro i M2 hne hi3 hI hn
      have hvi : i < 3 → g (4 + i) ≤ pl_f x y v i ∧ pl_f x y v i ≤ 2 ∧ (g (1 + i) = 0 → pl_f x y v i = 0) := fun q => hv i q
      have hgi : i < 3 → g (1 + i) ≤ 360 := fun q => (hok.2.1 i q).1
      refine cq_iload F dX3_burnToSignal_17 rfl ?_
      refine cq_iconst F (v := 3) dX3_burnToSignal_19 rfl ?_
      refine cq_icmp_ge F (tgt := 89) dX3_burnToSignal_20 (by decide) (fun c_20 => ?_) (fun c_20 => ?_)
      · have c_20 : 3 ≤ i := (nI_b (a := 3) (b := i) (by omega) (by omega)).1.mp c_20
        obtain rfl : i = 3 := by omega
        refine cq_aload_n F (i := 0) dX3_burnToSignal_89 rfl rfl ?_
        refine cq_iload_n F (i := 2) dX3_burnToSignal_90 rfl rfl ?_
        refine cq_iload F dX3_burnToSignal_91 rfl ?_
        refine cq_iadd F dX3_burnToSignal_93 ?_
        rw [show (nI (g 0) + nI (pl_st g x y v 3) : Int32) = nI ((g 0) + (pl_st g x y v 3)) from nI_add _ _]
        refine cq_iload_n F (i := 3) dX3_burnToSignal_94 rfl rfl ?_
        have hok2 := pl_nx_ok hok hv hne
        refine cq_callV F (C := RX3) (ci := 4) (kX3_noteTold l D cA X Bs p (g 0 + pl_st g x y v 3) (g 7 + pl_m g x y v 3) Y M2 hp (by omega) ⟨by have := pl_nx_lit hok hne; rw [pl_nx_7] at this; exact this, by omega⟩ (fun j hj => by rw [hI.2.2 _ (by omega) (by omega)]; exact hF j hj) (hb _)) (cwV 2 F.1.2.2.2.2 gX3_burnToSignal_X3_noteTold rfl rfl rfl hdVX3_noteTold ⟨Nat.le_of_ble_eq_true rfl, Nat.le_of_ble_eq_true rfl⟩) hp.kind ⟨by decide, by decide⟩ rfl rfl rfl (Nat.le_of_ble_eq_true rfl) dX3_burnToSignal_95 ⟨Nat.le_of_ble_eq_true rfl, Nat.le_of_ble_eq_true rfl⟩ (cq_kV fun M_95 h_95 => ?_)
        have hst2 : pc_st M_95 p (s + 1) (pl_nx g x y v) := fun j hj => by
          rw [h_95.2 _ (by omega), h_95.2 _ (by omega), hI.1 j hj, if_pos hj]
          exact ⟨hI.2.1 j hj, rfl⟩
        have hF2 : pc_F M_95 p (pl_note Y (pl_nx g x y v)) := by
          have q := h_95.1
          unfold pl_note
          rw [pl_nx_0, pl_nx_7]
          exact q
        refine cq_aload_n F (i := 0) dX3_burnToSignal_98 rfl rfl ?_
        refine cq_iload_n F (i := 1) dX3_burnToSignal_99 rfl rfl ?_
        refine cq_iconst F (v := 1) dX3_burnToSignal_100 rfl ?_
        refine cq_iadd F dX3_burnToSignal_101 ?_
        rw [show (nI s + 1 : Int32) = nI (s + 1) from nI_add _ _]
        refine cq_iload_n F (i := 2) dX3_burnToSignal_102 rfl rfl ?_
        refine cq_iload F dX3_burnToSignal_103 rfl ?_
        refine cq_iadd F dX3_burnToSignal_105 ?_
        rw [show (nI (g 0) + nI (pl_st g x y v 3) : Int32) = nI ((g 0) + (pl_st g x y v 3)) from nI_add _ _]
        refine cq_iload_n F (i := 3) dX3_burnToSignal_106 rfl rfl ?_
        rw [show nI (g 0 + pl_st g x y v 3) = nI (pl_nx g x y v 0) by rw [pl_nx_0], show nI (g 7 + pl_m g x y v 3) = nI (pl_nx g x y v 7) by rw [pl_nx_7]]
        refine cq_callV F (C := RX3) (ci := 4) (kX3_try_0 l D cA X Bs p (s + 1) (pl_nx g x y v) (pl_note Y (pl_nx g x y v)) M_95 hp (by omega) hst2 hok2 hF2 (pl_note_le hb (by have := hok2.2.2.1; omega))) (cwV 3 F.1.2.2.2.2 gX3_burnToSignal_X3_tryAll rfl rfl rfl hdVX3_tryAll ⟨Nat.le_of_ble_eq_true rfl, Nat.le_of_ble_eq_true rfl⟩) hp.kind ⟨by decide, by decide⟩ rfl rfl rfl (Nat.le_of_ble_eq_true rfl) dX3_burnToSignal_107 ⟨Nat.le_of_ble_eq_true rfl, Nat.le_of_ble_eq_true rfl⟩ (cq_kV fun M_107 h_107 => ?_)
        refine cq_vret F hr (by decide) (by decide) dX3_burnToSignal_110 ⟨rfl, ?_⟩
        rw [pl_go_d hne]
        exact ⟨h_107.1, fun r r1 r2 r3 => by rw [h_107.2 r r1 (by omega) (by omega), h_95.2 r r1, hI.2.2 r (by omega) (by omega)]⟩
      · have c_20 : ¬ 3 ≤ i := fun z => c_20 ((nI_b (a := 3) (b := i) (by omega) (by omega)).1.mpr z)
        refine cq_iconst F (v := 0) dX3_burnToSignal_23 rfl ?_
        refine cq_aload_n F (i := 0) dX3_burnToSignal_24 rfl rfl ?_
        refine cq_getT (t := (p + 2)) F (C := RX3) (T := TX3) (N := 4) (ci := 4) hp.kind rfl ⟨⟨by decide, by decide⟩, rfl⟩ inX3 1 (by decide) rfl rfl hp.t1 (F.1.2.2.2.2 _ (List.mem_of_getElem? (l := wsX3_burnToSignal) (i := 1) (a := .fieldLink RX3 17 "CordClock$Plans" "timeLeft" "[[I") (by decide +kernel))) dX3_burnToSignal_25 ?_
        refine cq_iload_n F (i := 1) dX3_burnToSignal_28 rfl rfl ?_
        have hj_29 : s < 4 := (by omega)
        refine cq_aaldA_j F (j := s) (t := (p + 3 + s)) hp.k2 hp.n2 rfl ⟨hj_29, by decide⟩ (hp.rt1 _ hj_29) dX3_burnToSignal_29 ?_
        refine cq_iload F dX3_burnToSignal_30 rfl ?_
        refine cq_iald_j F (j := i) (hp.r1k _ hj_29) (hp.r1n _ hj_29) rfl ⟨(by omega), by decide⟩ dX3_burnToSignal_32 ?_
        rw [(show M2 (p + 3 + s) i = nI (g (1 + i)) by rw [hI.2.2 _ (by omega) (by omega)]; exact (hst i (by omega)).1)]
        refine cq_aload_n F (i := 0) dX3_burnToSignal_33 rfl rfl ?_
        refine cq_getT (t := (p + 7)) F (C := RX3) (T := TX3) (N := 4) (ci := 4) hp.kind rfl ⟨⟨by decide, by decide⟩, rfl⟩ inX3 2 (by decide) rfl rfl hp.t2 (F.1.2.2.2.2 _ (List.mem_of_getElem? (l := wsX3_burnToSignal) (i := 2) (a := .fieldLink RX3 20 "CordClock$Plans" "flames" "[[I") (by decide +kernel))) dX3_burnToSignal_34 ?_
        refine cq_iload_n F (i := 1) dX3_burnToSignal_37 rfl rfl ?_
        refine cq_iconst F (v := 1) dX3_burnToSignal_38 rfl ?_
        refine cq_iadd F dX3_burnToSignal_39 ?_
        rw [show (nI s + 1 : Int32) = nI (s + 1) from nI_add _ _]
        have hj_40 : (s + 1) < 4 := (by omega)
        refine cq_aaldA_j F (j := (s + 1)) (t := (p + 8 + (s + 1))) hp.k7 hp.n7 rfl ⟨hj_40, by decide⟩ (hp.rt2 _ hj_40) dX3_burnToSignal_40 ?_
        refine cq_iload F dX3_burnToSignal_41 rfl ?_
        refine cq_iald_j F (j := i) (hp.r2k _ hj_40) (hp.r2n _ hj_40) rfl ⟨(by omega), by decide⟩ dX3_burnToSignal_43 ?_
        rw [(show M2 (p + 8 + (s + 1)) i = nI (pl_f x y v i) by rw [hI.1 i (by omega), if_neg (by omega)])]
        refine cq_iload F dX3_burnToSignal_44 rfl ?_
        refine cq_imul F dX3_burnToSignal_46 ?_
        rw [show (nI (pl_f x y v i) * nI (pl_st g x y v 3) : Int32) = nI ((pl_f x y v i) * (pl_st g x y v 3)) from pk_mul _ _]
        refine cq_isub F dX3_burnToSignal_47 ?_
        refine cq_mmax F (F.1.2.2.2.2 _ (List.mem_of_getElem? (l := wsX3_burnToSignal) (i := 3) (a := .methodLink RX3 45 Lib.Math.max.name) (by decide +kernel))) (F.1.2.2.2.2 _ (List.mem_of_getElem? (l := wsX3_burnToSignal) (i := 4) (a := .static Lib.Math.max.name) (by decide +kernel))) (F.1.2.2.2.2 _ (List.mem_of_getElem? (l := wsX3_burnToSignal) (i := 5) (a := .initialized "java/lang/Math") (by decide +kernel))) (F.1.2.2.2.2 _ (List.mem_of_getElem? (l := wsX3_burnToSignal) (i := 6) (a := .code Lib.Math.max.name Lib.Math.max.code 2 (some .int)) (by decide +kernel))) ⟨by decide, Nat.le_of_ble_eq_true rfl, by decide, by decide⟩ dX3_burnToSignal_48 ?_
        have hp9 : pl_f x y v i * pl_st g x y v 3 ≤ 2 * 360 := Nat.mul_le_mul (hvi (by omega)).2.1 hst9
        rw [show (if (0 : Int32) < nI (g (1 + i)) - nI (pl_f x y v i * pl_st g x y v 3) then nI (g (1 + i)) - nI (pl_f x y v i * pl_st g x y v 3) else 0) = nI (pl_r g x y v i) from pl_max (by omega) (by omega)]
        have hr9 : (pl_r g x y v i) ≤ 360 := by unfold pl_r; omega
        refine cq_istore F dX3_burnToSignal_51 (by decide) ?_
        refine cq_aload_n F (i := 0) dX3_burnToSignal_53 rfl rfl ?_
        refine cq_getT (t := (p + 2)) F (C := RX3) (T := TX3) (N := 4) (ci := 4) hp.kind rfl ⟨⟨by decide, by decide⟩, rfl⟩ inX3 1 (by decide) rfl rfl hp.t1 (F.1.2.2.2.2 _ (List.mem_of_getElem? (l := wsX3_burnToSignal) (i := 1) (a := .fieldLink RX3 17 "CordClock$Plans" "timeLeft" "[[I") (by decide +kernel))) dX3_burnToSignal_54 ?_
        refine cq_iload_n F (i := 1) dX3_burnToSignal_57 rfl rfl ?_
        refine cq_iconst F (v := 1) dX3_burnToSignal_58 rfl ?_
        refine cq_iadd F dX3_burnToSignal_59 ?_
        rw [show (nI s + 1 : Int32) = nI (s + 1) from nI_add _ _]
        have hj_60 : (s + 1) < 4 := (by omega)
        refine cq_aaldA_j F (j := (s + 1)) (t := (p + 3 + (s + 1))) hp.k2 hp.n2 rfl ⟨hj_60, by decide⟩ (hp.rt1 _ hj_60) dX3_burnToSignal_60 ?_
        refine cq_iload F dX3_burnToSignal_61 rfl ?_
        refine cq_iload F dX3_burnToSignal_63 rfl ?_
        refine cq_iast_j F (j := i) (hp.r1k _ hj_60) (hp.r1n _ hj_60) rfl ⟨(by omega), by decide⟩ dX3_burnToSignal_65 (fun M_65 h_65 => ?_)
        refine cq_iload F dX3_burnToSignal_66 rfl ?_
        refine cq_if_ne F (tgt := 83) dX3_burnToSignal_68 (by decide) (fun c_68 => ?_) (fun c_68 => ?_)
        · have c_68 : ¬ (pl_r g x y v i) = 0 := fun z => c_68 ((nI_b (a := (pl_r g x y v i)) (b := 0) (by omega) (by omega)).2.2.mpr z)
          refine cq_iinc F dX3_burnToSignal_83 rfl (by decide) (fun x_83 e_83 => ?_)
          obtain rfl : x_83 = nI (i + 1) := by rw [e_83]; exact nI_1 _
          refine cq_goto F (tgt := 17) dX3_burnToSignal_86 (by decide) ?_
          refine cq_loc (L2 := [(0, .ref p), (1, .int (nI s)), (2, .int (nI (g 0))), (3, .int (nI (g 7 + pl_m g x y v 3))), (4, .int (nI (pl_st g x y v 3))), (5, .int (nI (i + 1)))]) rfl ?_
          refine ih_17 (i + 1) M_65 hne (by omega) ⟨fun j hj => ?_, fun j hj => ?_, fun r r1 r2 => ?_⟩ (by omega)
          · rw [h_65, cq_up_a (by omega), hI.1 j hj]
            by_cases e : j = i
            · rw [e, if_neg (by omega), if_pos (by omega), pl_nx_f (by omega), if_pos (by omega)]
            · by_cases e2 : j < i
              · rw [if_pos e2, if_pos (by omega)]
              · rw [if_neg e2, if_neg (by omega)]
          · rw [h_65]
            by_cases e : j = i
            · rw [e, cq_up_s, pl_nx_r (by omega)]
            · rw [cq_up_k e]; exact hI.2.1 j (by omega)
          · rw [h_65, cq_up_row r1]; exact hI.2.2 r r1 r2
        · have c_68 : (pl_r g x y v i) = 0 := (nI_b (a := (pl_r g x y v i)) (b := 0) (by omega) (by omega)).2.2.mp c_68
          refine cq_aload_n F (i := 0) dX3_burnToSignal_71 rfl rfl ?_
          refine cq_getT (t := (p + 7)) F (C := RX3) (T := TX3) (N := 4) (ci := 4) hp.kind rfl ⟨⟨by decide, by decide⟩, rfl⟩ inX3 2 (by decide) rfl rfl hp.t2 (F.1.2.2.2.2 _ (List.mem_of_getElem? (l := wsX3_burnToSignal) (i := 2) (a := .fieldLink RX3 20 "CordClock$Plans" "flames" "[[I") (by decide +kernel))) dX3_burnToSignal_72 ?_
          refine cq_iload_n F (i := 1) dX3_burnToSignal_75 rfl rfl ?_
          refine cq_iconst F (v := 1) dX3_burnToSignal_76 rfl ?_
          refine cq_iadd F dX3_burnToSignal_77 ?_
          rw [show (nI s + 1 : Int32) = nI (s + 1) from nI_add _ _]
          have hj_78 : (s + 1) < 4 := (by omega)
          refine cq_aaldA_j F (j := (s + 1)) (t := (p + 8 + (s + 1))) hp.k7 hp.n7 rfl ⟨hj_78, by decide⟩ (hp.rt2 _ hj_78) dX3_burnToSignal_78 ?_
          refine cq_iload F dX3_burnToSignal_79 rfl ?_
          refine cq_iconst F (v := 0) dX3_burnToSignal_81 rfl ?_
          refine cq_iast_j F (j := i) (hp.r2k _ hj_78) (hp.r2n _ hj_78) rfl ⟨(by omega), by decide⟩ dX3_burnToSignal_82 (fun M_82 h_82 => ?_)
          refine cq_iinc F dX3_burnToSignal_83 rfl (by decide) (fun x_83 e_83 => ?_)
          obtain rfl : x_83 = nI (i + 1) := by rw [e_83]; exact nI_1 _
          refine cq_goto F (tgt := 17) dX3_burnToSignal_86 (by decide) ?_
          refine cq_loc (L2 := [(0, .ref p), (1, .int (nI s)), (2, .int (nI (g 0))), (3, .int (nI (g 7 + pl_m g x y v 3))), (4, .int (nI (pl_st g x y v 3))), (5, .int (nI (i + 1)))]) rfl ?_
          refine ih_17 (i + 1) M_82 hne (by omega) ⟨fun j hj => ?_, fun j hj => ?_, fun r r1 r2 => ?_⟩ (by omega)
          · rw [h_82]
            by_cases e : j = i
            · rw [e, cq_up_s, if_pos (by omega), pl_nx_f (by omega), if_neg (by omega)]; rfl
            · rw [cq_up_k e, h_65, cq_up_a (by omega), hI.1 j hj]
              by_cases e2 : j < i
              · rw [if_pos e2, if_pos (by omega)]
              · rw [if_neg e2, if_neg (by omega)]
          · rw [h_82, cq_up_a (by omega), h_65]
            by_cases e : j = i
            · rw [e, cq_up_s, pl_nx_r (by omega)]
            · rw [cq_up_k e]; exact hI.2.1 j (by omega)
          · rw [h_82, cq_up_row r2, h_65, cq_up_row r1]; exact hI.2.2 r r1 r2
  refine cq_aload_n F (i := 0) dX3_burnToSignal_0 rfl rfl ?_
  refine cq_iload_n F (i := 1) dX3_burnToSignal_1 rfl rfl ?_
  refine cq_callV F (C := RX3) (ci := 4) (kX3_stepsToSignal l D cA X Bs p s g x y v 720 M hp (by omega) hst hv hok hfl) (cwV 1 F.1.2.2.2.2 gX3_burnToSignal_X3_stepsToSignal rfl rfl rfl hdVX3_stepsToSignal ⟨Nat.le_of_ble_eq_true rfl, Nat.le_of_ble_eq_true rfl⟩) hp.kind ⟨by decide, by decide⟩ rfl rfl rfl (Nat.le_of_ble_eq_true rfl) dX3_burnToSignal_2 ⟨Nat.le_of_ble_eq_true rfl, Nat.le_of_ble_eq_true rfl⟩ (cq_kIp fun r_2 h_2 => ?_)
  refine cq_nmi (fun x_5 e_5 => ?_)
  refine cq_istore F dX3_burnToSignal_5 (by decide) ?_
  refine cq_iload F dX3_burnToSignal_7 rfl ?_
  refine cq_iconst F (v := (-1)) dX3_burnToSignal_9 rfl ?_
  refine cq_icmp_ne F (tgt := 14) dX3_burnToSignal_10 (by decide) (fun c_10 => ?_) (fun c_10 => ?_)
  · obtain ⟨hne, rfl⟩ : ¬ pl_st g x y v 3 = 0 ∧ x_5 = nI (pl_st g x y v 3) := by
      rw [← e_5] at h_2
      by_cases q : pl_st g x y v 3 = 0
      · rw [if_pos q] at h_2; exact absurd h_2 c_10
      · rw [if_neg q] at h_2; exact ⟨q, h_2⟩
    refine cq_iconst F (v := 0) dX3_burnToSignal_14 rfl ?_
    refine cq_istore F dX3_burnToSignal_15 (by decide) ?_
    refine cq_loc (L2 := [(0, .ref p), (1, .int (nI s)), (2, .int (nI (g 0))), (3, .int (nI (g 7 + pl_m g x y v 3))), (4, .int (nI (pl_st g x y v 3))), (5, .int (nI 0))]) rfl ?_
    exact loop_17 5 0 M hne (by omega) ⟨fun j hj => by rw [if_neg (by omega)]; exact hfl j hj, fun j hj => absurd hj (by omega), fun _ _ _ => rfl⟩ (by omega)
  · have h0 : pl_st g x y v 3 = 0 := by
      by_cases q : pl_st g x y v 3 = 0
      · exact q
      · rw [if_neg q] at h_2; rw [← e_5, c_10] at h_2; exact absurd h_2.symm (nI_m1 (by omega))
    refine cq_vret F hr (by decide) (by decide) dX3_burnToSignal_13 ⟨rfl, ?_⟩
    rw [pl_go_d0 h0]
    exact ⟨hF, pc_fr.rf⟩
abbrev rmX3_try_1 : Room := ({ frames := 3, cells := 0, slots := 0, locals := 72 })
set_option maxHeartbeats 4000000 in
set_option maxRecDepth 100000 in
theorem kX3_try_1 (l : Launch) (D : va_G) (cA : Nat → ClassId) (X : cq_X) (Bs : Nat) (p s : Nat) (g : Nat → Nat) (Y : Nat → Nat) (M : cq_M) (hp : cq_isPlans X p) (hs : s = 2) (hst : pc_st M p s g) (hok : pl_ok g 720) (hF : pc_F M p Y) (hb : ∀ t, Y t ≤ 1080) : cq_C l yX3_tryAll wsX3_tryAll rmX3_try_1 D cA X Bs [.ref p, .int (nI s), .int (nI (g 0)), .int (nI (g 7))] M (cq_PV (fun M1 => pc_F M1 p (List.foldl pl_note Y (pl_dfs 1 g)) ∧ pc_fr M M1 p s)) 0 0 := by
  refine cq_met (cc := cX3_tryAll) (maxL := 7) (ret := none) (by decide) rfl (Nat.le_of_ble_eq_true rfl) [(0, .ref p), (1, .int (nI s)), (2, .int (nI (g 0))), (3, .int (nI (g 7)))] rfl rfl ?_
  intro p9 e9 s9 m9 b9 t9 c9 F hr
  have inX3 : ∀ w ∈ wsX30, w ∈ wsX3_tryAll := (fun w h => List.mem_cons_of_mem _ (List.mem_append_right _ h))
  have hg4 : g 4 ≤ 2 := (hok.2.1 0 (by omega)).2.1
  have hg5 : g 5 ≤ 2 := (hok.2.1 1 (by omega)).2.1
  have hg6 : g 6 ≤ 2 := (hok.2.1 2 (by omega)).2.1
  have hg1 : g 1 ≤ 360 := (hok.2.1 0 (by omega)).1
  have hg2 : g 2 ≤ 360 := (hok.2.1 1 (by omega)).1
  have hg3 : g 3 ≤ 360 := (hok.2.1 2 (by omega)).1
  have hg0 := hok.1
  have hg7 := hok.2.2.1
  obtain ⟨m0, e_m0⟩ : ∃ v, v = (if 0 < g 1 then 2 else 0) := ⟨_, rfl⟩
  have hm0 : pl_n g 0 = m0 + 1 - g 4 := by rw [e_m0]; show (if 0 < g 1 then 3 else 1) - g 4 = _; split <;> omega
  have hq0 : m0 ≤ 2 := by rw [e_m0]; split <;> omega
  obtain ⟨m1, e_m1⟩ : ∃ v, v = (if 0 < g 2 then 2 else 0) := ⟨_, rfl⟩
  have hm1 : pl_n g 1 = m1 + 1 - g 5 := by rw [e_m1]; show (if 0 < g 2 then 3 else 1) - g 5 = _; split <;> omega
  have hq1 : m1 ≤ 2 := by rw [e_m1]; split <;> omega
  obtain ⟨m2, e_m2⟩ : ∃ v, v = (if 0 < g 3 then 2 else 0) := ⟨_, rfl⟩
  have hm2 : pl_n g 2 = m2 + 1 - g 6 := by rw [e_m2]; show (if 0 < g 3 then 3 else 1) - g 6 = _; split <;> omega
  have hq2 : m2 ≤ 2 := by rw [e_m2]; split <;> omega
  have loop_20 : ∀ (n_20 : Nat) (i : Nat) (M2 : cq_M), i ≤ pl_n g 0 → pc_F M2 p (List.foldl pl_note Y (pl_d 0 (pl_a g i))) → (∀ t, List.foldl pl_note Y (pl_d 0 (pl_a g i)) t ≤ 1080) → pc_fr M M2 p s → pl_n g 0 + 1 - i < n_20 → cq_V p9 l e9 rmX3_try_1 s9 m9 ([.ref p, .int (nI s), .int (nI (g 0)), .int (nI (g 7))] : List Value).toArray b9 t9 c9 D cA X Bs 7 0 0 (MQ b9 (cq_Q D cA X Bs (cq_PV (fun M1 => pc_F M1 p (List.foldl pl_note Y (pl_dfs 1 g)) ∧ pc_fr M M1 p s))) ([.ref p, .int (nI s), .int (nI (g 0)), .int (nI (g 7))] : List Value).toArray s9 0 0 (cq_A Bs)) 20 [(0, .ref p), (1, .int (nI s)), (2, .int (nI (g 0))), (3, .int (nI (g 7))), (4, .int (nI (g 4 + i)))] [] M2 := by
    intro n_20
    induction n_20 with
    | zero =>
      intros
      omega
    | succ n_20 ih_20 =>
      intro i M2 hi hFa hba hfa hn
      have loop_41 : ∀ (n_41 : Nat) (j : Nat) (M3 : cq_M), i < pl_n g 0 → j ≤ pl_n g 1 → pc_F M3 p (List.foldl pl_note Y (pl_d 0 (pl_a g i ++ pl_b g (g 4 + i) j))) → (∀ t, List.foldl pl_note Y (pl_d 0 (pl_a g i ++ pl_b g (g 4 + i) j)) t ≤ 1080) → pc_fr M M3 p s → pl_n g 1 + 1 - j < n_41 → cq_V p9 l e9 rmX3_try_1 s9 m9 ([.ref p, .int (nI s), .int (nI (g 0)), .int (nI (g 7))] : List Value).toArray b9 t9 c9 D cA X Bs 7 0 0 (MQ b9 (cq_Q D cA X Bs (cq_PV (fun M1 => pc_F M1 p (List.foldl pl_note Y (pl_dfs 1 g)) ∧ pc_fr M M1 p s))) ([.ref p, .int (nI s), .int (nI (g 0)), .int (nI (g 7))] : List Value).toArray s9 0 0 (cq_A Bs)) 41 [(0, .ref p), (1, .int (nI s)), (2, .int (nI (g 0))), (3, .int (nI (g 7))), (4, .int (nI (g 4 + i))), (5, .int (nI (g 5 + j)))] [] M3 := by
        intro n_41
        induction n_41 with
        | zero =>
          intros
          omega
        | succ n_41 ih_41 =>
          intro j M3 hi0 hj hFb hbb hfb hn
          have loop_62 : ∀ (n_62 : Nat) (k : Nat) (M4 : cq_M), j < pl_n g 1 → k ≤ pl_n g 2 → pc_F M4 p (List.foldl pl_note Y (pl_d 0 (pl_a g i ++ (pl_b g (g 4 + i) j ++ pl_c g (g 4 + i) (g 5 + j) k)))) → (∀ t, List.foldl pl_note Y (pl_d 0 (pl_a g i ++ (pl_b g (g 4 + i) j ++ pl_c g (g 4 + i) (g 5 + j) k))) t ≤ 1080) → pc_fr M M4 p s → pl_n g 2 + 1 - k < n_62 → cq_V p9 l e9 rmX3_try_1 s9 m9 ([.ref p, .int (nI s), .int (nI (g 0)), .int (nI (g 7))] : List Value).toArray b9 t9 c9 D cA X Bs 7 0 0 (MQ b9 (cq_Q D cA X Bs (cq_PV (fun M1 => pc_F M1 p (List.foldl pl_note Y (pl_dfs 1 g)) ∧ pc_fr M M1 p s))) ([.ref p, .int (nI s), .int (nI (g 0)), .int (nI (g 7))] : List Value).toArray s9 0 0 (cq_A Bs)) 62 [(0, .ref p), (1, .int (nI s)), (2, .int (nI (g 0))), (3, .int (nI (g 7))), (4, .int (nI (g 4 + i))), (5, .int (nI (g 5 + j))), (6, .int (nI (g 6 + k)))] [] M4 := by
            intro n_62
            induction n_62 with
            | zero =>
              intros
              omega
            | succ n_62 ih_62 =>
              intro k M4 hj1 hk hFc hbc hfc hn
              refine cq_iload F dX3_tryAll_62 rfl ?_
              refine cq_aload_n F (i := 0) dX3_tryAll_64 rfl rfl ?_
              refine cq_iload_n F (i := 1) dX3_tryAll_65 rfl rfl ?_
              refine cq_iconst F (v := 2) dX3_tryAll_66 rfl ?_
              refine cq_callV F (C := RX3) (ci := 4) (kX3_mostFlames l D cA X Bs p s g 2 M4 hp (by omega) (hst.fr hfc (by omega)) (by omega) (by show g 3 < 1000; omega)) (cwV 2 F.1.2.2.2.2 gX3_tryAll_X3_mostFlames rfl rfl rfl hdVX3_mostFlames ⟨Nat.le_of_ble_eq_true rfl, Nat.le_of_ble_eq_true rfl⟩) hp.kind ⟨by decide, by decide⟩ rfl rfl rfl (Nat.le_of_ble_eq_true rfl) dX3_tryAll_67 ⟨Nat.le_of_ble_eq_true rfl, Nat.le_of_ble_eq_true rfl⟩ (cq_kIp fun r_67 h_67 => ?_)
              rw [show (if 0 < g (1 + 2) then 2 else 0) = m2 from e_m2.symm] at h_67
              subst h_67
              refine cq_icmp_gt F (tgt := 128) dX3_tryAll_70 (by decide) (fun c_70 => ?_) (fun c_70 => ?_)
              · have c_70 : m2 < (g 6 + k) := (nI_b (a := m2) (b := (g 6 + k)) (by omega) (by omega)).2.1.mp c_70
                obtain rfl : k = pl_n g 2 := by omega
                refine cq_iinc F dX3_tryAll_128 rfl (by decide) (fun x_128 e_128 => ?_)
                obtain rfl : x_128 = nI ((g 5 + j) + 1) := by rw [e_128]; exact nI_1 _
                refine cq_goto F (tgt := 41) dX3_tryAll_131 (by decide) ?_
                refine cq_loc (L2 := [(0, .ref p), (1, .int (nI s)), (2, .int (nI (g 0))), (3, .int (nI (g 7))), (4, .int (nI (g 4 + i))), (5, .int (nI (g 5 + (j + 1))))]) rfl ?_
                exact ih_41 (j + 1) M4 hi0 (by omega) hFc hbc hfc (by omega)
              · have c_70 : ¬ m2 < (g 6 + k) := fun z => c_70 ((nI_b (a := m2) (b := (g 6 + k)) (by omega) (by omega)).2.1.mpr z)
                have hk2 : k < pl_n g 2 := by omega
                have hv9 := pl_v_of hok hi0 hj1 hk2
                have hmm9 := pl_m_le hv9 3 (by omega)
                refine cq_aload_n F (i := 0) dX3_tryAll_73 rfl rfl ?_
                refine cq_getT (t := (p + 7)) F (C := RX3) (T := TX3) (N := 4) (ci := 4) hp.kind rfl ⟨⟨by decide, by decide⟩, rfl⟩ inX3 2 (by decide) rfl rfl hp.t2 (F.1.2.2.2.2 _ (List.mem_of_getElem? (l := wsX3_tryAll) (i := 1) (a := .fieldLink RX3 20 "CordClock$Plans" "flames" "[[I") (by decide +kernel))) dX3_tryAll_74 ?_
                refine cq_iload_n F (i := 1) dX3_tryAll_77 rfl rfl ?_
                refine cq_iconst F (v := 1) dX3_tryAll_78 rfl ?_
                refine cq_iadd F dX3_tryAll_79 ?_
                rw [show (nI s + 1 : Int32) = nI (s + 1) from nI_add _ _]
                have hj_80 : (s + 1) < 4 := (by omega)
                refine cq_aaldA_j F (j := (s + 1)) (t := (p + 8 + (s + 1))) hp.k7 hp.n7 rfl ⟨hj_80, by decide⟩ (hp.rt2 _ hj_80) dX3_tryAll_80 ?_
                refine cq_iconst F (v := 0) dX3_tryAll_81 rfl ?_
                refine cq_iload F dX3_tryAll_82 rfl ?_
                refine cq_iast_j F (j := 0) (hp.r2k _ hj_80) (hp.r2n _ hj_80) rfl ⟨(by omega), by decide⟩ dX3_tryAll_84 (fun M_84 h_84 => ?_)
                refine cq_aload_n F (i := 0) dX3_tryAll_85 rfl rfl ?_
                refine cq_getT (t := (p + 7)) F (C := RX3) (T := TX3) (N := 4) (ci := 4) hp.kind rfl ⟨⟨by decide, by decide⟩, rfl⟩ inX3 2 (by decide) rfl rfl hp.t2 (F.1.2.2.2.2 _ (List.mem_of_getElem? (l := wsX3_tryAll) (i := 1) (a := .fieldLink RX3 20 "CordClock$Plans" "flames" "[[I") (by decide +kernel))) dX3_tryAll_86 ?_
                refine cq_iload_n F (i := 1) dX3_tryAll_89 rfl rfl ?_
                refine cq_iconst F (v := 1) dX3_tryAll_90 rfl ?_
                refine cq_iadd F dX3_tryAll_91 ?_
                rw [show (nI s + 1 : Int32) = nI (s + 1) from nI_add _ _]
                have hj_92 : (s + 1) < 4 := (by omega)
                refine cq_aaldA_j F (j := (s + 1)) (t := (p + 8 + (s + 1))) hp.k7 hp.n7 rfl ⟨hj_92, by decide⟩ (hp.rt2 _ hj_92) dX3_tryAll_92 ?_
                refine cq_iconst F (v := 1) dX3_tryAll_93 rfl ?_
                refine cq_iload F dX3_tryAll_94 rfl ?_
                refine cq_iast_j F (j := 1) (hp.r2k _ hj_92) (hp.r2n _ hj_92) rfl ⟨(by omega), by decide⟩ dX3_tryAll_96 (fun M_96 h_96 => ?_)
                refine cq_aload_n F (i := 0) dX3_tryAll_97 rfl rfl ?_
                refine cq_getT (t := (p + 7)) F (C := RX3) (T := TX3) (N := 4) (ci := 4) hp.kind rfl ⟨⟨by decide, by decide⟩, rfl⟩ inX3 2 (by decide) rfl rfl hp.t2 (F.1.2.2.2.2 _ (List.mem_of_getElem? (l := wsX3_tryAll) (i := 1) (a := .fieldLink RX3 20 "CordClock$Plans" "flames" "[[I") (by decide +kernel))) dX3_tryAll_98 ?_
                refine cq_iload_n F (i := 1) dX3_tryAll_101 rfl rfl ?_
                refine cq_iconst F (v := 1) dX3_tryAll_102 rfl ?_
                refine cq_iadd F dX3_tryAll_103 ?_
                rw [show (nI s + 1 : Int32) = nI (s + 1) from nI_add _ _]
                have hj_104 : (s + 1) < 4 := (by omega)
                refine cq_aaldA_j F (j := (s + 1)) (t := (p + 8 + (s + 1))) hp.k7 hp.n7 rfl ⟨hj_104, by decide⟩ (hp.rt2 _ hj_104) dX3_tryAll_104 ?_
                refine cq_iconst F (v := 2) dX3_tryAll_105 rfl ?_
                refine cq_iload F dX3_tryAll_106 rfl ?_
                refine cq_iast_j F (j := 2) (hp.r2k _ hj_104) (hp.r2n _ hj_104) rfl ⟨(by omega), by decide⟩ dX3_tryAll_108 (fun M_108 h_108 => ?_)
                have hst9 : pc_st M_108 p s g := fun q hq => by rw [h_108, h_96, h_84, cq_up_row (by omega), cq_up_row (by omega), cq_up_row (by omega), cq_up_row (by omega), cq_up_row (by omega), cq_up_row (by omega)]; exact (hst.fr hfc (by omega)) q hq
                have hfl9 : pc_fl M_108 p (s + 1) (g 4 + i) (g 5 + j) (g 6 + k) := fun q hq => by
                  have h9 : q = 0 ∨ q = 1 ∨ q = 2 := by omega
                  rcases h9 with rfl | rfl | rfl
                  · rw [h_108, cq_up_k (by omega), h_96, cq_up_k (by omega), h_84]; exact cq_up_s _ _ _ _
                  · rw [h_108, cq_up_k (by omega), h_96]; exact cq_up_s _ _ _ _
                  · rw [h_108]; exact cq_up_s _ _ _ _
                have hF9 : pc_F M_108 p (List.foldl pl_note Y (pl_d 0 (pl_a g i ++ (pl_b g (g 4 + i) j ++ pl_c g (g 4 + i) (g 5 + j) k)))) := fun q hq => by rw [h_108, h_96, h_84, cq_up_row (by omega), cq_up_row (by omega), cq_up_row (by omega)]; exact hFc q hq
                have hfr9 : pc_fr M M_108 p s := fun r r1 r2 r3 => by rw [h_108, h_96, h_84, cq_up_row (by omega), cq_up_row (by omega), cq_up_row (by omega)]; exact hfc r r1 r2 r3
                refine cq_aload_n F (i := 0) dX3_tryAll_109 rfl rfl ?_
                refine cq_iload_n F (i := 1) dX3_tryAll_110 rfl rfl ?_
                refine cq_iload_n F (i := 2) dX3_tryAll_111 rfl rfl ?_
                refine cq_iload_n F (i := 3) dX3_tryAll_112 rfl rfl ?_
                refine cq_aload_n F (i := 0) dX3_tryAll_113 rfl rfl ?_
                refine cq_iload_n F (i := 1) dX3_tryAll_114 rfl rfl ?_
                refine cq_callV F (C := RX3) (ci := 4) (kX3_newFlames l D cA X Bs p s g (g 4 + i) (g 5 + j) (g 6 + k) 720 M_108 hp (by omega) hst9 hv9 hok hfl9) (cwV 1 F.1.2.2.2.2 gX3_tryAll_X3_newFlames rfl rfl rfl hdVX3_newFlames ⟨Nat.le_of_ble_eq_true rfl, Nat.le_of_ble_eq_true rfl⟩) hp.kind ⟨by decide, by decide⟩ rfl rfl rfl (Nat.le_of_ble_eq_true rfl) dX3_tryAll_115 ⟨Nat.le_of_ble_eq_true rfl, Nat.le_of_ble_eq_true rfl⟩ (cq_kIp fun r_115 h_115 => ?_)
                subst h_115
                refine cq_iadd F dX3_tryAll_118 ?_
                rw [show (nI (g 7) + nI (pl_m g (g 4 + i) (g 5 + j) (g 6 + k) 3) : Int32) = nI ((g 7) + (pl_m g (g 4 + i) (g 5 + j) (g 6 + k) 3)) from nI_add _ _]
                refine cq_callV F (C := RX3) (ci := 4) (kX3_burn_0 l D cA X Bs p s g (g 4 + i) (g 5 + j) (g 6 + k) (List.foldl pl_note Y (pl_d 0 (pl_a g i ++ (pl_b g (g 4 + i) j ++ pl_c g (g 4 + i) (g 5 + j) k)))) M_108 hp (by omega) hst9 hv9 hok hfl9 hF9 hbc) (cwV 3 F.1.2.2.2.2 gX3_tryAll_X3_burnToSignal rfl rfl rfl hdVX3_burnToSignal ⟨Nat.le_of_ble_eq_true rfl, Nat.le_of_ble_eq_true rfl⟩) hp.kind ⟨by decide, by decide⟩ rfl rfl rfl (Nat.le_of_ble_eq_true rfl) dX3_tryAll_119 ⟨Nat.le_of_ble_eq_true rfl, Nat.le_of_ble_eq_true rfl⟩ (cq_kV fun M_119 h_119 => ?_)
                refine cq_iinc F dX3_tryAll_122 rfl (by decide) (fun x_122 e_122 => ?_)
                obtain rfl : x_122 = nI ((g 6 + k) + 1) := by rw [e_122]; exact nI_1 _
                refine cq_goto F (tgt := 62) dX3_tryAll_125 (by decide) ?_
                refine cq_loc (L2 := [(0, .ref p), (1, .int (nI s)), (2, .int (nI (g 0))), (3, .int (nI (g 7))), (4, .int (nI (g 4 + i))), (5, .int (nI (g 5 + j))), (6, .int (nI (g 6 + (k + 1))))]) rfl ?_
                exact ih_62 (k + 1) M_119 hj1 (by omega) (by
                    rw [show (pl_a g i ++ (pl_b g (g 4 + i) j ++ pl_c g (g 4 + i) (g 5 + j) (k + 1))) = (pl_a g i ++ (pl_b g (g 4 + i) j ++ pl_c g (g 4 + i) (g 5 + j) k)) ++ pl_go g (g 4 + i) (g 5 + j) (g 6 + k) by rw [pl_c, List.append_assoc, List.append_assoc], pl_d_app, List.foldl_append]
                    exact h_119.1) (by
                    rw [show (pl_a g i ++ (pl_b g (g 4 + i) j ++ pl_c g (g 4 + i) (g 5 + j) (k + 1))) = (pl_a g i ++ (pl_b g (g 4 + i) j ++ pl_c g (g 4 + i) (g 5 + j) k)) ++ pl_go g (g 4 + i) (g 5 + j) (g 6 + k) by rw [pl_c, List.append_assoc, List.append_assoc], pl_d_app, List.foldl_append]
                    exact pl_fold_le hbc (fun q hq => pl_go_d7 hok hv9 (by omega) hq)) (hfr9.trans h_119.2) (by omega)
          refine cq_iload F dX3_tryAll_41 rfl ?_
          refine cq_aload_n F (i := 0) dX3_tryAll_43 rfl rfl ?_
          refine cq_iload_n F (i := 1) dX3_tryAll_44 rfl rfl ?_
          refine cq_iconst F (v := 1) dX3_tryAll_45 rfl ?_
          refine cq_callV F (C := RX3) (ci := 4) (kX3_mostFlames l D cA X Bs p s g 1 M3 hp (by omega) (hst.fr hfb (by omega)) (by omega) (by show g 2 < 1000; omega)) (cwV 2 F.1.2.2.2.2 gX3_tryAll_X3_mostFlames rfl rfl rfl hdVX3_mostFlames ⟨Nat.le_of_ble_eq_true rfl, Nat.le_of_ble_eq_true rfl⟩) hp.kind ⟨by decide, by decide⟩ rfl rfl rfl (Nat.le_of_ble_eq_true rfl) dX3_tryAll_46 ⟨Nat.le_of_ble_eq_true rfl, Nat.le_of_ble_eq_true rfl⟩ (cq_kIp fun r_46 h_46 => ?_)
          rw [show (if 0 < g (1 + 1) then 2 else 0) = m1 from e_m1.symm] at h_46
          subst h_46
          refine cq_icmp_gt F (tgt := 134) dX3_tryAll_49 (by decide) (fun c_49 => ?_) (fun c_49 => ?_)
          · have c_49 : m1 < (g 5 + j) := (nI_b (a := m1) (b := (g 5 + j)) (by omega) (by omega)).2.1.mp c_49
            obtain rfl : j = pl_n g 1 := by omega
            refine cq_iinc F dX3_tryAll_134 rfl (by decide) (fun x_134 e_134 => ?_)
            obtain rfl : x_134 = nI ((g 4 + i) + 1) := by rw [e_134]; exact nI_1 _
            refine cq_goto F (tgt := 20) dX3_tryAll_137 (by decide) ?_
            refine cq_loc (L2 := [(0, .ref p), (1, .int (nI s)), (2, .int (nI (g 0))), (3, .int (nI (g 7))), (4, .int (nI (g 4 + (i + 1))))]) rfl ?_
            exact ih_20 (i + 1) M3 (by omega) hFb hbb hfb (by omega)
          · have c_49 : ¬ m1 < (g 5 + j) := fun z => c_49 ((nI_b (a := m1) (b := (g 5 + j)) (by omega) (by omega)).2.1.mpr z)
            have hj1 : j < pl_n g 1 := by omega
            refine cq_aload_n F (i := 0) dX3_tryAll_52 rfl rfl ?_
            refine cq_getT (t := (p + 7)) F (C := RX3) (T := TX3) (N := 4) (ci := 4) hp.kind rfl ⟨⟨by decide, by decide⟩, rfl⟩ inX3 2 (by decide) rfl rfl hp.t2 (F.1.2.2.2.2 _ (List.mem_of_getElem? (l := wsX3_tryAll) (i := 1) (a := .fieldLink RX3 20 "CordClock$Plans" "flames" "[[I") (by decide +kernel))) dX3_tryAll_53 ?_
            refine cq_iload_n F (i := 1) dX3_tryAll_56 rfl rfl ?_
            have hj_57 : s < 4 := (by omega)
            refine cq_aaldA_j F (j := s) (t := (p + 8 + s)) hp.k7 hp.n7 rfl ⟨hj_57, by decide⟩ (hp.rt2 _ hj_57) dX3_tryAll_57 ?_
            refine cq_iconst F (v := 2) dX3_tryAll_58 rfl ?_
            refine cq_iald_j F (j := 2) (hp.r2k _ hj_57) (hp.r2n _ hj_57) rfl ⟨(by omega), by decide⟩ dX3_tryAll_59 ?_
            rw [(show M3 (p + 8 + s) 2 = nI (g 6) from ((hst.fr hfb (by omega)) 2 (by omega)).2)]
            refine cq_istore F dX3_tryAll_60 (by decide) ?_
            refine cq_loc (L2 := [(0, .ref p), (1, .int (nI s)), (2, .int (nI (g 0))), (3, .int (nI (g 7))), (4, .int (nI (g 4 + i))), (5, .int (nI (g 5 + j))), (6, .int (nI (g 6 + 0)))]) rfl ?_
            exact loop_62 (pl_n g 2 + 2) 0 M3 hj1 (Nat.zero_le _) (by rw [show pl_b g (g 4 + i) j ++ pl_c g (g 4 + i) (g 5 + j) 0 = pl_b g (g 4 + i) j from List.append_nil _]; exact hFb) (by rw [show pl_b g (g 4 + i) j ++ pl_c g (g 4 + i) (g 5 + j) 0 = pl_b g (g 4 + i) j from List.append_nil _]; exact hbb) hfb (by omega)
      refine cq_iload F dX3_tryAll_20 rfl ?_
      refine cq_aload_n F (i := 0) dX3_tryAll_22 rfl rfl ?_
      refine cq_iload_n F (i := 1) dX3_tryAll_23 rfl rfl ?_
      refine cq_iconst F (v := 0) dX3_tryAll_24 rfl ?_
      refine cq_callV F (C := RX3) (ci := 4) (kX3_mostFlames l D cA X Bs p s g 0 M2 hp (by omega) (hst.fr hfa (by omega)) (by omega) (by show g 1 < 1000; omega)) (cwV 2 F.1.2.2.2.2 gX3_tryAll_X3_mostFlames rfl rfl rfl hdVX3_mostFlames ⟨Nat.le_of_ble_eq_true rfl, Nat.le_of_ble_eq_true rfl⟩) hp.kind ⟨by decide, by decide⟩ rfl rfl rfl (Nat.le_of_ble_eq_true rfl) dX3_tryAll_25 ⟨Nat.le_of_ble_eq_true rfl, Nat.le_of_ble_eq_true rfl⟩ (cq_kIp fun r_25 h_25 => ?_)
      rw [show (if 0 < g (1 + 0) then 2 else 0) = m0 from e_m0.symm] at h_25
      subst h_25
      refine cq_icmp_gt F (tgt := 140) dX3_tryAll_28 (by decide) (fun c_28 => ?_) (fun c_28 => ?_)
      · have c_28 : m0 < (g 4 + i) := (nI_b (a := m0) (b := (g 4 + i)) (by omega) (by omega)).2.1.mp c_28
        obtain rfl : i = pl_n g 0 := by omega
        exact cq_vret F hr (by decide) (by decide) dX3_tryAll_140 ⟨rfl, ⟨hFa, hfa⟩⟩
      · have c_28 : ¬ m0 < (g 4 + i) := fun z => c_28 ((nI_b (a := m0) (b := (g 4 + i)) (by omega) (by omega)).2.1.mpr z)
        have hi0 : i < pl_n g 0 := by omega
        refine cq_aload_n F (i := 0) dX3_tryAll_31 rfl rfl ?_
        refine cq_getT (t := (p + 7)) F (C := RX3) (T := TX3) (N := 4) (ci := 4) hp.kind rfl ⟨⟨by decide, by decide⟩, rfl⟩ inX3 2 (by decide) rfl rfl hp.t2 (F.1.2.2.2.2 _ (List.mem_of_getElem? (l := wsX3_tryAll) (i := 1) (a := .fieldLink RX3 20 "CordClock$Plans" "flames" "[[I") (by decide +kernel))) dX3_tryAll_32 ?_
        refine cq_iload_n F (i := 1) dX3_tryAll_35 rfl rfl ?_
        have hj_36 : s < 4 := (by omega)
        refine cq_aaldA_j F (j := s) (t := (p + 8 + s)) hp.k7 hp.n7 rfl ⟨hj_36, by decide⟩ (hp.rt2 _ hj_36) dX3_tryAll_36 ?_
        refine cq_iconst F (v := 1) dX3_tryAll_37 rfl ?_
        refine cq_iald_j F (j := 1) (hp.r2k _ hj_36) (hp.r2n _ hj_36) rfl ⟨(by omega), by decide⟩ dX3_tryAll_38 ?_
        rw [(show M2 (p + 8 + s) 1 = nI (g 5) from ((hst.fr hfa (by omega)) 1 (by omega)).2)]
        refine cq_istore F dX3_tryAll_39 (by decide) ?_
        refine cq_loc (L2 := [(0, .ref p), (1, .int (nI s)), (2, .int (nI (g 0))), (3, .int (nI (g 7))), (4, .int (nI (g 4 + i))), (5, .int (nI (g 5 + 0)))]) rfl ?_
        exact loop_41 (pl_n g 1 + 2) 0 M2 hi0 (Nat.zero_le _) (by rw [show pl_a g i ++ pl_b g (g 4 + i) 0 = pl_a g i from List.append_nil _]; exact hFa) (by rw [show pl_a g i ++ pl_b g (g 4 + i) 0 = pl_a g i from List.append_nil _]; exact hba) hfa (by omega)
  refine cq_iload_n F (i := 1) dX3_tryAll_0 rfl rfl ?_
  refine cq_if_lt F (tgt := 9) dX3_tryAll_1 (by decide) (fun c_1 => ?_) (fun c_1 => ?_)
  · have c_1 : s < 0 := (nI_b (a := s) (b := 0) (by omega) (by omega)).2.1.mp c_1
    omega
  · have c_1 : ¬ s < 0 := fun z => c_1 ((nI_b (a := s) (b := 0) (by omega) (by omega)).2.1.mpr z)
    refine cq_iload_n F (i := 1) dX3_tryAll_4 rfl rfl ?_
    refine cq_iconst F (v := 3) dX3_tryAll_5 rfl ?_
    refine cq_icmp_lt F (tgt := 10) dX3_tryAll_6 (by decide) (fun c_6 => ?_) (fun c_6 => ?_)
    · have c_6 : s < 3 := (nI_b (a := s) (b := 3) (by omega) (by omega)).2.1.mp c_6
      refine cq_aload_n F (i := 0) dX3_tryAll_10 rfl rfl ?_
      refine cq_getT (t := (p + 7)) F (C := RX3) (T := TX3) (N := 4) (ci := 4) hp.kind rfl ⟨⟨by decide, by decide⟩, rfl⟩ inX3 2 (by decide) rfl rfl hp.t2 (F.1.2.2.2.2 _ (List.mem_of_getElem? (l := wsX3_tryAll) (i := 1) (a := .fieldLink RX3 20 "CordClock$Plans" "flames" "[[I") (by decide +kernel))) dX3_tryAll_11 ?_
      refine cq_iload_n F (i := 1) dX3_tryAll_14 rfl rfl ?_
      have hj_15 : s < 4 := (by omega)
      refine cq_aaldA_j F (j := s) (t := (p + 8 + s)) hp.k7 hp.n7 rfl ⟨hj_15, by decide⟩ (hp.rt2 _ hj_15) dX3_tryAll_15 ?_
      refine cq_iconst F (v := 0) dX3_tryAll_16 rfl ?_
      refine cq_iald_j F (j := 0) (hp.r2k _ hj_15) (hp.r2n _ hj_15) rfl ⟨(by omega), by decide⟩ dX3_tryAll_17 ?_
      rw [(show M (p + 8 + s) 0 = nI (g 4) from ((hst.fr pc_fr.rf (by omega)) 0 (by omega)).2)]
      refine cq_istore F dX3_tryAll_18 (by decide) ?_
      refine cq_loc (L2 := [(0, .ref p), (1, .int (nI s)), (2, .int (nI (g 0))), (3, .int (nI (g 7))), (4, .int (nI (g 4 + 0)))]) rfl ?_
      exact loop_20 (pl_n g 0 + 2) 0 M (Nat.zero_le _) hF hb pc_fr.rf (by omega)
    · have c_6 : ¬ s < 3 := fun z => c_6 ((nI_b (a := s) (b := 3) (by omega) (by omega)).2.1.mpr z)
      omega
abbrev rmX3_burn_1 : Room := ({ frames := 4, cells := 0, slots := 0, locals := 98 })
set_option maxHeartbeats 4000000 in
set_option maxRecDepth 100000 in
theorem kX3_burn_1 (l : Launch) (D : va_G) (cA : Nat → ClassId) (X : cq_X) (Bs : Nat) (p s : Nat) (g : Nat → Nat) (x y v : Nat) (Y : Nat → Nat) (M : cq_M) (hp : cq_isPlans X p) (hs : s = 1) (hst : pc_st M p s g) (hv : pl_v g x y v) (hok : pl_ok g 360) (hfl : pc_fl M p (s + 1) x y v) (hF : pc_F M p Y) (hb : ∀ t, Y t ≤ 1080) : cq_C l yX3_burnToSignal wsX3_burnToSignal rmX3_burn_1 D cA X Bs [.ref p, .int (nI s), .int (nI (g 0)), .int (nI (g 7 + pl_m g x y v 3))] M (cq_PV (fun M1 => pc_F M1 p (List.foldl pl_note Y (pl_d 1 (pl_go g x y v))) ∧ pc_fr M M1 p s)) 0 0 := by
  refine cq_met (cc := cX3_burnToSignal) (maxL := 7) (ret := none) (by decide) rfl (Nat.le_of_ble_eq_true rfl) [(0, .ref p), (1, .int (nI s)), (2, .int (nI (g 0))), (3, .int (nI (g 7 + pl_m g x y v 3)))] rfl rfl ?_
  intro p9 e9 s9 m9 b9 t9 c9 F hr
  have inX3 : ∀ w ∈ wsX30, w ∈ wsX3_burnToSignal := (fun w h => List.mem_cons_of_mem _ (List.mem_append_right _ h))
  have hst9 := pl_st_le hok hv 3 (by omega)
  have hm9 := pl_m_le hv 3 (by omega)
  have hg0 := hok.1
  have hg7 := hok.2.2.1
  have loop_17 : ∀ (n_17 : Nat) (i : Nat) (M2 : cq_M), ¬ pl_st g x y v 3 = 0 → i ≤ 3 → ((∀ j, j < 3 → M2 (p + 8 + (s + 1)) j = nI (if j < i then pl_nx g x y v (4 + j) else pl_f x y v j)) ∧ (∀ j, j < i → M2 (p + 3 + (s + 1)) j = nI (pl_nx g x y v (1 + j))) ∧ ∀ r, r ≠ p + 3 + (s + 1) → r ≠ p + 8 + (s + 1) → M2 r = M r) → 4 - i < n_17 → cq_V p9 l e9 rmX3_burn_1 s9 m9 ([.ref p, .int (nI s), .int (nI (g 0)), .int (nI (g 7 + pl_m g x y v 3))] : List Value).toArray b9 t9 c9 D cA X Bs 7 0 0 (MQ b9 (cq_Q D cA X Bs (cq_PV (fun M1 => pc_F M1 p (List.foldl pl_note Y (pl_d 1 (pl_go g x y v))) ∧ pc_fr M M1 p s))) ([.ref p, .int (nI s), .int (nI (g 0)), .int (nI (g 7 + pl_m g x y v 3))] : List Value).toArray s9 0 0 (cq_A Bs)) 17 [(0, .ref p), (1, .int (nI s)), (2, .int (nI (g 0))), (3, .int (nI (g 7 + pl_m g x y v 3))), (4, .int (nI (pl_st g x y v 3))), (5, .int (nI i))] [] M2 := by
    intro n_17
    induction n_17 with
    | zero =>
      intros
      omega
    | succ n_17 ih_17 =>
      intro i M2 hne hi3 hI hn
      have hvi : i < 3 → g (4 + i) ≤ pl_f x y v i ∧ pl_f x y v i ≤ 2 ∧ (g (1 + i) = 0 → pl_f x y v i = 0) := fun q => hv i q
      have hgi : i < 3 → g (1 + i) ≤ 360 := fun q => (hok.2.1 i q).1
      refine cq_iload F dX3_burnToSignal_17 rfl ?_
      refine cq_iconst F (v := 3) dX3_burnToSignal_19 rfl ?_
      refine cq_icmp_ge F (tgt := 89) dX3_burnToSignal_20 (by decide) (fun c_20 => ?_) (fun c_20 => ?_)
      · have c_20 : 3 ≤ i := (nI_b (a := 3) (b := i) (by omega) (by omega)).1.mp c_20
        obtain rfl : i = 3 := by omega
        refine cq_aload_n F (i := 0) dX3_burnToSignal_89 rfl rfl ?_
        refine cq_iload_n F (i := 2) dX3_burnToSignal_90 rfl rfl ?_
        refine cq_iload F dX3_burnToSignal_91 rfl ?_
        refine cq_iadd F dX3_burnToSignal_93 ?_
        rw [show (nI (g 0) + nI (pl_st g x y v 3) : Int32) = nI ((g 0) + (pl_st g x y v 3)) from nI_add _ _]
        refine cq_iload_n F (i := 3) dX3_burnToSignal_94 rfl rfl ?_
        have hok2 := pl_nx_ok hok hv hne
        refine cq_callV F (C := RX3) (ci := 4) (kX3_noteTold l D cA X Bs p (g 0 + pl_st g x y v 3) (g 7 + pl_m g x y v 3) Y M2 hp (by omega) ⟨by have := pl_nx_lit hok hne; rw [pl_nx_7] at this; exact this, by omega⟩ (fun j hj => by rw [hI.2.2 _ (by omega) (by omega)]; exact hF j hj) (hb _)) (cwV 2 F.1.2.2.2.2 gX3_burnToSignal_X3_noteTold rfl rfl rfl hdVX3_noteTold ⟨Nat.le_of_ble_eq_true rfl, Nat.le_of_ble_eq_true rfl⟩) hp.kind ⟨by decide, by decide⟩ rfl rfl rfl (Nat.le_of_ble_eq_true rfl) dX3_burnToSignal_95 ⟨Nat.le_of_ble_eq_true rfl, Nat.le_of_ble_eq_true rfl⟩ (cq_kV fun M_95 h_95 => ?_)
        have hst2 : pc_st M_95 p (s + 1) (pl_nx g x y v) := fun j hj => by
          rw [h_95.2 _ (by omega), h_95.2 _ (by omega), hI.1 j hj, if_pos hj]
          exact ⟨hI.2.1 j hj, rfl⟩
        have hF2 : pc_F M_95 p (pl_note Y (pl_nx g x y v)) := by
          have q := h_95.1
          unfold pl_note
          rw [pl_nx_0, pl_nx_7]
          exact q
        refine cq_aload_n F (i := 0) dX3_burnToSignal_98 rfl rfl ?_
        refine cq_iload_n F (i := 1) dX3_burnToSignal_99 rfl rfl ?_
        refine cq_iconst F (v := 1) dX3_burnToSignal_100 rfl ?_
        refine cq_iadd F dX3_burnToSignal_101 ?_
        rw [show (nI s + 1 : Int32) = nI (s + 1) from nI_add _ _]
        refine cq_iload_n F (i := 2) dX3_burnToSignal_102 rfl rfl ?_
        refine cq_iload F dX3_burnToSignal_103 rfl ?_
        refine cq_iadd F dX3_burnToSignal_105 ?_
        rw [show (nI (g 0) + nI (pl_st g x y v 3) : Int32) = nI ((g 0) + (pl_st g x y v 3)) from nI_add _ _]
        refine cq_iload_n F (i := 3) dX3_burnToSignal_106 rfl rfl ?_
        rw [show nI (g 0 + pl_st g x y v 3) = nI (pl_nx g x y v 0) by rw [pl_nx_0], show nI (g 7 + pl_m g x y v 3) = nI (pl_nx g x y v 7) by rw [pl_nx_7]]
        refine cq_callV F (C := RX3) (ci := 4) (kX3_try_1 l D cA X Bs p (s + 1) (pl_nx g x y v) (pl_note Y (pl_nx g x y v)) M_95 hp (by omega) hst2 hok2 hF2 (pl_note_le hb (by have := hok2.2.2.1; omega))) (cwV 3 F.1.2.2.2.2 gX3_burnToSignal_X3_tryAll rfl rfl rfl hdVX3_tryAll ⟨Nat.le_of_ble_eq_true rfl, Nat.le_of_ble_eq_true rfl⟩) hp.kind ⟨by decide, by decide⟩ rfl rfl rfl (Nat.le_of_ble_eq_true rfl) dX3_burnToSignal_107 ⟨Nat.le_of_ble_eq_true rfl, Nat.le_of_ble_eq_true rfl⟩ (cq_kV fun M_107 h_107 => ?_)
        refine cq_vret F hr (by decide) (by decide) dX3_burnToSignal_110 ⟨rfl, ?_⟩
        rw [pl_go_d hne]
        exact ⟨h_107.1, fun r r1 r2 r3 => by rw [h_107.2 r r1 (by omega) (by omega), h_95.2 r r1, hI.2.2 r (by omega) (by omega)]⟩
      · have c_20 : ¬ 3 ≤ i := fun z => c_20 ((nI_b (a := 3) (b := i) (by omega) (by omega)).1.mpr z)
        refine cq_iconst F (v := 0) dX3_burnToSignal_23 rfl ?_
        refine cq_aload_n F (i := 0) dX3_burnToSignal_24 rfl rfl ?_
        refine cq_getT (t := (p + 2)) F (C := RX3) (T := TX3) (N := 4) (ci := 4) hp.kind rfl ⟨⟨by decide, by decide⟩, rfl⟩ inX3 1 (by decide) rfl rfl hp.t1 (F.1.2.2.2.2 _ (List.mem_of_getElem? (l := wsX3_burnToSignal) (i := 1) (a := .fieldLink RX3 17 "CordClock$Plans" "timeLeft" "[[I") (by decide +kernel))) dX3_burnToSignal_25 ?_
        refine cq_iload_n F (i := 1) dX3_burnToSignal_28 rfl rfl ?_
        have hj_29 : s < 4 := (by omega)
        refine cq_aaldA_j F (j := s) (t := (p + 3 + s)) hp.k2 hp.n2 rfl ⟨hj_29, by decide⟩ (hp.rt1 _ hj_29) dX3_burnToSignal_29 ?_
        refine cq_iload F dX3_burnToSignal_30 rfl ?_
        refine cq_iald_j F (j := i) (hp.r1k _ hj_29) (hp.r1n _ hj_29) rfl ⟨(by omega), by decide⟩ dX3_burnToSignal_32 ?_
        rw [(show M2 (p + 3 + s) i = nI (g (1 + i)) by rw [hI.2.2 _ (by omega) (by omega)]; exact (hst i (by omega)).1)]
        refine cq_aload_n F (i := 0) dX3_burnToSignal_33 rfl rfl ?_
        refine cq_getT (t := (p + 7)) F (C := RX3) (T := TX3) (N := 4) (ci := 4) hp.kind rfl ⟨⟨by decide, by decide⟩, rfl⟩ inX3 2 (by decide) rfl rfl hp.t2 (F.1.2.2.2.2 _ (List.mem_of_getElem? (l := wsX3_burnToSignal) (i := 2) (a := .fieldLink RX3 20 "CordClock$Plans" "flames" "[[I") (by decide +kernel))) dX3_burnToSignal_34 ?_
        refine cq_iload_n F (i := 1) dX3_burnToSignal_37 rfl rfl ?_
        refine cq_iconst F (v := 1) dX3_burnToSignal_38 rfl ?_
        refine cq_iadd F dX3_burnToSignal_39 ?_
        rw [show (nI s + 1 : Int32) = nI (s + 1) from nI_add _ _]
        have hj_40 : (s + 1) < 4 := (by omega)
        refine cq_aaldA_j F (j := (s + 1)) (t := (p + 8 + (s + 1))) hp.k7 hp.n7 rfl ⟨hj_40, by decide⟩ (hp.rt2 _ hj_40) dX3_burnToSignal_40 ?_
        refine cq_iload F dX3_burnToSignal_41 rfl ?_
        refine cq_iald_j F (j := i) (hp.r2k _ hj_40) (hp.r2n _ hj_40) rfl ⟨(by omega), by decide⟩ dX3_burnToSignal_43 ?_
        rw [(show M2 (p + 8 + (s + 1)) i = nI (pl_f x y v i) by rw [hI.1 i (by omega), if_neg (by omega)])]
        refine cq_iload F dX3_burnToSignal_44 rfl ?_
        refine cq_imul F dX3_burnToSignal_46 ?_
        rw [show (nI (pl_f x y v i) * nI (pl_st g x y v 3) : Int32) = nI ((pl_f x y v i) * (pl_st g x y v 3)) from pk_mul _ _]
        refine cq_isub F dX3_burnToSignal_47 ?_
        refine cq_mmax F (F.1.2.2.2.2 _ (List.mem_of_getElem? (l := wsX3_burnToSignal) (i := 3) (a := .methodLink RX3 45 Lib.Math.max.name) (by decide +kernel))) (F.1.2.2.2.2 _ (List.mem_of_getElem? (l := wsX3_burnToSignal) (i := 4) (a := .static Lib.Math.max.name) (by decide +kernel))) (F.1.2.2.2.2 _ (List.mem_of_getElem? (l := wsX3_burnToSignal) (i := 5) (a := .initialized "java/lang/Math") (by decide +kernel))) (F.1.2.2.2.2 _ (List.mem_of_getElem? (l := wsX3_burnToSignal) (i := 6) (a := .code Lib.Math.max.name Lib.Math.max.code 2 (some .int)) (by decide +kernel))) ⟨by decide, Nat.le_of_ble_eq_true rfl, by decide, by decide⟩ dX3_burnToSignal_48 ?_
        have hp9 : pl_f x y v i * pl_st g x y v 3 ≤ 2 * 360 := Nat.mul_le_mul (hvi (by omega)).2.1 hst9
        rw [show (if (0 : Int32) < nI (g (1 + i)) - nI (pl_f x y v i * pl_st g x y v 3) then nI (g (1 + i)) - nI (pl_f x y v i * pl_st g x y v 3) else 0) = nI (pl_r g x y v i) from pl_max (by omega) (by omega)]
        have hr9 : (pl_r g x y v i) ≤ 360 := by unfold pl_r; omega
        refine cq_istore F dX3_burnToSignal_51 (by decide) ?_
        refine cq_aload_n F (i := 0) dX3_burnToSignal_53 rfl rfl ?_
        refine cq_getT (t := (p + 2)) F (C := RX3) (T := TX3) (N := 4) (ci := 4) hp.kind rfl ⟨⟨by decide, by decide⟩, rfl⟩ inX3 1 (by decide) rfl rfl hp.t1 (F.1.2.2.2.2 _ (List.mem_of_getElem? (l := wsX3_burnToSignal) (i := 1) (a := .fieldLink RX3 17 "CordClock$Plans" "timeLeft" "[[I") (by decide +kernel))) dX3_burnToSignal_54 ?_
        refine cq_iload_n F (i := 1) dX3_burnToSignal_57 rfl rfl ?_
        refine cq_iconst F (v := 1) dX3_burnToSignal_58 rfl ?_
        refine cq_iadd F dX3_burnToSignal_59 ?_
        rw [show (nI s + 1 : Int32) = nI (s + 1) from nI_add _ _]
        have hj_60 : (s + 1) < 4 := (by omega)
        refine cq_aaldA_j F (j := (s + 1)) (t := (p + 3 + (s + 1))) hp.k2 hp.n2 rfl ⟨hj_60, by decide⟩ (hp.rt1 _ hj_60) dX3_burnToSignal_60 ?_
        refine cq_iload F dX3_burnToSignal_61 rfl ?_
        refine cq_iload F dX3_burnToSignal_63 rfl ?_
        refine cq_iast_j F (j := i) (hp.r1k _ hj_60) (hp.r1n _ hj_60) rfl ⟨(by omega), by decide⟩ dX3_burnToSignal_65 (fun M_65 h_65 => ?_)
        refine cq_iload F dX3_burnToSignal_66 rfl ?_
        refine cq_if_ne F (tgt := 83) dX3_burnToSignal_68 (by decide) (fun c_68 => ?_) (fun c_68 => ?_)
        · have c_68 : ¬ (pl_r g x y v i) = 0 := fun z => c_68 ((nI_b (a := (pl_r g x y v i)) (b := 0) (by omega) (by omega)).2.2.mpr z)
          refine cq_iinc F dX3_burnToSignal_83 rfl (by decide) (fun x_83 e_83 => ?_)
          obtain rfl : x_83 = nI (i + 1) := by rw [e_83]; exact nI_1 _
          refine cq_goto F (tgt := 17) dX3_burnToSignal_86 (by decide) ?_
          refine cq_loc (L2 := [(0, .ref p), (1, .int (nI s)), (2, .int (nI (g 0))), (3, .int (nI (g 7 + pl_m g x y v 3))), (4, .int (nI (pl_st g x y v 3))), (5, .int (nI (i + 1)))]) rfl ?_
          refine ih_17 (i + 1) M_65 hne (by omega) ⟨fun j hj => ?_, fun j hj => ?_, fun r r1 r2 => ?_⟩ (by omega)
          · rw [h_65, cq_up_a (by omega), hI.1 j hj]
            by_cases e : j = i
            · rw [e, if_neg (by omega), if_pos (by omega), pl_nx_f (by omega), if_pos (by omega)]
            · by_cases e2 : j < i
              · rw [if_pos e2, if_pos (by omega)]
              · rw [if_neg e2, if_neg (by omega)]
          · rw [h_65]
            by_cases e : j = i
            · rw [e, cq_up_s, pl_nx_r (by omega)]
            · rw [cq_up_k e]; exact hI.2.1 j (by omega)
          · rw [h_65, cq_up_row r1]; exact hI.2.2 r r1 r2
        · have c_68 : (pl_r g x y v i) = 0 := (nI_b (a := (pl_r g x y v i)) (b := 0) (by omega) (by omega)).2.2.mp c_68
          refine cq_aload_n F (i := 0) dX3_burnToSignal_71 rfl rfl ?_
          refine cq_getT (t := (p + 7)) F (C := RX3) (T := TX3) (N := 4) (ci := 4) hp.kind rfl ⟨⟨by decide, by decide⟩, rfl⟩ inX3 2 (by decide) rfl rfl hp.t2 (F.1.2.2.2.2 _ (List.mem_of_getElem? (l := wsX3_burnToSignal) (i := 2) (a := .fieldLink RX3 20 "CordClock$Plans" "flames" "[[I") (by decide +kernel))) dX3_burnToSignal_72 ?_
          refine cq_iload_n F (i := 1) dX3_burnToSignal_75 rfl rfl ?_
          refine cq_iconst F (v := 1) dX3_burnToSignal_76 rfl ?_
          refine cq_iadd F dX3_burnToSignal_77 ?_
          rw [show (nI s + 1 : Int32) = nI (s + 1) from nI_add _ _]
          have hj_78 : (s + 1) < 4 := (by omega)
          refine cq_aaldA_j F (j := (s + 1)) (t := (p + 8 + (s + 1))) hp.k7 hp.n7 rfl ⟨hj_78, by decide⟩ (hp.rt2 _ hj_78) dX3_burnToSignal_78 ?_
          refine cq_iload F dX3_burnToSignal_79 rfl ?_
          refine cq_iconst F (v := 0) dX3_burnToSignal_81 rfl ?_
          refine cq_iast_j F (j := i) (hp.r2k _ hj_78) (hp.r2n _ hj_78) rfl ⟨(by omega), by decide⟩ dX3_burnToSignal_82 (fun M_82 h_82 => ?_)
          refine cq_iinc F dX3_burnToSignal_83 rfl (by decide) (fun x_83 e_83 => ?_)
          obtain rfl : x_83 = nI (i + 1) := by rw [e_83]; exact nI_1 _
          refine cq_goto F (tgt := 17) dX3_burnToSignal_86 (by decide) ?_
          refine cq_loc (L2 := [(0, .ref p), (1, .int (nI s)), (2, .int (nI (g 0))), (3, .int (nI (g 7 + pl_m g x y v 3))), (4, .int (nI (pl_st g x y v 3))), (5, .int (nI (i + 1)))]) rfl ?_
          refine ih_17 (i + 1) M_82 hne (by omega) ⟨fun j hj => ?_, fun j hj => ?_, fun r r1 r2 => ?_⟩ (by omega)
          · rw [h_82]
            by_cases e : j = i
            · rw [e, cq_up_s, if_pos (by omega), pl_nx_f (by omega), if_neg (by omega)]; rfl
            · rw [cq_up_k e, h_65, cq_up_a (by omega), hI.1 j hj]
              by_cases e2 : j < i
              · rw [if_pos e2, if_pos (by omega)]
              · rw [if_neg e2, if_neg (by omega)]
          · rw [h_82, cq_up_a (by omega), h_65]
            by_cases e : j = i
            · rw [e, cq_up_s, pl_nx_r (by omega)]
            · rw [cq_up_k e]; exact hI.2.1 j (by omega)
          · rw [h_82, cq_up_row r2, h_65, cq_up_row r1]; exact hI.2.2 r r1 r2
  refine cq_aload_n F (i := 0) dX3_burnToSignal_0 rfl rfl ?_
  refine cq_iload_n F (i := 1) dX3_burnToSignal_1 rfl rfl ?_
  refine cq_callV F (C := RX3) (ci := 4) (kX3_stepsToSignal l D cA X Bs p s g x y v 360 M hp (by omega) hst hv hok hfl) (cwV 1 F.1.2.2.2.2 gX3_burnToSignal_X3_stepsToSignal rfl rfl rfl hdVX3_stepsToSignal ⟨Nat.le_of_ble_eq_true rfl, Nat.le_of_ble_eq_true rfl⟩) hp.kind ⟨by decide, by decide⟩ rfl rfl rfl (Nat.le_of_ble_eq_true rfl) dX3_burnToSignal_2 ⟨Nat.le_of_ble_eq_true rfl, Nat.le_of_ble_eq_true rfl⟩ (cq_kIp fun r_2 h_2 => ?_)
  refine cq_nmi (fun x_5 e_5 => ?_)
  refine cq_istore F dX3_burnToSignal_5 (by decide) ?_
  refine cq_iload F dX3_burnToSignal_7 rfl ?_
  refine cq_iconst F (v := (-1)) dX3_burnToSignal_9 rfl ?_
  refine cq_icmp_ne F (tgt := 14) dX3_burnToSignal_10 (by decide) (fun c_10 => ?_) (fun c_10 => ?_)
  · obtain ⟨hne, rfl⟩ : ¬ pl_st g x y v 3 = 0 ∧ x_5 = nI (pl_st g x y v 3) := by
      rw [← e_5] at h_2
      by_cases q : pl_st g x y v 3 = 0
      · rw [if_pos q] at h_2; exact absurd h_2 c_10
      · rw [if_neg q] at h_2; exact ⟨q, h_2⟩
    refine cq_iconst F (v := 0) dX3_burnToSignal_14 rfl ?_
    refine cq_istore F dX3_burnToSignal_15 (by decide) ?_
    refine cq_loc (L2 := [(0, .ref p), (1, .int (nI s)), (2, .int (nI (g 0))), (3, .int (nI (g 7 + pl_m g x y v 3))), (4, .int (nI (pl_st g x y v 3))), (5, .int (nI 0))]) rfl ?_
    exact loop_17 5 0 M hne (by omega) ⟨fun j hj => by rw [if_neg (by omega)]; exact hfl j hj, fun j hj => absurd hj (by omega), fun _ _ _ => rfl⟩ (by omega)
  · have h0 : pl_st g x y v 3 = 0 := by
      by_cases q : pl_st g x y v 3 = 0
      · exact q
      · rw [if_neg q] at h_2; rw [← e_5, c_10] at h_2; exact absurd h_2.symm (nI_m1 (by omega))
    refine cq_vret F hr (by decide) (by decide) dX3_burnToSignal_13 ⟨rfl, ?_⟩
    rw [pl_go_d0 h0]
    exact ⟨hF, pc_fr.rf⟩
abbrev rmX3_try_2 : Room := ({ frames := 5, cells := 0, slots := 0, locals := 124 })
set_option maxHeartbeats 4000000 in
set_option maxRecDepth 100000 in
theorem kX3_try_2 (l : Launch) (D : va_G) (cA : Nat → ClassId) (X : cq_X) (Bs : Nat) (p s : Nat) (g : Nat → Nat) (Y : Nat → Nat) (M : cq_M) (hp : cq_isPlans X p) (hs : s = 1) (hst : pc_st M p s g) (hok : pl_ok g 360) (hF : pc_F M p Y) (hb : ∀ t, Y t ≤ 1080) : cq_C l yX3_tryAll wsX3_tryAll rmX3_try_2 D cA X Bs [.ref p, .int (nI s), .int (nI (g 0)), .int (nI (g 7))] M (cq_PV (fun M1 => pc_F M1 p (List.foldl pl_note Y (pl_dfs 2 g)) ∧ pc_fr M M1 p s)) 0 0 := by
  refine cq_met (cc := cX3_tryAll) (maxL := 7) (ret := none) (by decide) rfl (Nat.le_of_ble_eq_true rfl) [(0, .ref p), (1, .int (nI s)), (2, .int (nI (g 0))), (3, .int (nI (g 7)))] rfl rfl ?_
  intro p9 e9 s9 m9 b9 t9 c9 F hr
  have inX3 : ∀ w ∈ wsX30, w ∈ wsX3_tryAll := (fun w h => List.mem_cons_of_mem _ (List.mem_append_right _ h))
  have hg4 : g 4 ≤ 2 := (hok.2.1 0 (by omega)).2.1
  have hg5 : g 5 ≤ 2 := (hok.2.1 1 (by omega)).2.1
  have hg6 : g 6 ≤ 2 := (hok.2.1 2 (by omega)).2.1
  have hg1 : g 1 ≤ 360 := (hok.2.1 0 (by omega)).1
  have hg2 : g 2 ≤ 360 := (hok.2.1 1 (by omega)).1
  have hg3 : g 3 ≤ 360 := (hok.2.1 2 (by omega)).1
  have hg0 := hok.1
  have hg7 := hok.2.2.1
  obtain ⟨m0, e_m0⟩ : ∃ v, v = (if 0 < g 1 then 2 else 0) := ⟨_, rfl⟩
  have hm0 : pl_n g 0 = m0 + 1 - g 4 := by rw [e_m0]; show (if 0 < g 1 then 3 else 1) - g 4 = _; split <;> omega
  have hq0 : m0 ≤ 2 := by rw [e_m0]; split <;> omega
  obtain ⟨m1, e_m1⟩ : ∃ v, v = (if 0 < g 2 then 2 else 0) := ⟨_, rfl⟩
  have hm1 : pl_n g 1 = m1 + 1 - g 5 := by rw [e_m1]; show (if 0 < g 2 then 3 else 1) - g 5 = _; split <;> omega
  have hq1 : m1 ≤ 2 := by rw [e_m1]; split <;> omega
  obtain ⟨m2, e_m2⟩ : ∃ v, v = (if 0 < g 3 then 2 else 0) := ⟨_, rfl⟩
  have hm2 : pl_n g 2 = m2 + 1 - g 6 := by rw [e_m2]; show (if 0 < g 3 then 3 else 1) - g 6 = _; split <;> omega
  have hq2 : m2 ≤ 2 := by rw [e_m2]; split <;> omega
  have loop_20 : ∀ (n_20 : Nat) (i : Nat) (M2 : cq_M), i ≤ pl_n g 0 → pc_F M2 p (List.foldl pl_note Y (pl_d 1 (pl_a g i))) → (∀ t, List.foldl pl_note Y (pl_d 1 (pl_a g i)) t ≤ 1080) → pc_fr M M2 p s → pl_n g 0 + 1 - i < n_20 → cq_V p9 l e9 rmX3_try_2 s9 m9 ([.ref p, .int (nI s), .int (nI (g 0)), .int (nI (g 7))] : List Value).toArray b9 t9 c9 D cA X Bs 7 0 0 (MQ b9 (cq_Q D cA X Bs (cq_PV (fun M1 => pc_F M1 p (List.foldl pl_note Y (pl_dfs 2 g)) ∧ pc_fr M M1 p s))) ([.ref p, .int (nI s), .int (nI (g 0)), .int (nI (g 7))] : List Value).toArray s9 0 0 (cq_A Bs)) 20 [(0, .ref p), (1, .int (nI s)), (2, .int (nI (g 0))), (3, .int (nI (g 7))), (4, .int (nI (g 4 + i)))] [] M2 := by
    intro n_20
    induction n_20 with
    | zero =>
      intros
      omega
    | succ n_20 ih_20 =>
      intro i M2 hi hFa hba hfa hn
      have loop_41 : ∀ (n_41 : Nat) (j : Nat) (M3 : cq_M), i < pl_n g 0 → j ≤ pl_n g 1 → pc_F M3 p (List.foldl pl_note Y (pl_d 1 (pl_a g i ++ pl_b g (g 4 + i) j))) → (∀ t, List.foldl pl_note Y (pl_d 1 (pl_a g i ++ pl_b g (g 4 + i) j)) t ≤ 1080) → pc_fr M M3 p s → pl_n g 1 + 1 - j < n_41 → cq_V p9 l e9 rmX3_try_2 s9 m9 ([.ref p, .int (nI s), .int (nI (g 0)), .int (nI (g 7))] : List Value).toArray b9 t9 c9 D cA X Bs 7 0 0 (MQ b9 (cq_Q D cA X Bs (cq_PV (fun M1 => pc_F M1 p (List.foldl pl_note Y (pl_dfs 2 g)) ∧ pc_fr M M1 p s))) ([.ref p, .int (nI s), .int (nI (g 0)), .int (nI (g 7))] : List Value).toArray s9 0 0 (cq_A Bs)) 41 [(0, .ref p), (1, .int (nI s)), (2, .int (nI (g 0))), (3, .int (nI (g 7))), (4, .int (nI (g 4 + i))), (5, .int (nI (g 5 + j)))] [] M3 := by
        intro n_41
        induction n_41 with
        | zero =>
          intros
          omega
        | succ n_41 ih_41 =>
          intro j M3 hi0 hj hFb hbb hfb hn
          have loop_62 : ∀ (n_62 : Nat) (k : Nat) (M4 : cq_M), j < pl_n g 1 → k ≤ pl_n g 2 → pc_F M4 p (List.foldl pl_note Y (pl_d 1 (pl_a g i ++ (pl_b g (g 4 + i) j ++ pl_c g (g 4 + i) (g 5 + j) k)))) → (∀ t, List.foldl pl_note Y (pl_d 1 (pl_a g i ++ (pl_b g (g 4 + i) j ++ pl_c g (g 4 + i) (g 5 + j) k))) t ≤ 1080) → pc_fr M M4 p s → pl_n g 2 + 1 - k < n_62 → cq_V p9 l e9 rmX3_try_2 s9 m9 ([.ref p, .int (nI s), .int (nI (g 0)), .int (nI (g 7))] : List Value).toArray b9 t9 c9 D cA X Bs 7 0 0 (MQ b9 (cq_Q D cA X Bs (cq_PV (fun M1 => pc_F M1 p (List.foldl pl_note Y (pl_dfs 2 g)) ∧ pc_fr M M1 p s))) ([.ref p, .int (nI s), .int (nI (g 0)), .int (nI (g 7))] : List Value).toArray s9 0 0 (cq_A Bs)) 62 [(0, .ref p), (1, .int (nI s)), (2, .int (nI (g 0))), (3, .int (nI (g 7))), (4, .int (nI (g 4 + i))), (5, .int (nI (g 5 + j))), (6, .int (nI (g 6 + k)))] [] M4 := by
            intro n_62
            induction n_62 with
            | zero =>
              intros
              omega
            | succ n_62 ih_62 =>
              intro k M4 hj1 hk hFc hbc hfc hn
              refine cq_iload F dX3_tryAll_62 rfl ?_
              refine cq_aload_n F (i := 0) dX3_tryAll_64 rfl rfl ?_
              refine cq_iload_n F (i := 1) dX3_tryAll_65 rfl rfl ?_
              refine cq_iconst F (v := 2) dX3_tryAll_66 rfl ?_
              refine cq_callV F (C := RX3) (ci := 4) (kX3_mostFlames l D cA X Bs p s g 2 M4 hp (by omega) (hst.fr hfc (by omega)) (by omega) (by show g 3 < 1000; omega)) (cwV 2 F.1.2.2.2.2 gX3_tryAll_X3_mostFlames rfl rfl rfl hdVX3_mostFlames ⟨Nat.le_of_ble_eq_true rfl, Nat.le_of_ble_eq_true rfl⟩) hp.kind ⟨by decide, by decide⟩ rfl rfl rfl (Nat.le_of_ble_eq_true rfl) dX3_tryAll_67 ⟨Nat.le_of_ble_eq_true rfl, Nat.le_of_ble_eq_true rfl⟩ (cq_kIp fun r_67 h_67 => ?_)
              rw [show (if 0 < g (1 + 2) then 2 else 0) = m2 from e_m2.symm] at h_67
              subst h_67
              refine cq_icmp_gt F (tgt := 128) dX3_tryAll_70 (by decide) (fun c_70 => ?_) (fun c_70 => ?_)
              · have c_70 : m2 < (g 6 + k) := (nI_b (a := m2) (b := (g 6 + k)) (by omega) (by omega)).2.1.mp c_70
                obtain rfl : k = pl_n g 2 := by omega
                refine cq_iinc F dX3_tryAll_128 rfl (by decide) (fun x_128 e_128 => ?_)
                obtain rfl : x_128 = nI ((g 5 + j) + 1) := by rw [e_128]; exact nI_1 _
                refine cq_goto F (tgt := 41) dX3_tryAll_131 (by decide) ?_
                refine cq_loc (L2 := [(0, .ref p), (1, .int (nI s)), (2, .int (nI (g 0))), (3, .int (nI (g 7))), (4, .int (nI (g 4 + i))), (5, .int (nI (g 5 + (j + 1))))]) rfl ?_
                exact ih_41 (j + 1) M4 hi0 (by omega) hFc hbc hfc (by omega)
              · have c_70 : ¬ m2 < (g 6 + k) := fun z => c_70 ((nI_b (a := m2) (b := (g 6 + k)) (by omega) (by omega)).2.1.mpr z)
                have hk2 : k < pl_n g 2 := by omega
                have hv9 := pl_v_of hok hi0 hj1 hk2
                have hmm9 := pl_m_le hv9 3 (by omega)
                refine cq_aload_n F (i := 0) dX3_tryAll_73 rfl rfl ?_
                refine cq_getT (t := (p + 7)) F (C := RX3) (T := TX3) (N := 4) (ci := 4) hp.kind rfl ⟨⟨by decide, by decide⟩, rfl⟩ inX3 2 (by decide) rfl rfl hp.t2 (F.1.2.2.2.2 _ (List.mem_of_getElem? (l := wsX3_tryAll) (i := 1) (a := .fieldLink RX3 20 "CordClock$Plans" "flames" "[[I") (by decide +kernel))) dX3_tryAll_74 ?_
                refine cq_iload_n F (i := 1) dX3_tryAll_77 rfl rfl ?_
                refine cq_iconst F (v := 1) dX3_tryAll_78 rfl ?_
                refine cq_iadd F dX3_tryAll_79 ?_
                rw [show (nI s + 1 : Int32) = nI (s + 1) from nI_add _ _]
                have hj_80 : (s + 1) < 4 := (by omega)
                refine cq_aaldA_j F (j := (s + 1)) (t := (p + 8 + (s + 1))) hp.k7 hp.n7 rfl ⟨hj_80, by decide⟩ (hp.rt2 _ hj_80) dX3_tryAll_80 ?_
                refine cq_iconst F (v := 0) dX3_tryAll_81 rfl ?_
                refine cq_iload F dX3_tryAll_82 rfl ?_
                refine cq_iast_j F (j := 0) (hp.r2k _ hj_80) (hp.r2n _ hj_80) rfl ⟨(by omega), by decide⟩ dX3_tryAll_84 (fun M_84 h_84 => ?_)
                refine cq_aload_n F (i := 0) dX3_tryAll_85 rfl rfl ?_
                refine cq_getT (t := (p + 7)) F (C := RX3) (T := TX3) (N := 4) (ci := 4) hp.kind rfl ⟨⟨by decide, by decide⟩, rfl⟩ inX3 2 (by decide) rfl rfl hp.t2 (F.1.2.2.2.2 _ (List.mem_of_getElem? (l := wsX3_tryAll) (i := 1) (a := .fieldLink RX3 20 "CordClock$Plans" "flames" "[[I") (by decide +kernel))) dX3_tryAll_86 ?_
                refine cq_iload_n F (i := 1) dX3_tryAll_89 rfl rfl ?_
                refine cq_iconst F (v := 1) dX3_tryAll_90 rfl ?_
                refine cq_iadd F dX3_tryAll_91 ?_
                rw [show (nI s + 1 : Int32) = nI (s + 1) from nI_add _ _]
                have hj_92 : (s + 1) < 4 := (by omega)
                refine cq_aaldA_j F (j := (s + 1)) (t := (p + 8 + (s + 1))) hp.k7 hp.n7 rfl ⟨hj_92, by decide⟩ (hp.rt2 _ hj_92) dX3_tryAll_92 ?_
                refine cq_iconst F (v := 1) dX3_tryAll_93 rfl ?_
                refine cq_iload F dX3_tryAll_94 rfl ?_
                refine cq_iast_j F (j := 1) (hp.r2k _ hj_92) (hp.r2n _ hj_92) rfl ⟨(by omega), by decide⟩ dX3_tryAll_96 (fun M_96 h_96 => ?_)
                refine cq_aload_n F (i := 0) dX3_tryAll_97 rfl rfl ?_
                refine cq_getT (t := (p + 7)) F (C := RX3) (T := TX3) (N := 4) (ci := 4) hp.kind rfl ⟨⟨by decide, by decide⟩, rfl⟩ inX3 2 (by decide) rfl rfl hp.t2 (F.1.2.2.2.2 _ (List.mem_of_getElem? (l := wsX3_tryAll) (i := 1) (a := .fieldLink RX3 20 "CordClock$Plans" "flames" "[[I") (by decide +kernel))) dX3_tryAll_98 ?_
                refine cq_iload_n F (i := 1) dX3_tryAll_101 rfl rfl ?_
                refine cq_iconst F (v := 1) dX3_tryAll_102 rfl ?_
                refine cq_iadd F dX3_tryAll_103 ?_
                rw [show (nI s + 1 : Int32) = nI (s + 1) from nI_add _ _]
                have hj_104 : (s + 1) < 4 := (by omega)
                refine cq_aaldA_j F (j := (s + 1)) (t := (p + 8 + (s + 1))) hp.k7 hp.n7 rfl ⟨hj_104, by decide⟩ (hp.rt2 _ hj_104) dX3_tryAll_104 ?_
                refine cq_iconst F (v := 2) dX3_tryAll_105 rfl ?_
                refine cq_iload F dX3_tryAll_106 rfl ?_
                refine cq_iast_j F (j := 2) (hp.r2k _ hj_104) (hp.r2n _ hj_104) rfl ⟨(by omega), by decide⟩ dX3_tryAll_108 (fun M_108 h_108 => ?_)
                have hst9 : pc_st M_108 p s g := fun q hq => by rw [h_108, h_96, h_84, cq_up_row (by omega), cq_up_row (by omega), cq_up_row (by omega), cq_up_row (by omega), cq_up_row (by omega), cq_up_row (by omega)]; exact (hst.fr hfc (by omega)) q hq
                have hfl9 : pc_fl M_108 p (s + 1) (g 4 + i) (g 5 + j) (g 6 + k) := fun q hq => by
                  have h9 : q = 0 ∨ q = 1 ∨ q = 2 := by omega
                  rcases h9 with rfl | rfl | rfl
                  · rw [h_108, cq_up_k (by omega), h_96, cq_up_k (by omega), h_84]; exact cq_up_s _ _ _ _
                  · rw [h_108, cq_up_k (by omega), h_96]; exact cq_up_s _ _ _ _
                  · rw [h_108]; exact cq_up_s _ _ _ _
                have hF9 : pc_F M_108 p (List.foldl pl_note Y (pl_d 1 (pl_a g i ++ (pl_b g (g 4 + i) j ++ pl_c g (g 4 + i) (g 5 + j) k)))) := fun q hq => by rw [h_108, h_96, h_84, cq_up_row (by omega), cq_up_row (by omega), cq_up_row (by omega)]; exact hFc q hq
                have hfr9 : pc_fr M M_108 p s := fun r r1 r2 r3 => by rw [h_108, h_96, h_84, cq_up_row (by omega), cq_up_row (by omega), cq_up_row (by omega)]; exact hfc r r1 r2 r3
                refine cq_aload_n F (i := 0) dX3_tryAll_109 rfl rfl ?_
                refine cq_iload_n F (i := 1) dX3_tryAll_110 rfl rfl ?_
                refine cq_iload_n F (i := 2) dX3_tryAll_111 rfl rfl ?_
                refine cq_iload_n F (i := 3) dX3_tryAll_112 rfl rfl ?_
                refine cq_aload_n F (i := 0) dX3_tryAll_113 rfl rfl ?_
                refine cq_iload_n F (i := 1) dX3_tryAll_114 rfl rfl ?_
                refine cq_callV F (C := RX3) (ci := 4) (kX3_newFlames l D cA X Bs p s g (g 4 + i) (g 5 + j) (g 6 + k) 360 M_108 hp (by omega) hst9 hv9 hok hfl9) (cwV 1 F.1.2.2.2.2 gX3_tryAll_X3_newFlames rfl rfl rfl hdVX3_newFlames ⟨Nat.le_of_ble_eq_true rfl, Nat.le_of_ble_eq_true rfl⟩) hp.kind ⟨by decide, by decide⟩ rfl rfl rfl (Nat.le_of_ble_eq_true rfl) dX3_tryAll_115 ⟨Nat.le_of_ble_eq_true rfl, Nat.le_of_ble_eq_true rfl⟩ (cq_kIp fun r_115 h_115 => ?_)
                subst h_115
                refine cq_iadd F dX3_tryAll_118 ?_
                rw [show (nI (g 7) + nI (pl_m g (g 4 + i) (g 5 + j) (g 6 + k) 3) : Int32) = nI ((g 7) + (pl_m g (g 4 + i) (g 5 + j) (g 6 + k) 3)) from nI_add _ _]
                refine cq_callV F (C := RX3) (ci := 4) (kX3_burn_1 l D cA X Bs p s g (g 4 + i) (g 5 + j) (g 6 + k) (List.foldl pl_note Y (pl_d 1 (pl_a g i ++ (pl_b g (g 4 + i) j ++ pl_c g (g 4 + i) (g 5 + j) k)))) M_108 hp (by omega) hst9 hv9 hok hfl9 hF9 hbc) (cwV 3 F.1.2.2.2.2 gX3_tryAll_X3_burnToSignal rfl rfl rfl hdVX3_burnToSignal ⟨Nat.le_of_ble_eq_true rfl, Nat.le_of_ble_eq_true rfl⟩) hp.kind ⟨by decide, by decide⟩ rfl rfl rfl (Nat.le_of_ble_eq_true rfl) dX3_tryAll_119 ⟨Nat.le_of_ble_eq_true rfl, Nat.le_of_ble_eq_true rfl⟩ (cq_kV fun M_119 h_119 => ?_)
                refine cq_iinc F dX3_tryAll_122 rfl (by decide) (fun x_122 e_122 => ?_)
                obtain rfl : x_122 = nI ((g 6 + k) + 1) := by rw [e_122]; exact nI_1 _
                refine cq_goto F (tgt := 62) dX3_tryAll_125 (by decide) ?_
                refine cq_loc (L2 := [(0, .ref p), (1, .int (nI s)), (2, .int (nI (g 0))), (3, .int (nI (g 7))), (4, .int (nI (g 4 + i))), (5, .int (nI (g 5 + j))), (6, .int (nI (g 6 + (k + 1))))]) rfl ?_
                exact ih_62 (k + 1) M_119 hj1 (by omega) (by
                    rw [show (pl_a g i ++ (pl_b g (g 4 + i) j ++ pl_c g (g 4 + i) (g 5 + j) (k + 1))) = (pl_a g i ++ (pl_b g (g 4 + i) j ++ pl_c g (g 4 + i) (g 5 + j) k)) ++ pl_go g (g 4 + i) (g 5 + j) (g 6 + k) by rw [pl_c, List.append_assoc, List.append_assoc], pl_d_app, List.foldl_append]
                    exact h_119.1) (by
                    rw [show (pl_a g i ++ (pl_b g (g 4 + i) j ++ pl_c g (g 4 + i) (g 5 + j) (k + 1))) = (pl_a g i ++ (pl_b g (g 4 + i) j ++ pl_c g (g 4 + i) (g 5 + j) k)) ++ pl_go g (g 4 + i) (g 5 + j) (g 6 + k) by rw [pl_c, List.append_assoc, List.append_assoc], pl_d_app, List.foldl_append]
                    exact pl_fold_le hbc (fun q hq => pl_go_d7 hok hv9 (by omega) hq)) (hfr9.trans h_119.2) (by omega)
          refine cq_iload F dX3_tryAll_41 rfl ?_
          refine cq_aload_n F (i := 0) dX3_tryAll_43 rfl rfl ?_
          refine cq_iload_n F (i := 1) dX3_tryAll_44 rfl rfl ?_
          refine cq_iconst F (v := 1) dX3_tryAll_45 rfl ?_
          refine cq_callV F (C := RX3) (ci := 4) (kX3_mostFlames l D cA X Bs p s g 1 M3 hp (by omega) (hst.fr hfb (by omega)) (by omega) (by show g 2 < 1000; omega)) (cwV 2 F.1.2.2.2.2 gX3_tryAll_X3_mostFlames rfl rfl rfl hdVX3_mostFlames ⟨Nat.le_of_ble_eq_true rfl, Nat.le_of_ble_eq_true rfl⟩) hp.kind ⟨by decide, by decide⟩ rfl rfl rfl (Nat.le_of_ble_eq_true rfl) dX3_tryAll_46 ⟨Nat.le_of_ble_eq_true rfl, Nat.le_of_ble_eq_true rfl⟩ (cq_kIp fun r_46 h_46 => ?_)
          rw [show (if 0 < g (1 + 1) then 2 else 0) = m1 from e_m1.symm] at h_46
          subst h_46
          refine cq_icmp_gt F (tgt := 134) dX3_tryAll_49 (by decide) (fun c_49 => ?_) (fun c_49 => ?_)
          · have c_49 : m1 < (g 5 + j) := (nI_b (a := m1) (b := (g 5 + j)) (by omega) (by omega)).2.1.mp c_49
            obtain rfl : j = pl_n g 1 := by omega
            refine cq_iinc F dX3_tryAll_134 rfl (by decide) (fun x_134 e_134 => ?_)
            obtain rfl : x_134 = nI ((g 4 + i) + 1) := by rw [e_134]; exact nI_1 _
            refine cq_goto F (tgt := 20) dX3_tryAll_137 (by decide) ?_
            refine cq_loc (L2 := [(0, .ref p), (1, .int (nI s)), (2, .int (nI (g 0))), (3, .int (nI (g 7))), (4, .int (nI (g 4 + (i + 1))))]) rfl ?_
            exact ih_20 (i + 1) M3 (by omega) hFb hbb hfb (by omega)
          · have c_49 : ¬ m1 < (g 5 + j) := fun z => c_49 ((nI_b (a := m1) (b := (g 5 + j)) (by omega) (by omega)).2.1.mpr z)
            have hj1 : j < pl_n g 1 := by omega
            refine cq_aload_n F (i := 0) dX3_tryAll_52 rfl rfl ?_
            refine cq_getT (t := (p + 7)) F (C := RX3) (T := TX3) (N := 4) (ci := 4) hp.kind rfl ⟨⟨by decide, by decide⟩, rfl⟩ inX3 2 (by decide) rfl rfl hp.t2 (F.1.2.2.2.2 _ (List.mem_of_getElem? (l := wsX3_tryAll) (i := 1) (a := .fieldLink RX3 20 "CordClock$Plans" "flames" "[[I") (by decide +kernel))) dX3_tryAll_53 ?_
            refine cq_iload_n F (i := 1) dX3_tryAll_56 rfl rfl ?_
            have hj_57 : s < 4 := (by omega)
            refine cq_aaldA_j F (j := s) (t := (p + 8 + s)) hp.k7 hp.n7 rfl ⟨hj_57, by decide⟩ (hp.rt2 _ hj_57) dX3_tryAll_57 ?_
            refine cq_iconst F (v := 2) dX3_tryAll_58 rfl ?_
            refine cq_iald_j F (j := 2) (hp.r2k _ hj_57) (hp.r2n _ hj_57) rfl ⟨(by omega), by decide⟩ dX3_tryAll_59 ?_
            rw [(show M3 (p + 8 + s) 2 = nI (g 6) from ((hst.fr hfb (by omega)) 2 (by omega)).2)]
            refine cq_istore F dX3_tryAll_60 (by decide) ?_
            refine cq_loc (L2 := [(0, .ref p), (1, .int (nI s)), (2, .int (nI (g 0))), (3, .int (nI (g 7))), (4, .int (nI (g 4 + i))), (5, .int (nI (g 5 + j))), (6, .int (nI (g 6 + 0)))]) rfl ?_
            exact loop_62 (pl_n g 2 + 2) 0 M3 hj1 (Nat.zero_le _) (by rw [show pl_b g (g 4 + i) j ++ pl_c g (g 4 + i) (g 5 + j) 0 = pl_b g (g 4 + i) j from List.append_nil _]; exact hFb) (by rw [show pl_b g (g 4 + i) j ++ pl_c g (g 4 + i) (g 5 + j) 0 = pl_b g (g 4 + i) j from List.append_nil _]; exact hbb) hfb (by omega)
      refine cq_iload F dX3_tryAll_20 rfl ?_
      refine cq_aload_n F (i := 0) dX3_tryAll_22 rfl rfl ?_
      refine cq_iload_n F (i := 1) dX3_tryAll_23 rfl rfl ?_
      refine cq_iconst F (v := 0) dX3_tryAll_24 rfl ?_
      refine cq_callV F (C := RX3) (ci := 4) (kX3_mostFlames l D cA X Bs p s g 0 M2 hp (by omega) (hst.fr hfa (by omega)) (by omega) (by show g 1 < 1000; omega)) (cwV 2 F.1.2.2.2.2 gX3_tryAll_X3_mostFlames rfl rfl rfl hdVX3_mostFlames ⟨Nat.le_of_ble_eq_true rfl, Nat.le_of_ble_eq_true rfl⟩) hp.kind ⟨by decide, by decide⟩ rfl rfl rfl (Nat.le_of_ble_eq_true rfl) dX3_tryAll_25 ⟨Nat.le_of_ble_eq_true rfl, Nat.le_of_ble_eq_true rfl⟩ (cq_kIp fun r_25 h_25 => ?_)
      rw [show (if 0 < g (1 + 0) then 2 else 0) = m0 from e_m0.symm] at h_25
      subst h_25
      refine cq_icmp_gt F (tgt := 140) dX3_tryAll_28 (by decide) (fun c_28 => ?_) (fun c_28 => ?_)
      · have c_28 : m0 < (g 4 + i) := (nI_b (a := m0) (b := (g 4 + i)) (by omega) (by omega)).2.1.mp c_28
        obtain rfl : i = pl_n g 0 := by omega
        exact cq_vret F hr (by decide) (by decide) dX3_tryAll_140 ⟨rfl, ⟨hFa, hfa⟩⟩
      · have c_28 : ¬ m0 < (g 4 + i) := fun z => c_28 ((nI_b (a := m0) (b := (g 4 + i)) (by omega) (by omega)).2.1.mpr z)
        have hi0 : i < pl_n g 0 := by omega
        refine cq_aload_n F (i := 0) dX3_tryAll_31 rfl rfl ?_
        refine cq_getT (t := (p + 7)) F (C := RX3) (T := TX3) (N := 4) (ci := 4) hp.kind rfl ⟨⟨by decide, by decide⟩, rfl⟩ inX3 2 (by decide) rfl rfl hp.t2 (F.1.2.2.2.2 _ (List.mem_of_getElem? (l := wsX3_tryAll) (i := 1) (a := .fieldLink RX3 20 "CordClock$Plans" "flames" "[[I") (by decide +kernel))) dX3_tryAll_32 ?_
        refine cq_iload_n F (i := 1) dX3_tryAll_35 rfl rfl ?_
        have hj_36 : s < 4 := (by omega)
        refine cq_aaldA_j F (j := s) (t := (p + 8 + s)) hp.k7 hp.n7 rfl ⟨hj_36, by decide⟩ (hp.rt2 _ hj_36) dX3_tryAll_36 ?_
        refine cq_iconst F (v := 1) dX3_tryAll_37 rfl ?_
        refine cq_iald_j F (j := 1) (hp.r2k _ hj_36) (hp.r2n _ hj_36) rfl ⟨(by omega), by decide⟩ dX3_tryAll_38 ?_
        rw [(show M2 (p + 8 + s) 1 = nI (g 5) from ((hst.fr hfa (by omega)) 1 (by omega)).2)]
        refine cq_istore F dX3_tryAll_39 (by decide) ?_
        refine cq_loc (L2 := [(0, .ref p), (1, .int (nI s)), (2, .int (nI (g 0))), (3, .int (nI (g 7))), (4, .int (nI (g 4 + i))), (5, .int (nI (g 5 + 0)))]) rfl ?_
        exact loop_41 (pl_n g 1 + 2) 0 M2 hi0 (Nat.zero_le _) (by rw [show pl_a g i ++ pl_b g (g 4 + i) 0 = pl_a g i from List.append_nil _]; exact hFa) (by rw [show pl_a g i ++ pl_b g (g 4 + i) 0 = pl_a g i from List.append_nil _]; exact hba) hfa (by omega)
  refine cq_iload_n F (i := 1) dX3_tryAll_0 rfl rfl ?_
  refine cq_if_lt F (tgt := 9) dX3_tryAll_1 (by decide) (fun c_1 => ?_) (fun c_1 => ?_)
  · have c_1 : s < 0 := (nI_b (a := s) (b := 0) (by omega) (by omega)).2.1.mp c_1
    omega
  · have c_1 : ¬ s < 0 := fun z => c_1 ((nI_b (a := s) (b := 0) (by omega) (by omega)).2.1.mpr z)
    refine cq_iload_n F (i := 1) dX3_tryAll_4 rfl rfl ?_
    refine cq_iconst F (v := 3) dX3_tryAll_5 rfl ?_
    refine cq_icmp_lt F (tgt := 10) dX3_tryAll_6 (by decide) (fun c_6 => ?_) (fun c_6 => ?_)
    · have c_6 : s < 3 := (nI_b (a := s) (b := 3) (by omega) (by omega)).2.1.mp c_6
      refine cq_aload_n F (i := 0) dX3_tryAll_10 rfl rfl ?_
      refine cq_getT (t := (p + 7)) F (C := RX3) (T := TX3) (N := 4) (ci := 4) hp.kind rfl ⟨⟨by decide, by decide⟩, rfl⟩ inX3 2 (by decide) rfl rfl hp.t2 (F.1.2.2.2.2 _ (List.mem_of_getElem? (l := wsX3_tryAll) (i := 1) (a := .fieldLink RX3 20 "CordClock$Plans" "flames" "[[I") (by decide +kernel))) dX3_tryAll_11 ?_
      refine cq_iload_n F (i := 1) dX3_tryAll_14 rfl rfl ?_
      have hj_15 : s < 4 := (by omega)
      refine cq_aaldA_j F (j := s) (t := (p + 8 + s)) hp.k7 hp.n7 rfl ⟨hj_15, by decide⟩ (hp.rt2 _ hj_15) dX3_tryAll_15 ?_
      refine cq_iconst F (v := 0) dX3_tryAll_16 rfl ?_
      refine cq_iald_j F (j := 0) (hp.r2k _ hj_15) (hp.r2n _ hj_15) rfl ⟨(by omega), by decide⟩ dX3_tryAll_17 ?_
      rw [(show M (p + 8 + s) 0 = nI (g 4) from ((hst.fr pc_fr.rf (by omega)) 0 (by omega)).2)]
      refine cq_istore F dX3_tryAll_18 (by decide) ?_
      refine cq_loc (L2 := [(0, .ref p), (1, .int (nI s)), (2, .int (nI (g 0))), (3, .int (nI (g 7))), (4, .int (nI (g 4 + 0)))]) rfl ?_
      exact loop_20 (pl_n g 0 + 2) 0 M (Nat.zero_le _) hF hb pc_fr.rf (by omega)
    · have c_6 : ¬ s < 3 := fun z => c_6 ((nI_b (a := s) (b := 3) (by omega) (by omega)).2.1.mpr z)
      omega
abbrev rmX3_burn_2 : Room := ({ frames := 6, cells := 0, slots := 0, locals := 150 })
set_option maxHeartbeats 4000000 in
set_option maxRecDepth 100000 in
theorem kX3_burn_2 (l : Launch) (D : va_G) (cA : Nat → ClassId) (X : cq_X) (Bs : Nat) (p s : Nat) (g : Nat → Nat) (x y v : Nat) (Y : Nat → Nat) (M : cq_M) (hp : cq_isPlans X p) (hs : s = 0) (hst : pc_st M p s g) (hv : pl_v g x y v) (hok : pl_ok g 0) (hfl : pc_fl M p (s + 1) x y v) (hF : pc_F M p Y) (hb : ∀ t, Y t ≤ 1080) : cq_C l yX3_burnToSignal wsX3_burnToSignal rmX3_burn_2 D cA X Bs [.ref p, .int (nI s), .int (nI (g 0)), .int (nI (g 7 + pl_m g x y v 3))] M (cq_PV (fun M1 => pc_F M1 p (List.foldl pl_note Y (pl_d 2 (pl_go g x y v))) ∧ pc_fr M M1 p s)) 0 0 := by
  refine cq_met (cc := cX3_burnToSignal) (maxL := 7) (ret := none) (by decide) rfl (Nat.le_of_ble_eq_true rfl) [(0, .ref p), (1, .int (nI s)), (2, .int (nI (g 0))), (3, .int (nI (g 7 + pl_m g x y v 3)))] rfl rfl ?_
  intro p9 e9 s9 m9 b9 t9 c9 F hr
  have inX3 : ∀ w ∈ wsX30, w ∈ wsX3_burnToSignal := (fun w h => List.mem_cons_of_mem _ (List.mem_append_right _ h))
  have hst9 := pl_st_le hok hv 3 (by omega)
  have hm9 := pl_m_le hv 3 (by omega)
  have hg0 := hok.1
  have hg7 := hok.2.2.1
  have loop_17 : ∀ (n_17 : Nat) (i : Nat) (M2 : cq_M), ¬ pl_st g x y v 3 = 0 → i ≤ 3 → ((∀ j, j < 3 → M2 (p + 8 + (s + 1)) j = nI (if j < i then pl_nx g x y v (4 + j) else pl_f x y v j)) ∧ (∀ j, j < i → M2 (p + 3 + (s + 1)) j = nI (pl_nx g x y v (1 + j))) ∧ ∀ r, r ≠ p + 3 + (s + 1) → r ≠ p + 8 + (s + 1) → M2 r = M r) → 4 - i < n_17 → cq_V p9 l e9 rmX3_burn_2 s9 m9 ([.ref p, .int (nI s), .int (nI (g 0)), .int (nI (g 7 + pl_m g x y v 3))] : List Value).toArray b9 t9 c9 D cA X Bs 7 0 0 (MQ b9 (cq_Q D cA X Bs (cq_PV (fun M1 => pc_F M1 p (List.foldl pl_note Y (pl_d 2 (pl_go g x y v))) ∧ pc_fr M M1 p s))) ([.ref p, .int (nI s), .int (nI (g 0)), .int (nI (g 7 + pl_m g x y v 3))] : List Value).toArray s9 0 0 (cq_A Bs)) 17 [(0, .ref p), (1, .int (nI s)), (2, .int (nI (g 0))), (3, .int (nI (g 7 + pl_m g x y v 3))), (4, .int (nI (pl_st g x y v 3))), (5, .int (nI i))] [] M2 := by
    intro n_17
    induction n_17 with
    | zero =>
      intros
      omega
    | succ n_17 ih_17 =>
      intro i M2 hne hi3 hI hn
      have hvi : i < 3 → g (4 + i) ≤ pl_f x y v i ∧ pl_f x y v i ≤ 2 ∧ (g (1 + i) = 0 → pl_f x y v i = 0) := fun q => hv i q
      have hgi : i < 3 → g (1 + i) ≤ 360 := fun q => (hok.2.1 i q).1
      refine cq_iload F dX3_burnToSignal_17 rfl ?_
      refine cq_iconst F (v := 3) dX3_burnToSignal_19 rfl ?_
      refine cq_icmp_ge F (tgt := 89) dX3_burnToSignal_20 (by decide) (fun c_20 => ?_) (fun c_20 => ?_)
      · have c_20 : 3 ≤ i := (nI_b (a := 3) (b := i) (by omega) (by omega)).1.mp c_20
        obtain rfl : i = 3 := by omega
        refine cq_aload_n F (i := 0) dX3_burnToSignal_89 rfl rfl ?_
        refine cq_iload_n F (i := 2) dX3_burnToSignal_90 rfl rfl ?_
        refine cq_iload F dX3_burnToSignal_91 rfl ?_
        refine cq_iadd F dX3_burnToSignal_93 ?_
        rw [show (nI (g 0) + nI (pl_st g x y v 3) : Int32) = nI ((g 0) + (pl_st g x y v 3)) from nI_add _ _]
        refine cq_iload_n F (i := 3) dX3_burnToSignal_94 rfl rfl ?_
        have hok2 := pl_nx_ok hok hv hne
        refine cq_callV F (C := RX3) (ci := 4) (kX3_noteTold l D cA X Bs p (g 0 + pl_st g x y v 3) (g 7 + pl_m g x y v 3) Y M2 hp (by omega) ⟨by have := pl_nx_lit hok hne; rw [pl_nx_7] at this; exact this, by omega⟩ (fun j hj => by rw [hI.2.2 _ (by omega) (by omega)]; exact hF j hj) (hb _)) (cwV 2 F.1.2.2.2.2 gX3_burnToSignal_X3_noteTold rfl rfl rfl hdVX3_noteTold ⟨Nat.le_of_ble_eq_true rfl, Nat.le_of_ble_eq_true rfl⟩) hp.kind ⟨by decide, by decide⟩ rfl rfl rfl (Nat.le_of_ble_eq_true rfl) dX3_burnToSignal_95 ⟨Nat.le_of_ble_eq_true rfl, Nat.le_of_ble_eq_true rfl⟩ (cq_kV fun M_95 h_95 => ?_)
        have hst2 : pc_st M_95 p (s + 1) (pl_nx g x y v) := fun j hj => by
          rw [h_95.2 _ (by omega), h_95.2 _ (by omega), hI.1 j hj, if_pos hj]
          exact ⟨hI.2.1 j hj, rfl⟩
        have hF2 : pc_F M_95 p (pl_note Y (pl_nx g x y v)) := by
          have q := h_95.1
          unfold pl_note
          rw [pl_nx_0, pl_nx_7]
          exact q
        refine cq_aload_n F (i := 0) dX3_burnToSignal_98 rfl rfl ?_
        refine cq_iload_n F (i := 1) dX3_burnToSignal_99 rfl rfl ?_
        refine cq_iconst F (v := 1) dX3_burnToSignal_100 rfl ?_
        refine cq_iadd F dX3_burnToSignal_101 ?_
        rw [show (nI s + 1 : Int32) = nI (s + 1) from nI_add _ _]
        refine cq_iload_n F (i := 2) dX3_burnToSignal_102 rfl rfl ?_
        refine cq_iload F dX3_burnToSignal_103 rfl ?_
        refine cq_iadd F dX3_burnToSignal_105 ?_
        rw [show (nI (g 0) + nI (pl_st g x y v 3) : Int32) = nI ((g 0) + (pl_st g x y v 3)) from nI_add _ _]
        refine cq_iload_n F (i := 3) dX3_burnToSignal_106 rfl rfl ?_
        rw [show nI (g 0 + pl_st g x y v 3) = nI (pl_nx g x y v 0) by rw [pl_nx_0], show nI (g 7 + pl_m g x y v 3) = nI (pl_nx g x y v 7) by rw [pl_nx_7]]
        refine cq_callV F (C := RX3) (ci := 4) (kX3_try_2 l D cA X Bs p (s + 1) (pl_nx g x y v) (pl_note Y (pl_nx g x y v)) M_95 hp (by omega) hst2 hok2 hF2 (pl_note_le hb (by have := hok2.2.2.1; omega))) (cwV 3 F.1.2.2.2.2 gX3_burnToSignal_X3_tryAll rfl rfl rfl hdVX3_tryAll ⟨Nat.le_of_ble_eq_true rfl, Nat.le_of_ble_eq_true rfl⟩) hp.kind ⟨by decide, by decide⟩ rfl rfl rfl (Nat.le_of_ble_eq_true rfl) dX3_burnToSignal_107 ⟨Nat.le_of_ble_eq_true rfl, Nat.le_of_ble_eq_true rfl⟩ (cq_kV fun M_107 h_107 => ?_)
        refine cq_vret F hr (by decide) (by decide) dX3_burnToSignal_110 ⟨rfl, ?_⟩
        rw [pl_go_d hne]
        exact ⟨h_107.1, fun r r1 r2 r3 => by rw [h_107.2 r r1 (by omega) (by omega), h_95.2 r r1, hI.2.2 r (by omega) (by omega)]⟩
      · have c_20 : ¬ 3 ≤ i := fun z => c_20 ((nI_b (a := 3) (b := i) (by omega) (by omega)).1.mpr z)
        refine cq_iconst F (v := 0) dX3_burnToSignal_23 rfl ?_
        refine cq_aload_n F (i := 0) dX3_burnToSignal_24 rfl rfl ?_
        refine cq_getT (t := (p + 2)) F (C := RX3) (T := TX3) (N := 4) (ci := 4) hp.kind rfl ⟨⟨by decide, by decide⟩, rfl⟩ inX3 1 (by decide) rfl rfl hp.t1 (F.1.2.2.2.2 _ (List.mem_of_getElem? (l := wsX3_burnToSignal) (i := 1) (a := .fieldLink RX3 17 "CordClock$Plans" "timeLeft" "[[I") (by decide +kernel))) dX3_burnToSignal_25 ?_
        refine cq_iload_n F (i := 1) dX3_burnToSignal_28 rfl rfl ?_
        have hj_29 : s < 4 := (by omega)
        refine cq_aaldA_j F (j := s) (t := (p + 3 + s)) hp.k2 hp.n2 rfl ⟨hj_29, by decide⟩ (hp.rt1 _ hj_29) dX3_burnToSignal_29 ?_
        refine cq_iload F dX3_burnToSignal_30 rfl ?_
        refine cq_iald_j F (j := i) (hp.r1k _ hj_29) (hp.r1n _ hj_29) rfl ⟨(by omega), by decide⟩ dX3_burnToSignal_32 ?_
        rw [(show M2 (p + 3 + s) i = nI (g (1 + i)) by rw [hI.2.2 _ (by omega) (by omega)]; exact (hst i (by omega)).1)]
        refine cq_aload_n F (i := 0) dX3_burnToSignal_33 rfl rfl ?_
        refine cq_getT (t := (p + 7)) F (C := RX3) (T := TX3) (N := 4) (ci := 4) hp.kind rfl ⟨⟨by decide, by decide⟩, rfl⟩ inX3 2 (by decide) rfl rfl hp.t2 (F.1.2.2.2.2 _ (List.mem_of_getElem? (l := wsX3_burnToSignal) (i := 2) (a := .fieldLink RX3 20 "CordClock$Plans" "flames" "[[I") (by decide +kernel))) dX3_burnToSignal_34 ?_
        refine cq_iload_n F (i := 1) dX3_burnToSignal_37 rfl rfl ?_
        refine cq_iconst F (v := 1) dX3_burnToSignal_38 rfl ?_
        refine cq_iadd F dX3_burnToSignal_39 ?_
        rw [show (nI s + 1 : Int32) = nI (s + 1) from nI_add _ _]
        have hj_40 : (s + 1) < 4 := (by omega)
        refine cq_aaldA_j F (j := (s + 1)) (t := (p + 8 + (s + 1))) hp.k7 hp.n7 rfl ⟨hj_40, by decide⟩ (hp.rt2 _ hj_40) dX3_burnToSignal_40 ?_
        refine cq_iload F dX3_burnToSignal_41 rfl ?_
        refine cq_iald_j F (j := i) (hp.r2k _ hj_40) (hp.r2n _ hj_40) rfl ⟨(by omega), by decide⟩ dX3_burnToSignal_43 ?_
        rw [(show M2 (p + 8 + (s + 1)) i = nI (pl_f x y v i) by rw [hI.1 i (by omega), if_neg (by omega)])]
        refine cq_iload F dX3_burnToSignal_44 rfl ?_
        refine cq_imul F dX3_burnToSignal_46 ?_
        rw [show (nI (pl_f x y v i) * nI (pl_st g x y v 3) : Int32) = nI ((pl_f x y v i) * (pl_st g x y v 3)) from pk_mul _ _]
        refine cq_isub F dX3_burnToSignal_47 ?_
        refine cq_mmax F (F.1.2.2.2.2 _ (List.mem_of_getElem? (l := wsX3_burnToSignal) (i := 3) (a := .methodLink RX3 45 Lib.Math.max.name) (by decide +kernel))) (F.1.2.2.2.2 _ (List.mem_of_getElem? (l := wsX3_burnToSignal) (i := 4) (a := .static Lib.Math.max.name) (by decide +kernel))) (F.1.2.2.2.2 _ (List.mem_of_getElem? (l := wsX3_burnToSignal) (i := 5) (a := .initialized "java/lang/Math") (by decide +kernel))) (F.1.2.2.2.2 _ (List.mem_of_getElem? (l := wsX3_burnToSignal) (i := 6) (a := .code Lib.Math.max.name Lib.Math.max.code 2 (some .int)) (by decide +kernel))) ⟨by decide, Nat.le_of_ble_eq_true rfl, by decide, by decide⟩ dX3_burnToSignal_48 ?_
        have hp9 : pl_f x y v i * pl_st g x y v 3 ≤ 2 * 360 := Nat.mul_le_mul (hvi (by omega)).2.1 hst9
        rw [show (if (0 : Int32) < nI (g (1 + i)) - nI (pl_f x y v i * pl_st g x y v 3) then nI (g (1 + i)) - nI (pl_f x y v i * pl_st g x y v 3) else 0) = nI (pl_r g x y v i) from pl_max (by omega) (by omega)]
        have hr9 : (pl_r g x y v i) ≤ 360 := by unfold pl_r; omega
        refine cq_istore F dX3_burnToSignal_51 (by decide) ?_
        refine cq_aload_n F (i := 0) dX3_burnToSignal_53 rfl rfl ?_
        refine cq_getT (t := (p + 2)) F (C := RX3) (T := TX3) (N := 4) (ci := 4) hp.kind rfl ⟨⟨by decide, by decide⟩, rfl⟩ inX3 1 (by decide) rfl rfl hp.t1 (F.1.2.2.2.2 _ (List.mem_of_getElem? (l := wsX3_burnToSignal) (i := 1) (a := .fieldLink RX3 17 "CordClock$Plans" "timeLeft" "[[I") (by decide +kernel))) dX3_burnToSignal_54 ?_
        refine cq_iload_n F (i := 1) dX3_burnToSignal_57 rfl rfl ?_
        refine cq_iconst F (v := 1) dX3_burnToSignal_58 rfl ?_
        refine cq_iadd F dX3_burnToSignal_59 ?_
        rw [show (nI s + 1 : Int32) = nI (s + 1) from nI_add _ _]
        have hj_60 : (s + 1) < 4 := (by omega)
        refine cq_aaldA_j F (j := (s + 1)) (t := (p + 3 + (s + 1))) hp.k2 hp.n2 rfl ⟨hj_60, by decide⟩ (hp.rt1 _ hj_60) dX3_burnToSignal_60 ?_
        refine cq_iload F dX3_burnToSignal_61 rfl ?_
        refine cq_iload F dX3_burnToSignal_63 rfl ?_
        refine cq_iast_j F (j := i) (hp.r1k _ hj_60) (hp.r1n _ hj_60) rfl ⟨(by omega), by decide⟩ dX3_burnToSignal_65 (fun M_65 h_65 => ?_)
        refine cq_iload F dX3_burnToSignal_66 rfl ?_
        refine cq_if_ne F (tgt := 83) dX3_burnToSignal_68 (by decide) (fun c_68 => ?_) (fun c_68 => ?_)
        · have c_68 : ¬ (pl_r g x y v i) = 0 := fun z => c_68 ((nI_b (a := (pl_r g x y v i)) (b := 0) (by omega) (by omega)).2.2.mpr z)
          refine cq_iinc F dX3_burnToSignal_83 rfl (by decide) (fun x_83 e_83 => ?_)
          obtain rfl : x_83 = nI (i + 1) := by rw [e_83]; exact nI_1 _
          refine cq_goto F (tgt := 17) dX3_burnToSignal_86 (by decide) ?_
          refine cq_loc (L2 := [(0, .ref p), (1, .int (nI s)), (2, .int (nI (g 0))), (3, .int (nI (g 7 + pl_m g x y v 3))), (4, .int (nI (pl_st g x y v 3))), (5, .int (nI (i + 1)))]) rfl ?_
          refine ih_17 (i + 1) M_65 hne (by omega) ⟨fun j hj => ?_, fun j hj => ?_, fun r r1 r2 => ?_⟩ (by omega)
          · rw [h_65, cq_up_a (by omega), hI.1 j hj]
            by_cases e : j = i
            · rw [e, if_neg (by omega), if_pos (by omega), pl_nx_f (by omega), if_pos (by omega)]
            · by_cases e2 : j < i
              · rw [if_pos e2, if_pos (by omega)]
              · rw [if_neg e2, if_neg (by omega)]
          · rw [h_65]
            by_cases e : j = i
            · rw [e, cq_up_s, pl_nx_r (by omega)]
            · rw [cq_up_k e]; exact hI.2.1 j (by omega)
          · rw [h_65, cq_up_row r1]; exact hI.2.2 r r1 r2
        · have c_68 : (pl_r g x y v i) = 0 := (nI_b (a := (pl_r g x y v i)) (b := 0) (by omega) (by omega)).2.2.mp c_68
          refine cq_aload_n F (i := 0) dX3_burnToSignal_71 rfl rfl ?_
          refine cq_getT (t := (p + 7)) F (C := RX3) (T := TX3) (N := 4) (ci := 4) hp.kind rfl ⟨⟨by decide, by decide⟩, rfl⟩ inX3 2 (by decide) rfl rfl hp.t2 (F.1.2.2.2.2 _ (List.mem_of_getElem? (l := wsX3_burnToSignal) (i := 2) (a := .fieldLink RX3 20 "CordClock$Plans" "flames" "[[I") (by decide +kernel))) dX3_burnToSignal_72 ?_
          refine cq_iload_n F (i := 1) dX3_burnToSignal_75 rfl rfl ?_
          refine cq_iconst F (v := 1) dX3_burnToSignal_76 rfl ?_
          refine cq_iadd F dX3_burnToSignal_77 ?_
          rw [show (nI s + 1 : Int32) = nI (s + 1) from nI_add _ _]
          have hj_78 : (s + 1) < 4 := (by omega)
          refine cq_aaldA_j F (j := (s + 1)) (t := (p + 8 + (s + 1))) hp.k7 hp.n7 rfl ⟨hj_78, by decide⟩ (hp.rt2 _ hj_78) dX3_burnToSignal_78 ?_
          refine cq_iload F dX3_burnToSignal_79 rfl ?_
          refine cq_iconst F (v := 0) dX3_burnToSignal_81 rfl ?_
          refine cq_iast_j F (j := i) (hp.r2k _ hj_78) (hp.r2n _ hj_78) rfl ⟨(by omega), by decide⟩ dX3_burnToSignal_82 (fun M_82 h_82 => ?_)
          refine cq_iinc F dX3_burnToSignal_83 rfl (by decide) (fun x_83 e_83 => ?_)
          obtain rfl : x_83 = nI (i + 1) := by rw [e_83]; exact nI_1 _
          refine cq_goto F (tgt := 17) dX3_burnToSignal_86 (by decide) ?_
          refine cq_loc (L2 := [(0, .ref p), (1, .int (nI s)), (2, .int (nI (g 0))), (3, .int (nI (g 7 + pl_m g x y v 3))), (4, .int (nI (pl_st g x y v 3))), (5, .int (nI (i + 1)))]) rfl ?_
          refine ih_17 (i + 1) M_82 hne (by omega) ⟨fun j hj => ?_, fun j hj => ?_, fun r r1 r2 => ?_⟩ (by omega)
          · rw [h_82]
            by_cases e : j = i
            · rw [e, cq_up_s, if_pos (by omega), pl_nx_f (by omega), if_neg (by omega)]; rfl
            · rw [cq_up_k e, h_65, cq_up_a (by omega), hI.1 j hj]
              by_cases e2 : j < i
              · rw [if_pos e2, if_pos (by omega)]
              · rw [if_neg e2, if_neg (by omega)]
          · rw [h_82, cq_up_a (by omega), h_65]
            by_cases e : j = i
            · rw [e, cq_up_s, pl_nx_r (by omega)]
            · rw [cq_up_k e]; exact hI.2.1 j (by omega)
          · rw [h_82, cq_up_row r2, h_65, cq_up_row r1]; exact hI.2.2 r r1 r2
  refine cq_aload_n F (i := 0) dX3_burnToSignal_0 rfl rfl ?_
  refine cq_iload_n F (i := 1) dX3_burnToSignal_1 rfl rfl ?_
  refine cq_callV F (C := RX3) (ci := 4) (kX3_stepsToSignal l D cA X Bs p s g x y v 0 M hp (by omega) hst hv hok hfl) (cwV 1 F.1.2.2.2.2 gX3_burnToSignal_X3_stepsToSignal rfl rfl rfl hdVX3_stepsToSignal ⟨Nat.le_of_ble_eq_true rfl, Nat.le_of_ble_eq_true rfl⟩) hp.kind ⟨by decide, by decide⟩ rfl rfl rfl (Nat.le_of_ble_eq_true rfl) dX3_burnToSignal_2 ⟨Nat.le_of_ble_eq_true rfl, Nat.le_of_ble_eq_true rfl⟩ (cq_kIp fun r_2 h_2 => ?_)
  refine cq_nmi (fun x_5 e_5 => ?_)
  refine cq_istore F dX3_burnToSignal_5 (by decide) ?_
  refine cq_iload F dX3_burnToSignal_7 rfl ?_
  refine cq_iconst F (v := (-1)) dX3_burnToSignal_9 rfl ?_
  refine cq_icmp_ne F (tgt := 14) dX3_burnToSignal_10 (by decide) (fun c_10 => ?_) (fun c_10 => ?_)
  · obtain ⟨hne, rfl⟩ : ¬ pl_st g x y v 3 = 0 ∧ x_5 = nI (pl_st g x y v 3) := by
      rw [← e_5] at h_2
      by_cases q : pl_st g x y v 3 = 0
      · rw [if_pos q] at h_2; exact absurd h_2 c_10
      · rw [if_neg q] at h_2; exact ⟨q, h_2⟩
    refine cq_iconst F (v := 0) dX3_burnToSignal_14 rfl ?_
    refine cq_istore F dX3_burnToSignal_15 (by decide) ?_
    refine cq_loc (L2 := [(0, .ref p), (1, .int (nI s)), (2, .int (nI (g 0))), (3, .int (nI (g 7 + pl_m g x y v 3))), (4, .int (nI (pl_st g x y v 3))), (5, .int (nI 0))]) rfl ?_
    exact loop_17 5 0 M hne (by omega) ⟨fun j hj => by rw [if_neg (by omega)]; exact hfl j hj, fun j hj => absurd hj (by omega), fun _ _ _ => rfl⟩ (by omega)
  · have h0 : pl_st g x y v 3 = 0 := by
      by_cases q : pl_st g x y v 3 = 0
      · exact q
      · rw [if_neg q] at h_2; rw [← e_5, c_10] at h_2; exact absurd h_2.symm (nI_m1 (by omega))
    refine cq_vret F hr (by decide) (by decide) dX3_burnToSignal_13 ⟨rfl, ?_⟩
    rw [pl_go_d0 h0]
    exact ⟨hF, pc_fr.rf⟩
abbrev rmX3_try_3 : Room := ({ frames := 7, cells := 0, slots := 0, locals := 176 })
set_option maxHeartbeats 4000000 in
set_option maxRecDepth 100000 in
theorem kX3_try_3 (l : Launch) (D : va_G) (cA : Nat → ClassId) (X : cq_X) (Bs : Nat) (p s : Nat) (g : Nat → Nat) (Y : Nat → Nat) (M : cq_M) (hp : cq_isPlans X p) (hs : s = 0) (hst : pc_st M p s g) (hok : pl_ok g 0) (hF : pc_F M p Y) (hb : ∀ t, Y t ≤ 1080) : cq_C l yX3_tryAll wsX3_tryAll rmX3_try_3 D cA X Bs [.ref p, .int (nI s), .int (nI (g 0)), .int (nI (g 7))] M (cq_PV (fun M1 => pc_F M1 p (List.foldl pl_note Y (pl_dfs 3 g)) ∧ pc_fr M M1 p s)) 0 0 := by
  refine cq_met (cc := cX3_tryAll) (maxL := 7) (ret := none) (by decide) rfl (Nat.le_of_ble_eq_true rfl) [(0, .ref p), (1, .int (nI s)), (2, .int (nI (g 0))), (3, .int (nI (g 7)))] rfl rfl ?_
  intro p9 e9 s9 m9 b9 t9 c9 F hr
  have inX3 : ∀ w ∈ wsX30, w ∈ wsX3_tryAll := (fun w h => List.mem_cons_of_mem _ (List.mem_append_right _ h))
  have hg4 : g 4 ≤ 2 := (hok.2.1 0 (by omega)).2.1
  have hg5 : g 5 ≤ 2 := (hok.2.1 1 (by omega)).2.1
  have hg6 : g 6 ≤ 2 := (hok.2.1 2 (by omega)).2.1
  have hg1 : g 1 ≤ 360 := (hok.2.1 0 (by omega)).1
  have hg2 : g 2 ≤ 360 := (hok.2.1 1 (by omega)).1
  have hg3 : g 3 ≤ 360 := (hok.2.1 2 (by omega)).1
  have hg0 := hok.1
  have hg7 := hok.2.2.1
  obtain ⟨m0, e_m0⟩ : ∃ v, v = (if 0 < g 1 then 2 else 0) := ⟨_, rfl⟩
  have hm0 : pl_n g 0 = m0 + 1 - g 4 := by rw [e_m0]; show (if 0 < g 1 then 3 else 1) - g 4 = _; split <;> omega
  have hq0 : m0 ≤ 2 := by rw [e_m0]; split <;> omega
  obtain ⟨m1, e_m1⟩ : ∃ v, v = (if 0 < g 2 then 2 else 0) := ⟨_, rfl⟩
  have hm1 : pl_n g 1 = m1 + 1 - g 5 := by rw [e_m1]; show (if 0 < g 2 then 3 else 1) - g 5 = _; split <;> omega
  have hq1 : m1 ≤ 2 := by rw [e_m1]; split <;> omega
  obtain ⟨m2, e_m2⟩ : ∃ v, v = (if 0 < g 3 then 2 else 0) := ⟨_, rfl⟩
  have hm2 : pl_n g 2 = m2 + 1 - g 6 := by rw [e_m2]; show (if 0 < g 3 then 3 else 1) - g 6 = _; split <;> omega
  have hq2 : m2 ≤ 2 := by rw [e_m2]; split <;> omega
  have loop_20 : ∀ (n_20 : Nat) (i : Nat) (M2 : cq_M), i ≤ pl_n g 0 → pc_F M2 p (List.foldl pl_note Y (pl_d 2 (pl_a g i))) → (∀ t, List.foldl pl_note Y (pl_d 2 (pl_a g i)) t ≤ 1080) → pc_fr M M2 p s → pl_n g 0 + 1 - i < n_20 → cq_V p9 l e9 rmX3_try_3 s9 m9 ([.ref p, .int (nI s), .int (nI (g 0)), .int (nI (g 7))] : List Value).toArray b9 t9 c9 D cA X Bs 7 0 0 (MQ b9 (cq_Q D cA X Bs (cq_PV (fun M1 => pc_F M1 p (List.foldl pl_note Y (pl_dfs 3 g)) ∧ pc_fr M M1 p s))) ([.ref p, .int (nI s), .int (nI (g 0)), .int (nI (g 7))] : List Value).toArray s9 0 0 (cq_A Bs)) 20 [(0, .ref p), (1, .int (nI s)), (2, .int (nI (g 0))), (3, .int (nI (g 7))), (4, .int (nI (g 4 + i)))] [] M2 := by
    intro n_20
    induction n_20 with
    | zero =>
      intros
      omega
    | succ n_20 ih_20 =>
      intro i M2 hi hFa hba hfa hn
      have loop_41 : ∀ (n_41 : Nat) (j : Nat) (M3 : cq_M), i < pl_n g 0 → j ≤ pl_n g 1 → pc_F M3 p (List.foldl pl_note Y (pl_d 2 (pl_a g i ++ pl_b g (g 4 + i) j))) → (∀ t, List.foldl pl_note Y (pl_d 2 (pl_a g i ++ pl_b g (g 4 + i) j)) t ≤ 1080) → pc_fr M M3 p s → pl_n g 1 + 1 - j < n_41 → cq_V p9 l e9 rmX3_try_3 s9 m9 ([.ref p, .int (nI s), .int (nI (g 0)), .int (nI (g 7))] : List Value).toArray b9 t9 c9 D cA X Bs 7 0 0 (MQ b9 (cq_Q D cA X Bs (cq_PV (fun M1 => pc_F M1 p (List.foldl pl_note Y (pl_dfs 3 g)) ∧ pc_fr M M1 p s))) ([.ref p, .int (nI s), .int (nI (g 0)), .int (nI (g 7))] : List Value).toArray s9 0 0 (cq_A Bs)) 41 [(0, .ref p), (1, .int (nI s)), (2, .int (nI (g 0))), (3, .int (nI (g 7))), (4, .int (nI (g 4 + i))), (5, .int (nI (g 5 + j)))] [] M3 := by
        intro n_41
        induction n_41 with
        | zero =>
          intros
          omega
        | succ n_41 ih_41 =>
          intro j M3 hi0 hj hFb hbb hfb hn
          have loop_62 : ∀ (n_62 : Nat) (k : Nat) (M4 : cq_M), j < pl_n g 1 → k ≤ pl_n g 2 → pc_F M4 p (List.foldl pl_note Y (pl_d 2 (pl_a g i ++ (pl_b g (g 4 + i) j ++ pl_c g (g 4 + i) (g 5 + j) k)))) → (∀ t, List.foldl pl_note Y (pl_d 2 (pl_a g i ++ (pl_b g (g 4 + i) j ++ pl_c g (g 4 + i) (g 5 + j) k))) t ≤ 1080) → pc_fr M M4 p s → pl_n g 2 + 1 - k < n_62 → cq_V p9 l e9 rmX3_try_3 s9 m9 ([.ref p, .int (nI s), .int (nI (g 0)), .int (nI (g 7))] : List Value).toArray b9 t9 c9 D cA X Bs 7 0 0 (MQ b9 (cq_Q D cA X Bs (cq_PV (fun M1 => pc_F M1 p (List.foldl pl_note Y (pl_dfs 3 g)) ∧ pc_fr M M1 p s))) ([.ref p, .int (nI s), .int (nI (g 0)), .int (nI (g 7))] : List Value).toArray s9 0 0 (cq_A Bs)) 62 [(0, .ref p), (1, .int (nI s)), (2, .int (nI (g 0))), (3, .int (nI (g 7))), (4, .int (nI (g 4 + i))), (5, .int (nI (g 5 + j))), (6, .int (nI (g 6 + k)))] [] M4 := by
            intro n_62
            induction n_62 with
            | zero =>
              intros
              omega
            | succ n_62 ih_62 =>
              intro k M4 hj1 hk hFc hbc hfc hn
              refine cq_iload F dX3_tryAll_62 rfl ?_
              refine cq_aload_n F (i := 0) dX3_tryAll_64 rfl rfl ?_
              refine cq_iload_n F (i := 1) dX3_tryAll_65 rfl rfl ?_
              refine cq_iconst F (v := 2) dX3_tryAll_66 rfl ?_
              refine cq_callV F (C := RX3) (ci := 4) (kX3_mostFlames l D cA X Bs p s g 2 M4 hp (by omega) (hst.fr hfc (by omega)) (by omega) (by show g 3 < 1000; omega)) (cwV 2 F.1.2.2.2.2 gX3_tryAll_X3_mostFlames rfl rfl rfl hdVX3_mostFlames ⟨Nat.le_of_ble_eq_true rfl, Nat.le_of_ble_eq_true rfl⟩) hp.kind ⟨by decide, by decide⟩ rfl rfl rfl (Nat.le_of_ble_eq_true rfl) dX3_tryAll_67 ⟨Nat.le_of_ble_eq_true rfl, Nat.le_of_ble_eq_true rfl⟩ (cq_kIp fun r_67 h_67 => ?_)
              rw [show (if 0 < g (1 + 2) then 2 else 0) = m2 from e_m2.symm] at h_67
              subst h_67
              refine cq_icmp_gt F (tgt := 128) dX3_tryAll_70 (by decide) (fun c_70 => ?_) (fun c_70 => ?_)
              · have c_70 : m2 < (g 6 + k) := (nI_b (a := m2) (b := (g 6 + k)) (by omega) (by omega)).2.1.mp c_70
                obtain rfl : k = pl_n g 2 := by omega
                refine cq_iinc F dX3_tryAll_128 rfl (by decide) (fun x_128 e_128 => ?_)
                obtain rfl : x_128 = nI ((g 5 + j) + 1) := by rw [e_128]; exact nI_1 _
                refine cq_goto F (tgt := 41) dX3_tryAll_131 (by decide) ?_
                refine cq_loc (L2 := [(0, .ref p), (1, .int (nI s)), (2, .int (nI (g 0))), (3, .int (nI (g 7))), (4, .int (nI (g 4 + i))), (5, .int (nI (g 5 + (j + 1))))]) rfl ?_
                exact ih_41 (j + 1) M4 hi0 (by omega) hFc hbc hfc (by omega)
              · have c_70 : ¬ m2 < (g 6 + k) := fun z => c_70 ((nI_b (a := m2) (b := (g 6 + k)) (by omega) (by omega)).2.1.mpr z)
                have hk2 : k < pl_n g 2 := by omega
                have hv9 := pl_v_of hok hi0 hj1 hk2
                have hmm9 := pl_m_le hv9 3 (by omega)
                refine cq_aload_n F (i := 0) dX3_tryAll_73 rfl rfl ?_
                refine cq_getT (t := (p + 7)) F (C := RX3) (T := TX3) (N := 4) (ci := 4) hp.kind rfl ⟨⟨by decide, by decide⟩, rfl⟩ inX3 2 (by decide) rfl rfl hp.t2 (F.1.2.2.2.2 _ (List.mem_of_getElem? (l := wsX3_tryAll) (i := 1) (a := .fieldLink RX3 20 "CordClock$Plans" "flames" "[[I") (by decide +kernel))) dX3_tryAll_74 ?_
                refine cq_iload_n F (i := 1) dX3_tryAll_77 rfl rfl ?_
                refine cq_iconst F (v := 1) dX3_tryAll_78 rfl ?_
                refine cq_iadd F dX3_tryAll_79 ?_
                rw [show (nI s + 1 : Int32) = nI (s + 1) from nI_add _ _]
                have hj_80 : (s + 1) < 4 := (by omega)
                refine cq_aaldA_j F (j := (s + 1)) (t := (p + 8 + (s + 1))) hp.k7 hp.n7 rfl ⟨hj_80, by decide⟩ (hp.rt2 _ hj_80) dX3_tryAll_80 ?_
                refine cq_iconst F (v := 0) dX3_tryAll_81 rfl ?_
                refine cq_iload F dX3_tryAll_82 rfl ?_
                refine cq_iast_j F (j := 0) (hp.r2k _ hj_80) (hp.r2n _ hj_80) rfl ⟨(by omega), by decide⟩ dX3_tryAll_84 (fun M_84 h_84 => ?_)
                refine cq_aload_n F (i := 0) dX3_tryAll_85 rfl rfl ?_
                refine cq_getT (t := (p + 7)) F (C := RX3) (T := TX3) (N := 4) (ci := 4) hp.kind rfl ⟨⟨by decide, by decide⟩, rfl⟩ inX3 2 (by decide) rfl rfl hp.t2 (F.1.2.2.2.2 _ (List.mem_of_getElem? (l := wsX3_tryAll) (i := 1) (a := .fieldLink RX3 20 "CordClock$Plans" "flames" "[[I") (by decide +kernel))) dX3_tryAll_86 ?_
                refine cq_iload_n F (i := 1) dX3_tryAll_89 rfl rfl ?_
                refine cq_iconst F (v := 1) dX3_tryAll_90 rfl ?_
                refine cq_iadd F dX3_tryAll_91 ?_
                rw [show (nI s + 1 : Int32) = nI (s + 1) from nI_add _ _]
                have hj_92 : (s + 1) < 4 := (by omega)
                refine cq_aaldA_j F (j := (s + 1)) (t := (p + 8 + (s + 1))) hp.k7 hp.n7 rfl ⟨hj_92, by decide⟩ (hp.rt2 _ hj_92) dX3_tryAll_92 ?_
                refine cq_iconst F (v := 1) dX3_tryAll_93 rfl ?_
                refine cq_iload F dX3_tryAll_94 rfl ?_
                refine cq_iast_j F (j := 1) (hp.r2k _ hj_92) (hp.r2n _ hj_92) rfl ⟨(by omega), by decide⟩ dX3_tryAll_96 (fun M_96 h_96 => ?_)
                refine cq_aload_n F (i := 0) dX3_tryAll_97 rfl rfl ?_
                refine cq_getT (t := (p + 7)) F (C := RX3) (T := TX3) (N := 4) (ci := 4) hp.kind rfl ⟨⟨by decide, by decide⟩, rfl⟩ inX3 2 (by decide) rfl rfl hp.t2 (F.1.2.2.2.2 _ (List.mem_of_getElem? (l := wsX3_tryAll) (i := 1) (a := .fieldLink RX3 20 "CordClock$Plans" "flames" "[[I") (by decide +kernel))) dX3_tryAll_98 ?_
                refine cq_iload_n F (i := 1) dX3_tryAll_101 rfl rfl ?_
                refine cq_iconst F (v := 1) dX3_tryAll_102 rfl ?_
                refine cq_iadd F dX3_tryAll_103 ?_
                rw [show (nI s + 1 : Int32) = nI (s + 1) from nI_add _ _]
                have hj_104 : (s + 1) < 4 := (by omega)
                refine cq_aaldA_j F (j := (s + 1)) (t := (p + 8 + (s + 1))) hp.k7 hp.n7 rfl ⟨hj_104, by decide⟩ (hp.rt2 _ hj_104) dX3_tryAll_104 ?_
                refine cq_iconst F (v := 2) dX3_tryAll_105 rfl ?_
                refine cq_iload F dX3_tryAll_106 rfl ?_
                refine cq_iast_j F (j := 2) (hp.r2k _ hj_104) (hp.r2n _ hj_104) rfl ⟨(by omega), by decide⟩ dX3_tryAll_108 (fun M_108 h_108 => ?_)
                have hst9 : pc_st M_108 p s g := fun q hq => by rw [h_108, h_96, h_84, cq_up_row (by omega), cq_up_row (by omega), cq_up_row (by omega), cq_up_row (by omega), cq_up_row (by omega), cq_up_row (by omega)]; exact (hst.fr hfc (by omega)) q hq
                have hfl9 : pc_fl M_108 p (s + 1) (g 4 + i) (g 5 + j) (g 6 + k) := fun q hq => by
                  have h9 : q = 0 ∨ q = 1 ∨ q = 2 := by omega
                  rcases h9 with rfl | rfl | rfl
                  · rw [h_108, cq_up_k (by omega), h_96, cq_up_k (by omega), h_84]; exact cq_up_s _ _ _ _
                  · rw [h_108, cq_up_k (by omega), h_96]; exact cq_up_s _ _ _ _
                  · rw [h_108]; exact cq_up_s _ _ _ _
                have hF9 : pc_F M_108 p (List.foldl pl_note Y (pl_d 2 (pl_a g i ++ (pl_b g (g 4 + i) j ++ pl_c g (g 4 + i) (g 5 + j) k)))) := fun q hq => by rw [h_108, h_96, h_84, cq_up_row (by omega), cq_up_row (by omega), cq_up_row (by omega)]; exact hFc q hq
                have hfr9 : pc_fr M M_108 p s := fun r r1 r2 r3 => by rw [h_108, h_96, h_84, cq_up_row (by omega), cq_up_row (by omega), cq_up_row (by omega)]; exact hfc r r1 r2 r3
                refine cq_aload_n F (i := 0) dX3_tryAll_109 rfl rfl ?_
                refine cq_iload_n F (i := 1) dX3_tryAll_110 rfl rfl ?_
                refine cq_iload_n F (i := 2) dX3_tryAll_111 rfl rfl ?_
                refine cq_iload_n F (i := 3) dX3_tryAll_112 rfl rfl ?_
                refine cq_aload_n F (i := 0) dX3_tryAll_113 rfl rfl ?_
                refine cq_iload_n F (i := 1) dX3_tryAll_114 rfl rfl ?_
                refine cq_callV F (C := RX3) (ci := 4) (kX3_newFlames l D cA X Bs p s g (g 4 + i) (g 5 + j) (g 6 + k) 0 M_108 hp (by omega) hst9 hv9 hok hfl9) (cwV 1 F.1.2.2.2.2 gX3_tryAll_X3_newFlames rfl rfl rfl hdVX3_newFlames ⟨Nat.le_of_ble_eq_true rfl, Nat.le_of_ble_eq_true rfl⟩) hp.kind ⟨by decide, by decide⟩ rfl rfl rfl (Nat.le_of_ble_eq_true rfl) dX3_tryAll_115 ⟨Nat.le_of_ble_eq_true rfl, Nat.le_of_ble_eq_true rfl⟩ (cq_kIp fun r_115 h_115 => ?_)
                subst h_115
                refine cq_iadd F dX3_tryAll_118 ?_
                rw [show (nI (g 7) + nI (pl_m g (g 4 + i) (g 5 + j) (g 6 + k) 3) : Int32) = nI ((g 7) + (pl_m g (g 4 + i) (g 5 + j) (g 6 + k) 3)) from nI_add _ _]
                refine cq_callV F (C := RX3) (ci := 4) (kX3_burn_2 l D cA X Bs p s g (g 4 + i) (g 5 + j) (g 6 + k) (List.foldl pl_note Y (pl_d 2 (pl_a g i ++ (pl_b g (g 4 + i) j ++ pl_c g (g 4 + i) (g 5 + j) k)))) M_108 hp (by omega) hst9 hv9 hok hfl9 hF9 hbc) (cwV 3 F.1.2.2.2.2 gX3_tryAll_X3_burnToSignal rfl rfl rfl hdVX3_burnToSignal ⟨Nat.le_of_ble_eq_true rfl, Nat.le_of_ble_eq_true rfl⟩) hp.kind ⟨by decide, by decide⟩ rfl rfl rfl (Nat.le_of_ble_eq_true rfl) dX3_tryAll_119 ⟨Nat.le_of_ble_eq_true rfl, Nat.le_of_ble_eq_true rfl⟩ (cq_kV fun M_119 h_119 => ?_)
                refine cq_iinc F dX3_tryAll_122 rfl (by decide) (fun x_122 e_122 => ?_)
                obtain rfl : x_122 = nI ((g 6 + k) + 1) := by rw [e_122]; exact nI_1 _
                refine cq_goto F (tgt := 62) dX3_tryAll_125 (by decide) ?_
                refine cq_loc (L2 := [(0, .ref p), (1, .int (nI s)), (2, .int (nI (g 0))), (3, .int (nI (g 7))), (4, .int (nI (g 4 + i))), (5, .int (nI (g 5 + j))), (6, .int (nI (g 6 + (k + 1))))]) rfl ?_
                exact ih_62 (k + 1) M_119 hj1 (by omega) (by
                    rw [show (pl_a g i ++ (pl_b g (g 4 + i) j ++ pl_c g (g 4 + i) (g 5 + j) (k + 1))) = (pl_a g i ++ (pl_b g (g 4 + i) j ++ pl_c g (g 4 + i) (g 5 + j) k)) ++ pl_go g (g 4 + i) (g 5 + j) (g 6 + k) by rw [pl_c, List.append_assoc, List.append_assoc], pl_d_app, List.foldl_append]
                    exact h_119.1) (by
                    rw [show (pl_a g i ++ (pl_b g (g 4 + i) j ++ pl_c g (g 4 + i) (g 5 + j) (k + 1))) = (pl_a g i ++ (pl_b g (g 4 + i) j ++ pl_c g (g 4 + i) (g 5 + j) k)) ++ pl_go g (g 4 + i) (g 5 + j) (g 6 + k) by rw [pl_c, List.append_assoc, List.append_assoc], pl_d_app, List.foldl_append]
                    exact pl_fold_le hbc (fun q hq => pl_go_d7 hok hv9 (by omega) hq)) (hfr9.trans h_119.2) (by omega)
          refine cq_iload F dX3_tryAll_41 rfl ?_
          refine cq_aload_n F (i := 0) dX3_tryAll_43 rfl rfl ?_
          refine cq_iload_n F (i := 1) dX3_tryAll_44 rfl rfl ?_
          refine cq_iconst F (v := 1) dX3_tryAll_45 rfl ?_
          refine cq_callV F (C := RX3) (ci := 4) (kX3_mostFlames l D cA X Bs p s g 1 M3 hp (by omega) (hst.fr hfb (by omega)) (by omega) (by show g 2 < 1000; omega)) (cwV 2 F.1.2.2.2.2 gX3_tryAll_X3_mostFlames rfl rfl rfl hdVX3_mostFlames ⟨Nat.le_of_ble_eq_true rfl, Nat.le_of_ble_eq_true rfl⟩) hp.kind ⟨by decide, by decide⟩ rfl rfl rfl (Nat.le_of_ble_eq_true rfl) dX3_tryAll_46 ⟨Nat.le_of_ble_eq_true rfl, Nat.le_of_ble_eq_true rfl⟩ (cq_kIp fun r_46 h_46 => ?_)
          rw [show (if 0 < g (1 + 1) then 2 else 0) = m1 from e_m1.symm] at h_46
          subst h_46
          refine cq_icmp_gt F (tgt := 134) dX3_tryAll_49 (by decide) (fun c_49 => ?_) (fun c_49 => ?_)
          · have c_49 : m1 < (g 5 + j) := (nI_b (a := m1) (b := (g 5 + j)) (by omega) (by omega)).2.1.mp c_49
            obtain rfl : j = pl_n g 1 := by omega
            refine cq_iinc F dX3_tryAll_134 rfl (by decide) (fun x_134 e_134 => ?_)
            obtain rfl : x_134 = nI ((g 4 + i) + 1) := by rw [e_134]; exact nI_1 _
            refine cq_goto F (tgt := 20) dX3_tryAll_137 (by decide) ?_
            refine cq_loc (L2 := [(0, .ref p), (1, .int (nI s)), (2, .int (nI (g 0))), (3, .int (nI (g 7))), (4, .int (nI (g 4 + (i + 1))))]) rfl ?_
            exact ih_20 (i + 1) M3 (by omega) hFb hbb hfb (by omega)
          · have c_49 : ¬ m1 < (g 5 + j) := fun z => c_49 ((nI_b (a := m1) (b := (g 5 + j)) (by omega) (by omega)).2.1.mpr z)
            have hj1 : j < pl_n g 1 := by omega
            refine cq_aload_n F (i := 0) dX3_tryAll_52 rfl rfl ?_
            refine cq_getT (t := (p + 7)) F (C := RX3) (T := TX3) (N := 4) (ci := 4) hp.kind rfl ⟨⟨by decide, by decide⟩, rfl⟩ inX3 2 (by decide) rfl rfl hp.t2 (F.1.2.2.2.2 _ (List.mem_of_getElem? (l := wsX3_tryAll) (i := 1) (a := .fieldLink RX3 20 "CordClock$Plans" "flames" "[[I") (by decide +kernel))) dX3_tryAll_53 ?_
            refine cq_iload_n F (i := 1) dX3_tryAll_56 rfl rfl ?_
            have hj_57 : s < 4 := (by omega)
            refine cq_aaldA_j F (j := s) (t := (p + 8 + s)) hp.k7 hp.n7 rfl ⟨hj_57, by decide⟩ (hp.rt2 _ hj_57) dX3_tryAll_57 ?_
            refine cq_iconst F (v := 2) dX3_tryAll_58 rfl ?_
            refine cq_iald_j F (j := 2) (hp.r2k _ hj_57) (hp.r2n _ hj_57) rfl ⟨(by omega), by decide⟩ dX3_tryAll_59 ?_
            rw [(show M3 (p + 8 + s) 2 = nI (g 6) from ((hst.fr hfb (by omega)) 2 (by omega)).2)]
            refine cq_istore F dX3_tryAll_60 (by decide) ?_
            refine cq_loc (L2 := [(0, .ref p), (1, .int (nI s)), (2, .int (nI (g 0))), (3, .int (nI (g 7))), (4, .int (nI (g 4 + i))), (5, .int (nI (g 5 + j))), (6, .int (nI (g 6 + 0)))]) rfl ?_
            exact loop_62 (pl_n g 2 + 2) 0 M3 hj1 (Nat.zero_le _) (by rw [show pl_b g (g 4 + i) j ++ pl_c g (g 4 + i) (g 5 + j) 0 = pl_b g (g 4 + i) j from List.append_nil _]; exact hFb) (by rw [show pl_b g (g 4 + i) j ++ pl_c g (g 4 + i) (g 5 + j) 0 = pl_b g (g 4 + i) j from List.append_nil _]; exact hbb) hfb (by omega)
      refine cq_iload F dX3_tryAll_20 rfl ?_
      refine cq_aload_n F (i := 0) dX3_tryAll_22 rfl rfl ?_
      refine cq_iload_n F (i := 1) dX3_tryAll_23 rfl rfl ?_
      refine cq_iconst F (v := 0) dX3_tryAll_24 rfl ?_
      refine cq_callV F (C := RX3) (ci := 4) (kX3_mostFlames l D cA X Bs p s g 0 M2 hp (by omega) (hst.fr hfa (by omega)) (by omega) (by show g 1 < 1000; omega)) (cwV 2 F.1.2.2.2.2 gX3_tryAll_X3_mostFlames rfl rfl rfl hdVX3_mostFlames ⟨Nat.le_of_ble_eq_true rfl, Nat.le_of_ble_eq_true rfl⟩) hp.kind ⟨by decide, by decide⟩ rfl rfl rfl (Nat.le_of_ble_eq_true rfl) dX3_tryAll_25 ⟨Nat.le_of_ble_eq_true rfl, Nat.le_of_ble_eq_true rfl⟩ (cq_kIp fun r_25 h_25 => ?_)
      rw [show (if 0 < g (1 + 0) then 2 else 0) = m0 from e_m0.symm] at h_25
      subst h_25
      refine cq_icmp_gt F (tgt := 140) dX3_tryAll_28 (by decide) (fun c_28 => ?_) (fun c_28 => ?_)
      · have c_28 : m0 < (g 4 + i) := (nI_b (a := m0) (b := (g 4 + i)) (by omega) (by omega)).2.1.mp c_28
        obtain rfl : i = pl_n g 0 := by omega
        exact cq_vret F hr (by decide) (by decide) dX3_tryAll_140 ⟨rfl, ⟨hFa, hfa⟩⟩
      · have c_28 : ¬ m0 < (g 4 + i) := fun z => c_28 ((nI_b (a := m0) (b := (g 4 + i)) (by omega) (by omega)).2.1.mpr z)
        have hi0 : i < pl_n g 0 := by omega
        refine cq_aload_n F (i := 0) dX3_tryAll_31 rfl rfl ?_
        refine cq_getT (t := (p + 7)) F (C := RX3) (T := TX3) (N := 4) (ci := 4) hp.kind rfl ⟨⟨by decide, by decide⟩, rfl⟩ inX3 2 (by decide) rfl rfl hp.t2 (F.1.2.2.2.2 _ (List.mem_of_getElem? (l := wsX3_tryAll) (i := 1) (a := .fieldLink RX3 20 "CordClock$Plans" "flames" "[[I") (by decide +kernel))) dX3_tryAll_32 ?_
        refine cq_iload_n F (i := 1) dX3_tryAll_35 rfl rfl ?_
        have hj_36 : s < 4 := (by omega)
        refine cq_aaldA_j F (j := s) (t := (p + 8 + s)) hp.k7 hp.n7 rfl ⟨hj_36, by decide⟩ (hp.rt2 _ hj_36) dX3_tryAll_36 ?_
        refine cq_iconst F (v := 1) dX3_tryAll_37 rfl ?_
        refine cq_iald_j F (j := 1) (hp.r2k _ hj_36) (hp.r2n _ hj_36) rfl ⟨(by omega), by decide⟩ dX3_tryAll_38 ?_
        rw [(show M2 (p + 8 + s) 1 = nI (g 5) from ((hst.fr hfa (by omega)) 1 (by omega)).2)]
        refine cq_istore F dX3_tryAll_39 (by decide) ?_
        refine cq_loc (L2 := [(0, .ref p), (1, .int (nI s)), (2, .int (nI (g 0))), (3, .int (nI (g 7))), (4, .int (nI (g 4 + i))), (5, .int (nI (g 5 + 0)))]) rfl ?_
        exact loop_41 (pl_n g 1 + 2) 0 M2 hi0 (Nat.zero_le _) (by rw [show pl_a g i ++ pl_b g (g 4 + i) 0 = pl_a g i from List.append_nil _]; exact hFa) (by rw [show pl_a g i ++ pl_b g (g 4 + i) 0 = pl_a g i from List.append_nil _]; exact hba) hfa (by omega)
  refine cq_iload_n F (i := 1) dX3_tryAll_0 rfl rfl ?_
  refine cq_if_lt F (tgt := 9) dX3_tryAll_1 (by decide) (fun c_1 => ?_) (fun c_1 => ?_)
  · have c_1 : s < 0 := (nI_b (a := s) (b := 0) (by omega) (by omega)).2.1.mp c_1
    omega
  · have c_1 : ¬ s < 0 := fun z => c_1 ((nI_b (a := s) (b := 0) (by omega) (by omega)).2.1.mpr z)
    refine cq_iload_n F (i := 1) dX3_tryAll_4 rfl rfl ?_
    refine cq_iconst F (v := 3) dX3_tryAll_5 rfl ?_
    refine cq_icmp_lt F (tgt := 10) dX3_tryAll_6 (by decide) (fun c_6 => ?_) (fun c_6 => ?_)
    · have c_6 : s < 3 := (nI_b (a := s) (b := 3) (by omega) (by omega)).2.1.mp c_6
      refine cq_aload_n F (i := 0) dX3_tryAll_10 rfl rfl ?_
      refine cq_getT (t := (p + 7)) F (C := RX3) (T := TX3) (N := 4) (ci := 4) hp.kind rfl ⟨⟨by decide, by decide⟩, rfl⟩ inX3 2 (by decide) rfl rfl hp.t2 (F.1.2.2.2.2 _ (List.mem_of_getElem? (l := wsX3_tryAll) (i := 1) (a := .fieldLink RX3 20 "CordClock$Plans" "flames" "[[I") (by decide +kernel))) dX3_tryAll_11 ?_
      refine cq_iload_n F (i := 1) dX3_tryAll_14 rfl rfl ?_
      have hj_15 : s < 4 := (by omega)
      refine cq_aaldA_j F (j := s) (t := (p + 8 + s)) hp.k7 hp.n7 rfl ⟨hj_15, by decide⟩ (hp.rt2 _ hj_15) dX3_tryAll_15 ?_
      refine cq_iconst F (v := 0) dX3_tryAll_16 rfl ?_
      refine cq_iald_j F (j := 0) (hp.r2k _ hj_15) (hp.r2n _ hj_15) rfl ⟨(by omega), by decide⟩ dX3_tryAll_17 ?_
      rw [(show M (p + 8 + s) 0 = nI (g 4) from ((hst.fr pc_fr.rf (by omega)) 0 (by omega)).2)]
      refine cq_istore F dX3_tryAll_18 (by decide) ?_
      refine cq_loc (L2 := [(0, .ref p), (1, .int (nI s)), (2, .int (nI (g 0))), (3, .int (nI (g 7))), (4, .int (nI (g 4 + 0)))]) rfl ?_
      exact loop_20 (pl_n g 0 + 2) 0 M (Nat.zero_le _) hF hb pc_fr.rf (by omega)
    · have c_6 : ¬ s < 3 := fun z => c_6 ((nI_b (a := s) (b := 3) (by omega) (by omega)).2.1.mpr z)
      omega
