/-! the law's walk: burned, told in doubles; the loop -/
section CQX
variable {p : Program} {l : Launch} {e : Env} {R : Room} {s : State} {m : MethodId} {args : Array Value} {below : List Frame} {meth : Method} {c : Code} {D : va_G} {cA : Nat → ClassId} {X : cq_X} {Bs nL cells slots : Nat} {Q : State → Prop} {cc : ByteArray} {own : String} {Ts : List Cond} {pc : Nat} {L : List (Nat × Value)} {st : List Value} {M : cq_M}
theorem cq_backW {mc ms : Nat} {st0 rest : List Value} {a : Array Value} {Post : Option Value → cq_M → Prop} {H : Heap} {locs : List Loc} {ls : Array Slot} (hS : va_S (cq_A Bs) s.heap H locs) (hr : va_Run p l e R s m args below meth c H locs cells slots mc ms (F0 m pc ls st0) rest (cq_Q D cA X Bs Post a) (cq_A Bs)) (k : ∀ (rv : Option Value) (M1 : cq_M) (H1 : Heap) (locs1 : List Loc), Post rv M1 → cq_H D cA X Bs M1 H1 → va_S (cq_A Bs) s.heap H1 locs1 → W p l e R s m args below meth c H1 locs1 (cells + mc) (slots + ms) Q (F0 m (pc + 3) ls (rv.toList ++ rest))) : W p l e R s m args below meth c H locs cells slots Q (F0 m pc ls st0) := by
  intro T hT X9
  obtain ⟨v, st₀, t, T', L9, h0, X', hL9, e1, e2, ⟨⟨rv, M1, hv, hp, hH1⟩, hz, hk⟩, go⟩ := hr T hT X9
  cases hv
  rw [h0] at hz hk
  have hS1 : va_S (cq_A Bs) s.heap T'.heap (locs ++ L9) := by
    refine ⟨by rw [e1]; exact Nat.le_trans hS.1 hz, fun q h1 h2 => ?_, fun q hq => ?_⟩
    · rw [e1, hk q (Nat.lt_of_lt_of_le h1 hS.1) h2]
      exact hS.2.1 q h1 h2
    · rcases List.mem_append.mp hq with h | h
      · exact hS.2.2 q h
      · exact hL9 q h
  obtain ⟨t2, a1, b1⟩ := k v M1 T'.heap (locs ++ L9) hp (by rw [e1]; exact hH1) hS1 T' rfl X'
  exact ⟨t2, go t2 a1, b1⟩
theorem cq_callVW (F : cq_F p s m args meth c D cA Bs nL cc own Ts) {y : MethodName} {bytes : ByteArray} {maxL mc ms n index : Nat} {ret : Option FieldType} {ws : List Cond} {rm : Room} {Post : Option Value → cq_M → Prop} {C : String} {b ci : Nat} {q9 : vw_C} {As : List Value} (hM : cq_C l y ws rm D cA X Bs (.ref b :: As) M Post mc ms) (cw : CallW R s args own C index y bytes maxL ret ws rm mc ms n) (hb : X.1 b = ci) (h9 : 0 < ci ∧ ci < 10) (hc : vwCl[ci]? = some q9) (hC : q9.1 = C) (hn : As.length = n) (hW : (st.map fun v => v.category).sum ≤ 8) (hdg : decode cc pc = .ok (.invokevirtual index, 3)) (hf : cells + mc ≤ R.cells ∧ slots + ms ≤ R.slots) {H : Heap} {locs : List Loc} {ls : Array Slot} (hH : cq_H D cA X Bs M H) (hS : va_S (cq_A Bs) s.heap H locs) (hz : ls.size = nL) (k : ∀ (rv : Option Value) (M1 : cq_M) (H1 : Heap) (locs1 : List Loc), Post rv M1 → cq_H D cA X Bs M1 H1 → va_S (cq_A Bs) s.heap H1 locs1 → W p l e R s m args below meth c H1 locs1 (cells + mc) (slots + ms) Q (F0 m (pc + 3) ls (rv.toList ++ st))) : W p l e R s m args below meth c H locs cells slots Q (F0 m pc ls (As.reverse ++ .ref b :: st)) := by
  subst hC
  exact cq_backW hS (va_runV (As := As) (rest := st) F.1 hM cw ⟨cq_blind, va_recv F.2.1 (cq_one (hH.1 b ci hb h9.1 h9.2)) hc (q0 := 0) rfl, fun U hU hW2 => ⟨rfl, by rw [hU]; exact hH, va_K.moved hW2.alike F.2.1, by rw [hU]; exact Nat.le_trans F.2.2.2.1 hS.1, F.2.2.2.2.go hW2 (fun a h1 h2 => by rw [hU]; exact hS.2.1 a h1 h2)⟩⟩ rfl hn hz rfl (lv_room hW) hdg hf) k
theorem cq_kF {P : UInt32 → cq_M → Prop} (h : ∀ (r : UInt32) (M1 : cq_M), P r M1 → cq_V p l e R s m args below meth c D cA X Bs nL cells slots Q pc L (.float r :: st) M1) : ∀ (rv : Option Value) (M1 : cq_M), cq_PF P rv M1 → cq_V p l e R s m args below meth c D cA X Bs nL cells slots Q pc L (rv.toList ++ st) M1 := by
  intro rv M1 hp
  obtain ⟨r, rfl, hr⟩ := hp
  exact h r M1 hr
end CQX
section CQU
variable {p : Program} {l : Launch} {e : Env} {s : State} {m : MethodId} {args : Array Value} {below : List Frame} {meth : Method} {c : Code} {D : va_G} {cA : Nat → ClassId} {X : cq_X} {Bs cells slots : Nat} {Q : State → Prop} {cc : ByteArray} {own : String} {Ts : List Cond} {pc : Nat} {L : List (Nat × Value)} {st : List Value} {M : cq_M}
set_option maxRecDepth 100000 in
set_option maxHeartbeats 4000000 in
theorem w9_case_25 (hl : l.stackTraces = false) {b0 N0 n b B : Nat} {S : as_T} {xs : Nat → Int32} (F : cq_F p s m args meth c D cA Bs 9 cL_law RL wsL_law) (hX : va_X b0 N0 xs s s.heap) (hbs : b0 < s.heap.size ∧ b0 < Bs) (hN : 4 * n + 4 ≤ N0 ∧ N0 ≤ 2048) (hb : cq_isClock X b) (hm : cq_isModel X (b + 249)) (ho : X.1 (b + 264) = 17) (hn : X.2.1 (b + 264) = 1) (h : ck M b S) (hc : cm M (b + 249) S) (hk : as_ok S B) (hB : B < 10000000) (hcs : cells ≤ 500000 ∧ slots ≤ 6000000) (kk : ∀ (S1 : as_T) (M1 : cq_M), ck M1 b S1 → cm M1 (b + 249) S1 → as_ok S1 (B + 4000) → cq_V p l e room_1 s m args below meth c D cA X Bs 9 (cells + 3) (slots + 20) Q 1702 [(0, .ref b0), (1, .ref b), (2, .ref (b + 249)), (3, .ref (b + 264)), (4, .int (nI (4 * n)))] [] M1) : cq_V p l e room_1 s m args below meth c D cA X Bs 9 cells slots Q 1659 [(0, .ref b0), (1, .ref b), (2, .ref (b + 249)), (3, .ref (b + 264)), (4, .int (nI (4 * n)))] [] M := by
  refine cq_aload_n F (i := 1) dL_law_1659 rfl rfl ?_
  refine cq_callV F (C := RX6) (ci := 7) (st := []) (kX6_burned l D cA X Bs b B S M hb h hk) (cwV 0 F.1.2.2.2.2 gL_law_X6_burned rfl rfl rfl hdVX6_burned ⟨Nat.le_of_ble_eq_true rfl, Nat.le_of_ble_eq_true rfl⟩) hb.kind ⟨by decide, by decide⟩ rfl rfl rfl (Nat.le_of_ble_eq_true rfl) dL_law_1660 ⟨by show _ ≤ 601024; omega, by show _ ≤ 7293034; omega⟩ (cq_kF fun r M1 hr => ?_)
  obtain ⟨er, eM⟩ := hr
  rw [er, eM]
  intro H locs ls hH hS hL
  have hv : vf_n64 (FP.f2d (ns_share (S_g S))) := fq_f2d (ns_share_ok hk.1)
  obtain ⟨v, ev⟩ : ∃ v, v = FP.f2d (ns_share (S_g S)) := ⟨_, rfl⟩
  refine lv_f2d F.1.1 F.1.2.1 dL_law_1663 hv ?_
  rw [← ev]
  have h0 : lv_has ls 9 [(0, .ref b0), (1, .ref b), (2, .ref (b + 249)), (3, .ref (b + 264)), (4, .int (nI (4 * n)))] := by
    obtain ⟨l9, h1, h2⟩ := id hL
    refine ⟨h1.1, h1.2.1, fun q hq => ?_⟩
    simp only [List.mem_cons, List.not_mem_nil, or_false] at hq
    rcases hq with rfl | rfl | rfl | rfl | rfl <;> exact hL.at rfl
  refine lv_dstore (i := 5) (lv' := (5, .double v) :: [(0, .ref b0), (1, .ref b), (2, .ref (b + 249)), (3, .ref (b + 264)), (4, .int (nI (4 * n)))]) F.1.1 F.1.2.1 dL_law_1664 h0 (by decide) rfl (fun ls1 h1 => ?_)
  refine lv_aload_n F.1.1 F.1.2.1 dL_law_1666 (i := 2) rfl (lv_at h1 3 rfl) ?_
  refine cq_callVW F (C := RX7) (ci := 8) (As := []) (st := []) (kX7_burned l D cA X Bs (b + 249) B S M hm hc hk) (cwV 0 F.1.2.2.2.2 gL_law_X7_burned rfl rfl rfl hdVX7_burned ⟨Nat.le_of_ble_eq_true rfl, Nat.le_of_ble_eq_true rfl⟩) hm.kind ⟨by decide, by decide⟩ rfl rfl rfl (Nat.le_of_ble_eq_true rfl) dL_law_1667 ⟨by show _ ≤ 601024; omega, by show _ ≤ 7293034; omega⟩ hH hS h1.1 (fun rv M2 H1 locs1 hp hH1 hS1 => ?_)
  obtain ⟨r2, rfl, rfl, hcm2, hfr2⟩ := hp
  refine lv_f2d F.1.1 F.1.2.1 dL_law_1670 hv ?_
  rw [← ev]
  refine lv_dstore (i := 7) (lv' := (7, .double v) :: (5, .double v) :: [(0, .ref b0), (1, .ref b), (2, .ref (b + 249)), (3, .ref (b + 264)), (4, .int (nI (4 * n)))]) F.1.1 F.1.2.1 dL_law_1671 h1 (by decide) rfl (fun ls2 h2 => ?_)
  have hL2 : cq_L ls2 9 [(0, .ref b0), (1, .ref b), (2, .ref (b + 249)), (3, .ref (b + 264)), (4, .int (nI (4 * n)))] := cq_L.of ⟨h2.1, h2.2.1, fun q hq => h2.2.2 q (List.mem_cons_of_mem _ (List.mem_cons_of_mem _ hq))⟩ rfl
  have fin : W p l e room_1 s m args below meth c H1 locs1 (cells + 0 + 0) (slots + 0 + 0) Q (F0 m 1699 ls2 []) := by
    refine lv_goto F.1.1 F.1.2.1 (tgt := 1702) dL_law_1699 (by decide) ?_
    exact W.widen (k := cells + 3) (n := slots + 20) (by omega) (by omega) (kk S M2 (h.far hk (fun x h1 h2 => hfr2 x (.inl (by omega)))) hcm2 (hk.mono (by omega)) H1 locs1 ls2 hH1 hS1 hL2)
  refine lv_dload F.1.1 F.1.2.1 dL_law_1673 (lv_at h2 1 rfl) ?_
  refine lv_dload F.1.1 F.1.2.1 dL_law_1675 (lv_at h2 0 rfl) ?_
  refine lv_dcmp F.1.1 F.1.2.1 dL_law_1677 ?_
  obtain ⟨z, ez⟩ : ∃ z, z = Op.cmpValue (FP.dcmp v v) .l := ⟨_, rfl⟩
  rw [← ez]
  refine lv_if_eq F.1.1 F.1.2.1 (tgt := 1699) dL_law_1678 (by decide) (fun _ => fin) (fun hz => ?_)
  refine lv_dload F.1.1 F.1.2.1 dL_law_1681 (lv_at h2 1 rfl) ?_
  refine lv_dload F.1.1 F.1.2.1 dL_law_1683 (lv_at h2 1 rfl) ?_
  refine lv_dcmp F.1.1 F.1.2.1 dL_law_1685 ?_
  rw [← ez]
  refine lv_if_eq F.1.1 F.1.2.1 (tgt := 1697) dL_law_1686 (by decide) (fun h9 => absurd h9 hz) (fun _ => ?_)
  refine lv_dload F.1.1 F.1.2.1 dL_law_1689 (lv_at h2 0 rfl) ?_
  refine lv_dload F.1.1 F.1.2.1 dL_law_1691 (lv_at h2 0 rfl) ?_
  refine lv_dcmp F.1.1 F.1.2.1 dL_law_1693 ?_
  rw [← ez]
  exact lv_if_ne F.1.1 F.1.2.1 (tgt := 1699) dL_law_1694 (by decide) (fun _ => fin) (fun h9 => absurd h9 hz)
set_option maxRecDepth 100000 in
set_option maxHeartbeats 4000000 in
theorem w9_loop (hl : l.stackTraces = false) {b0 N0 b c0 s0 : Nat} {xs : Nat → Int32} (F : cq_F p s m args meth c D cA Bs 9 cL_law RL wsL_law) (hX : va_X b0 N0 xs s s.heap) (hbs : b0 < s.heap.size ∧ b0 < Bs) (hN0 : N0 ≤ 2048) (hb : cq_isClock X b) (hm : cq_isModel X (b + 249)) (ho : X.1 (b + 264) = 17) (hn : X.2.1 (b + 264) = 1) (h0 : c0 ≤ 1000 ∧ s0 ≤ 30000) (kx : ∀ (n : Nat) (M1 : cq_M) (c1 s1 : Nat), c1 ≤ 400000 → s1 ≤ 5000000 → cq_V p l e room_1 s m args below meth c D cA X Bs 9 c1 s1 Q 1708 [(0, .ref b0), (1, .ref b), (2, .ref (b + 249)), (3, .ref (b + 264)), (4, .int (nI (4 * n)))] [] M1) :
    ∀ (k n : Nat) (S : as_T) (M : cq_M), n + k = 513 → n ≤ 512 → ck M b S → cm M (b + 249) S → as_ok S (4000 * n) → cq_V p l e room_1 s m args below meth c D cA X Bs 9 (c0 + 3 * n) (s0 + 20 * n) Q 23 [(0, .ref b0), (1, .ref b), (2, .ref (b + 249)), (3, .ref (b + 264)), (4, .int (nI (4 * n)))] [] M := by
  intro k
  induction k with
  | zero =>
    intro n S M h1 h2
    omega
  | succ k ih =>
    intro n S M h1 h2 h hc hk
    refine cq_iload F dL_law_23 rfl ?_
    refine cq_aload_n F (i := 0) dL_law_25 rfl rfl ?_
    refine cq_slen F hX hbs dL_law_26 ?_
    refine cq_iconst F (v := 4) dL_law_27 rfl ?_
    refine cq_isub F dL_law_28 ?_
    refine cq_icmp_gt F (tgt := 1708) dL_law_29 (by decide) (fun _ => kx n M _ _ (by omega) (by omega)) (fun hE => ?_)
    have hle : 4 * n + 4 ≤ N0 := by
      rcases Nat.lt_or_ge N0 (4 * n + 4) with hlt | hge
      · refine absurd ?_ hE
        rw [Int32.lt_iff_toInt_lt, show (nI N0 - 4) = nI N0 - nI 4 from rfl, pk_sub_toInt (by omega) (by omega), nI_toInt (by omega)]
        omega
      · exact hge
    have next : ∀ (S1 : as_T) (M1 : cq_M), ck M1 b S1 → cm M1 (b + 249) S1 → as_ok S1 (4000 * n + 4000) → cq_V p l e room_1 s m args below meth c D cA X Bs 9 (c0 + 3 * n + 3) (s0 + 20 * n + 20) Q 1702 [(0, .ref b0), (1, .ref b), (2, .ref (b + 249)), (3, .ref (b + 264)), (4, .int (nI (4 * n)))] [] M1 := by
      intro S1 M1 g1 g2 g3
      refine cq_iinc F dL_law_1702 rfl (by decide) (fun y ey => ?_)
      have ey2 : y = nI (4 * (n + 1)) := by rw [ey]; exact nI_add (4 * n) 4
      subst ey2
      refine cq_goto F (tgt := 23) dL_law_1705 (by decide) ?_
      refine cq_loc (L2 := [(0, .ref b0), (1, .ref b), (2, .ref (b + 249)), (3, .ref (b + 264)), (4, .int (nI (4 * (n + 1))))]) rfl ?_
      refine cq_widen (k := c0 + 3 * (n + 1)) (n := s0 + 20 * (n + 1)) (by omega) (by omega) ?_
      exact ih (n + 1) S1 M1 (by omega) (by omega) g1 g2 (by rw [show 4000 * (n + 1) = 4000 * n + 4000 by omega]; exact g3)
    refine cq_aload_n F (i := 0) dL_law_32 rfl rfl ?_
    refine cq_iload F dL_law_33 rfl ?_
    refine cq_sld F hX hbs (j := 4 * n) rfl ⟨by omega, by omega⟩ dL_law_35 ?_
    refine cq_bipush F (v := 31) dL_law_36 (by decide) ?_
    refine cq_iand F dL_law_38 ?_
    obtain ⟨k9, hk9, e9⟩ := w9_31 (xs (4 * n))
    rw [e9]
    by_cases e_0 : k9 = 0
    · subst e_0
      refine cq_tableIn F (off := 117) (tgt := 156) dL_law_39 (by decide) (by decide) (by decide) (by decide) ?_
      exact w9_case_0 hl F hX hbs ⟨hle, hN0⟩ hb hm ho hn h hc hk (by omega) ⟨by omega, by omega⟩ next
    by_cases e_1 : k9 = 1
    · subst e_1
      refine cq_tableIn F (off := 185) (tgt := 224) dL_law_39 (by decide) (by decide) (by decide) (by decide) ?_
      exact w9_case_1 hl F hX hbs ⟨hle, hN0⟩ hb hm ho hn h hc hk (by omega) ⟨by omega, by omega⟩ next
    by_cases e_2 : k9 = 2
    · subst e_2
      refine cq_tableIn F (off := 265) (tgt := 304) dL_law_39 (by decide) (by decide) (by decide) (by decide) ?_
      exact w9_case_2 hl F hX hbs ⟨hle, hN0⟩ hb hm ho hn h hc hk (by omega) ⟨by omega, by omega⟩ next
    by_cases e_3 : k9 = 3
    · subst e_3
      refine cq_tableIn F (off := 321) (tgt := 360) dL_law_39 (by decide) (by decide) (by decide) (by decide) ?_
      exact w9_case_3 hl F hX hbs ⟨hle, hN0⟩ hb hm ho hn h hc hk (by omega) ⟨by omega, by omega⟩ next
    by_cases e_4 : k9 = 4
    · subst e_4
      refine cq_tableIn F (off := 405) (tgt := 444) dL_law_39 (by decide) (by decide) (by decide) (by decide) ?_
      exact w9_case_4 hl F hX hbs ⟨hle, hN0⟩ hb hm ho hn h hc hk (by omega) ⟨by omega, by omega⟩ next
    by_cases e_5 : k9 = 5
    · subst e_5
      refine cq_tableIn F (off := 489) (tgt := 528) dL_law_39 (by decide) (by decide) (by decide) (by decide) ?_
      exact w9_case_5 hl F hX hbs ⟨hle, hN0⟩ hb hm ho hn h hc hk (by omega) ⟨by omega, by omega⟩ next
    by_cases e_6 : k9 = 6
    · subst e_6
      refine cq_tableIn F (off := 585) (tgt := 624) dL_law_39 (by decide) (by decide) (by decide) (by decide) ?_
      exact w9_case_6 hl F hX hbs ⟨hle, hN0⟩ hb hm ho hn h hc hk (by omega) ⟨by omega, by omega⟩ next
    by_cases e_7 : k9 = 7
    · subst e_7
      refine cq_tableIn F (off := 598) (tgt := 637) dL_law_39 (by decide) (by decide) (by decide) (by decide) ?_
      exact w9_case_7 hl F hX hbs ⟨hle, hN0⟩ hb hm ho hn h hc hk (by omega) ⟨by omega, by omega⟩ next
    by_cases e_8 : k9 = 8
    · subst e_8
      refine cq_tableIn F (off := 654) (tgt := 693) dL_law_39 (by decide) (by decide) (by decide) (by decide) ?_
      exact w9_case_8 hl F hX hbs ⟨hle, hN0⟩ hb hm ho hn h hc hk (by omega) ⟨by omega, by omega⟩ next
    by_cases e_9 : k9 = 9
    · subst e_9
      refine cq_tableIn F (off := 710) (tgt := 749) dL_law_39 (by decide) (by decide) (by decide) (by decide) ?_
      exact w9_case_9 hl F hX hbs ⟨hle, hN0⟩ hb hm ho hn h hc hk (by omega) ⟨by omega, by omega⟩ next
    by_cases e_10 : k9 = 10
    · subst e_10
      refine cq_tableIn F (off := 723) (tgt := 762) dL_law_39 (by decide) (by decide) (by decide) (by decide) ?_
      exact w9_case_10 hl F hX hbs ⟨hle, hN0⟩ hb hm ho hn h hc hk (by omega) ⟨by omega, by omega⟩ next
    by_cases e_11 : k9 = 11
    · subst e_11
      refine cq_tableIn F (off := 736) (tgt := 775) dL_law_39 (by decide) (by decide) (by decide) (by decide) ?_
      exact w9_case_11 hl F hX hbs ⟨hle, hN0⟩ hb hm ho hn h hc hk (by omega) ⟨by omega, by omega⟩ next
    by_cases e_12 : k9 = 12
    · subst e_12
      refine cq_tableIn F (off := 780) (tgt := 819) dL_law_39 (by decide) (by decide) (by decide) (by decide) ?_
      exact w9_case_12 hl F hX hbs ⟨hle, hN0⟩ hb hm ho hn h hc hk (by omega) ⟨by omega, by omega⟩ next
    by_cases e_13 : k9 = 13
    · subst e_13
      refine cq_tableIn F (off := 824) (tgt := 863) dL_law_39 (by decide) (by decide) (by decide) (by decide) ?_
      exact w9_case_13 hl F hX hbs ⟨hle, hN0⟩ hb hm ho hn h hc hk (by omega) ⟨by omega, by omega⟩ next
    by_cases e_14 : k9 = 14
    · subst e_14
      refine cq_tableIn F (off := 880) (tgt := 919) dL_law_39 (by decide) (by decide) (by decide) (by decide) ?_
      exact w9_case_14 hl F hX hbs ⟨hle, hN0⟩ hb hm ho hn h hc hk (by omega) ⟨by omega, by omega⟩ next
    by_cases e_15 : k9 = 15
    · subst e_15
      refine cq_tableIn F (off := 936) (tgt := 975) dL_law_39 (by decide) (by decide) (by decide) (by decide) ?_
      exact w9_case_15 hl F hX hbs ⟨hle, hN0⟩ hb hm ho hn h hc hk (by omega) ⟨by omega, by omega⟩ next
    by_cases e_16 : k9 = 16
    · subst e_16
      refine cq_tableIn F (off := 1004) (tgt := 1043) dL_law_39 (by decide) (by decide) (by decide) (by decide) ?_
      exact w9_case_16 hl F hX hbs ⟨hle, hN0⟩ hb hm ho hn h hc hk (by omega) ⟨by omega, by omega⟩ next
    by_cases e_17 : k9 = 17
    · subst e_17
      refine cq_tableIn F (off := 1072) (tgt := 1111) dL_law_39 (by decide) (by decide) (by decide) (by decide) ?_
      exact w9_case_17 hl F hX hbs ⟨hle, hN0⟩ hb hm ho hn h hc hk (by omega) ⟨by omega, by omega⟩ next
    by_cases e_18 : k9 = 18
    · subst e_18
      refine cq_tableIn F (off := 1156) (tgt := 1195) dL_law_39 (by decide) (by decide) (by decide) (by decide) ?_
      exact w9_case_18 hl F hX hbs ⟨hle, hN0⟩ hb hm ho hn h hc hk (by omega) ⟨by omega, by omega⟩ next
    by_cases e_19 : k9 = 19
    · subst e_19
      refine cq_tableIn F (off := 1224) (tgt := 1263) dL_law_39 (by decide) (by decide) (by decide) (by decide) ?_
      exact w9_case_19 hl F hX hbs ⟨hle, hN0⟩ hb hm ho hn h hc hk (by omega) ⟨by omega, by omega⟩ next
    by_cases e_20 : k9 = 20
    · subst e_20
      refine cq_tableIn F (off := 1280) (tgt := 1319) dL_law_39 (by decide) (by decide) (by decide) (by decide) ?_
      exact w9_case_20 hl F hX hbs ⟨hle, hN0⟩ hb hm ho hn h hc hk (by omega) ⟨by omega, by omega⟩ next
    by_cases e_21 : k9 = 21
    · subst e_21
      refine cq_tableIn F (off := 1348) (tgt := 1387) dL_law_39 (by decide) (by decide) (by decide) (by decide) ?_
      exact w9_case_21 hl F hX hbs ⟨hle, hN0⟩ hb hm ho hn h hc hk (by omega) ⟨by omega, by omega⟩ next
    by_cases e_22 : k9 = 22
    · subst e_22
      refine cq_tableIn F (off := 1404) (tgt := 1443) dL_law_39 (by decide) (by decide) (by decide) (by decide) ?_
      exact w9_case_22 hl F hX hbs ⟨hle, hN0⟩ hb hm ho hn h hc hk (by omega) ⟨by omega, by omega⟩ next
    by_cases e_23 : k9 = 23
    · subst e_23
      refine cq_tableIn F (off := 1484) (tgt := 1523) dL_law_39 (by decide) (by decide) (by decide) (by decide) ?_
      exact w9_case_23 hl F hX hbs ⟨hle, hN0⟩ hb hm ho hn h hc hk (by omega) ⟨by omega, by omega⟩ next
    by_cases e_24 : k9 = 24
    · subst e_24
      refine cq_tableIn F (off := 1552) (tgt := 1591) dL_law_39 (by decide) (by decide) (by decide) (by decide) ?_
      exact w9_case_24 hl F hX hbs ⟨hle, hN0⟩ hb hm ho hn h hc hk (by omega) ⟨by omega, by omega⟩ next
    by_cases e_25 : k9 = 25
    · subst e_25
      refine cq_tableIn F (off := 1620) (tgt := 1659) dL_law_39 (by decide) (by decide) (by decide) (by decide) ?_
      exact w9_case_25 hl F hX hbs ⟨hle, hN0⟩ hb hm ho hn h hc hk (by omega) ⟨by omega, by omega⟩ next
    refine cq_tableOut F (tgt := 1702) dL_law_39 (.inr (by rw [nI_toInt (by omega)]; omega)) (by decide) ?_
    refine cq_widen (k := c0 + 3 * n + 3) (n := s0 + 20 * n + 20) (by omega) (by omega) ?_
    exact next S M h hc (hk.mono (by omega))
end CQU
