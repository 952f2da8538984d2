/-! the class: a cord's step, the book, the State's reads and steps -/
abbrev rmX1_burnsOut : Room := ({ frames := 1, cells := 0, slots := 0, locals := 20 })
set_option maxHeartbeats 4000000 in
set_option maxRecDepth 100000 in
theorem kX1_burnsOut (l : Launch) (D : va_G) (cA : Nat → ClassId) (X : cq_X) (Bs : Nat) (a c : Nat) (g : Nat → Nat) (M : cq_M) (ha : cq_isCord X a) (h : cr_cord M a g c) (hq : ns_cord g c) : cq_C l yX1_burnsOut wsX1_burnsOut rmX1_burnsOut D cA X Bs [.ref a] M (cq_PI (fun r M1 => r = (if ns_outs g c then 1 else 0) ∧ cr_cord M1 a (ns_bstep g c) c ∧ cq_only M M1 a)) 0 0 := by
  refine cq_met (cc := cX1_burnsOut) (maxL := 1) (ret := (some .boolean)) (by decide) rfl (Nat.le_of_ble_eq_true rfl) [(0, .ref a)] rfl rfl ?_
  intro p9 e9 s9 m9 b9 t9 c9 F hr
  have inX1 : ∀ w ∈ wsX10, w ∈ wsX1_burnsOut := (fun w h => List.mem_cons_of_mem _ (List.mem_append_right _ h))
  have hT := hq.time
  have hB : g (14 + 11 * c) + g (15 + 11 * c) ≤ ns_time g c := hq.2.2.1
  have hf := hq.2.2.2.1
  have hF : g (16 + 11 * c) ≠ 0 → g (14 + 11 * c) + g (15 + 11 * c) < ns_time g c := hq.2.2.2.2
  obtain ⟨E14, E15, E16, En, Eo, Et⟩ := ns_bstep_at hq
  refine cq_aload_n F (i := 0) dX1_burnsOut_0 rfl rfl ?_
  refine cq_callV F (C := RX1) (ci := 2) (nX1_flameCount (l := l) (D := D) (cA := cA) (Bs := Bs) ha h hf) (cwV 0 F.1.2.2.2.2 gX1_burnsOut_X1_flameCount rfl rfl rfl hdVX1_flameCount ⟨Nat.le_of_ble_eq_true rfl, Nat.le_of_ble_eq_true rfl⟩) ha.kind ⟨by decide, by decide⟩ rfl rfl rfl (Nat.le_of_ble_eq_true rfl) dX1_burnsOut_1 ⟨Nat.le_of_ble_eq_true rfl, Nat.le_of_ble_eq_true rfl⟩ (cq_kIp fun r_1 h_1 => ?_)
  subst h_1
  have hfl : ns_fl (g (16 + 11 * c)) = g (16 + 11 * c) % 2 + g (16 + 11 * c) / 2 := rfl
  refine cq_if_ne F (tgt := 9) dX1_burnsOut_4 (by decide) (fun c_4 => ?_) (fun c_4 => ?_)
  · have c_4 : ¬ (ns_fl (g (16 + 11 * c))) = 0 := fun z => c_4 ((nI_b (a := (ns_fl (g (16 + 11 * c)))) (b := 0) (by omega) (by omega)).2.2.mpr z)
    refine cq_aload_n F (i := 0) dX1_burnsOut_9 rfl rfl ?_
    refine cq_getI F (C := RX1) (T := TX1) (N := 8) (ci := 2) ha.kind rfl ⟨⟨by decide, by decide⟩, rfl⟩ inX1 5 (by decide) rfl rfl (F.1.2.2.2.2 _ (List.mem_of_getElem? (l := wsX1_burnsOut) (i := 1) (a := .fieldLink RX1 31 "CordClock$Cord" "leftFlame" "Z") (by decide +kernel))) dX1_burnsOut_10 ?_
    rw [show M a 5 = nI (g (16 + 11 * c) % 2) from (show M a 5 = nI (g (16 + 11 * c) % 2) from h.2.2.2.2.1)]
    refine cq_if_eq F (tgt := 26) dX1_burnsOut_13 (by decide) (fun c_13 => ?_) (fun c_13 => ?_)
    · have c_13 : (g (16 + 11 * c) % 2) = 0 := (nI_b (a := (g (16 + 11 * c) % 2)) (b := 0) (by omega) (by omega)).2.2.mp c_13
      refine cq_aload_n F (i := 0) dX1_burnsOut_26 rfl rfl ?_
      refine cq_getI F (C := RX1) (T := TX1) (N := 8) (ci := 2) ha.kind rfl ⟨⟨by decide, by decide⟩, rfl⟩ inX1 6 (by decide) rfl rfl (F.1.2.2.2.2 _ (List.mem_of_getElem? (l := wsX1_burnsOut) (i := 3) (a := .fieldLink RX1 35 "CordClock$Cord" "rightFlame" "Z") (by decide +kernel))) dX1_burnsOut_27 ?_
      rw [show M a 6 = nI (g (16 + 11 * c) / 2) from (show M a 6 = nI (g (16 + 11 * c) / 2) from h.2.2.2.2.2.1)]
      refine cq_if_eq F (tgt := 50) dX1_burnsOut_30 (by decide) (fun c_30 => ?_) (fun c_30 => ?_)
      · have c_30 : (g (16 + 11 * c) / 2) = 0 := (nI_b (a := (g (16 + 11 * c) / 2)) (b := 0) (by omega) (by omega)).2.2.mp c_30
        refine cq_aload_n F (i := 0) dX1_burnsOut_50 rfl rfl ?_
        refine cq_callV F (C := RX1) (ci := 2) (nX1_isOut3 (l := l) (D := D) (cA := cA) (X := X) (Bs := Bs) (a := a) (M := M) (ns_time g c) (g (14 + 11 * c)) (g (15 + 11 * c)) ha (show M a 2 = nI (ns_time g c) from h.2.1) (show M a 3 = nI (g (14 + 11 * c)) from h.2.2.1) (show M a 4 = nI (g (15 + 11 * c)) from h.2.2.2.1) (by omega) (by omega)) (cwV 0 F.1.2.2.2.2 gX1_burnsOut_X1_isOut rfl rfl rfl hdVX1_isOut ⟨Nat.le_of_ble_eq_true rfl, Nat.le_of_ble_eq_true rfl⟩) ha.kind ⟨by decide, by decide⟩ rfl rfl rfl (Nat.le_of_ble_eq_true rfl) dX1_burnsOut_51 ⟨Nat.le_of_ble_eq_true rfl, Nat.le_of_ble_eq_true rfl⟩ (cq_kIp fun r_51 h_51 => ?_)
        refine cq_if_ne F (tgt := 59) dX1_burnsOut_54 (by decide) (fun c_54 => ?_) (fun c_54 => ?_)
        · have c_54 := cq_b1 h_51 c_54
          refine cq_aload_n F (i := 0) dX1_burnsOut_59 rfl rfl ?_
          refine cq_iconst F (v := 0) dX1_burnsOut_60 rfl ?_
          refine cq_put F (C := RX1) (T := TX1) (N := 8) (ci := 2) ha.kind rfl ⟨⟨by decide, by decide⟩, rfl⟩ inX1 tyX1 tyX1_ok nmX1 5 (by decide) rfl rfl (F.1.2.2.2.2 _ (List.mem_of_getElem? (l := wsX1_burnsOut) (i := 1) (a := .fieldLink RX1 31 "CordClock$Cord" "leftFlame" "Z") (by decide +kernel))) rfl (by rfl) (by rfl) dX1_burnsOut_61 (fun M_61 h_61 => ?_)
          refine cq_aload_n F (i := 0) dX1_burnsOut_64 rfl rfl ?_
          refine cq_iconst F (v := 0) dX1_burnsOut_65 rfl ?_
          refine cq_put F (C := RX1) (T := TX1) (N := 8) (ci := 2) ha.kind rfl ⟨⟨by decide, by decide⟩, rfl⟩ inX1 tyX1 tyX1_ok nmX1 6 (by decide) rfl rfl (F.1.2.2.2.2 _ (List.mem_of_getElem? (l := wsX1_burnsOut) (i := 3) (a := .fieldLink RX1 35 "CordClock$Cord" "rightFlame" "Z") (by decide +kernel))) rfl (by rfl) (by rfl) dX1_burnsOut_66 (fun M_66 h_66 => ?_)
          refine cq_iconst F (v := 1) dX1_burnsOut_69 rfl ?_
          refine cq_zret F hr (by rfl) (by decide) (by decide) dX1_burnsOut_70 ⟨_, rfl, ?_⟩
          have Eo2 : ns_outs g c ↔ True := by
            rw [Eo]
            clear Eo E14 E15 E16 En Et
            by_cases hz : g (16 + 11 * c) / 2 = 1 ∧ g (14 + 11 * c) + g (16 + 11 * c) % 2 + g (15 + 11 * c) < ns_time g c
            · rw [if_pos hz]
              obtain ⟨z1, z2⟩ := hz
              exact ⟨fun _ => trivial, fun _ => ⟨by omega, by omega⟩⟩
            · rw [if_neg hz]
              have hz1 : g (16 + 11 * c) / 2 = 1 → ¬ g (14 + 11 * c) + g (16 + 11 * c) % 2 + g (15 + 11 * c) < ns_time g c := fun z1 z2 => hz ⟨z1, z2⟩
              clear hz
              have hz3 : g (16 + 11 * c) / 2 ≤ 1 := by omega
              have hz4 : g (16 + 11 * c) / 2 = 0 ∨ g (16 + 11 * c) / 2 = 1 := by omega
              rcases hz4 with hz4 | hz4
              · exact ⟨fun _ => trivial, fun _ => ⟨by omega, by omega⟩⟩
              · have hz5 := hz1 hz4
                exact ⟨fun _ => trivial, fun _ => ⟨by omega, by omega⟩⟩
          refine ⟨(if_pos (Eo2.mpr trivial)).symm, ⟨?_, ?_, ?_, ?_, ?_, ?_, ?_, ?_⟩, ((cq_only.rf.up h_61).up h_66)⟩
          · exact ((show M_66 a 1 = nI (g (7 + 11 * c)) from (by rw [h_66, cq_up_k (by omega), h_61, cq_up_k (by omega)]; exact h.1)).trans (congrArg nI (by rw [En _ (by omega) (by omega) (by omega)])))
          · exact ((show M_66 a 2 = nI (ns_time g c) from (by rw [h_66, cq_up_k (by omega), h_61, cq_up_k (by omega)]; exact h.2.1)).trans (congrArg nI (by rw [Et])))
          · exact ((show M_66 a 3 = nI (g (14 + 11 * c)) from (by rw [h_66, cq_up_k (by omega), h_61, cq_up_k (by omega)]; exact h.2.2.1)).trans (congrArg nI (by rw [E14]; clear Eo Eo2 E14 E15 E16 En Et; omega)))
          · exact ((show M_66 a 4 = nI (g (15 + 11 * c)) from (by rw [h_66, cq_up_k (by omega), h_61, cq_up_k (by omega)]; exact h.2.2.2.1)).trans (congrArg nI (by rw [E15]; clear Eo Eo2 E14 E15 E16 En Et; split <;> omega)))
          · exact ((show M_66 a 5 = nI (0) from (by rw [h_66, cq_up_k (by omega), h_61]; exact cq_up_s _ _ _ _)).trans (congrArg nI (by rw [E16]; rw [if_pos (Eo2.mpr trivial)]; try first | rfl | (clear Eo Eo2 E14 E15 E16 En Et; omega))))
          · exact ((show M_66 a 6 = nI (0) from (by rw [h_66]; exact cq_up_s _ _ _ _)).trans (congrArg nI (by rw [E16]; rw [if_pos (Eo2.mpr trivial)]; try first | rfl | (clear Eo Eo2 E14 E15 E16 En Et; omega))))
          · exact ((show M_66 a 7 = nI (g (17 + 11 * c)) from (by rw [h_66, cq_up_k (by omega), h_61, cq_up_k (by omega)]; exact h.2.2.2.2.2.2.1)).trans (congrArg nI (by rw [En _ (by omega) (by omega) (by omega)])))
          · exact (fun k hk => by
              rw [En (7 + 11 * c) (by clear Eo Eo2 E14 E15 E16 En Et; omega) (by clear Eo Eo2 E14 E15 E16 En Et; omega) (by clear Eo Eo2 E14 E15 E16 En Et; omega)] at hk
              have hs6 := hq.1.2
              rw [show M_66 (a + 1) = M (a + 1) from (show cq_only M M_66 a from ((cq_only.rf.up h_61).up h_66)) _ (by clear Eo Eo2 E14 E15 E16 En Et; omega), En (8 + 11 * c + k) (by clear Eo Eo2 E14 E15 E16 En Et; omega) (by clear Eo Eo2 E14 E15 E16 En Et; omega) (by clear Eo Eo2 E14 E15 E16 En Et; omega)]
              exact h.2.2.2.2.2.2.2 k hk)
        · have c_54 := cq_b0 h_51 c_54
          refine cq_iconst F (v := 0) dX1_burnsOut_57 rfl ?_
          refine cq_zret F hr (by rfl) (by decide) (by decide) dX1_burnsOut_58 ⟨_, rfl, ?_⟩
          have Eo2 : ns_outs g c ↔ False := by
            rw [Eo]
            clear Eo E14 E15 E16 En Et
            by_cases hz : g (16 + 11 * c) / 2 = 1 ∧ g (14 + 11 * c) + g (16 + 11 * c) % 2 + g (15 + 11 * c) < ns_time g c
            · rw [if_pos hz]
              obtain ⟨z1, z2⟩ := hz
              exact ⟨fun w => by omega, False.elim⟩
            · rw [if_neg hz]
              have hz1 : g (16 + 11 * c) / 2 = 1 → ¬ g (14 + 11 * c) + g (16 + 11 * c) % 2 + g (15 + 11 * c) < ns_time g c := fun z1 z2 => hz ⟨z1, z2⟩
              clear hz
              have hz3 : g (16 + 11 * c) / 2 ≤ 1 := by omega
              have hz4 : g (16 + 11 * c) / 2 = 0 ∨ g (16 + 11 * c) / 2 = 1 := by omega
              rcases hz4 with hz4 | hz4
              · exact ⟨fun w => by omega, False.elim⟩
              · have hz5 := hz1 hz4
                exact ⟨fun w => by omega, False.elim⟩
          refine ⟨(if_neg Eo2.mp).symm, ⟨?_, ?_, ?_, ?_, ?_, ?_, ?_, ?_⟩, cq_only.rf⟩
          · exact ((show M a 1 = nI (g (7 + 11 * c)) from h.1).trans (congrArg nI (by rw [En _ (by omega) (by omega) (by omega)])))
          · exact ((show M a 2 = nI (ns_time g c) from h.2.1).trans (congrArg nI (by rw [Et])))
          · exact ((show M a 3 = nI (g (14 + 11 * c)) from h.2.2.1).trans (congrArg nI (by rw [E14]; clear Eo Eo2 E14 E15 E16 En Et; omega)))
          · exact ((show M a 4 = nI (g (15 + 11 * c)) from h.2.2.2.1).trans (congrArg nI (by rw [E15]; clear Eo Eo2 E14 E15 E16 En Et; split <;> omega)))
          · exact ((show M a 5 = nI (g (16 + 11 * c) % 2) from h.2.2.2.2.1).trans (congrArg nI (by rw [E16]; rw [if_neg Eo2.mp]; try first | rfl | (clear Eo Eo2 E14 E15 E16 En Et; omega))))
          · exact ((show M a 6 = nI (g (16 + 11 * c) / 2) from h.2.2.2.2.2.1).trans (congrArg nI (by rw [E16]; rw [if_neg Eo2.mp]; try first | rfl | (clear Eo Eo2 E14 E15 E16 En Et; omega))))
          · exact ((show M a 7 = nI (g (17 + 11 * c)) from h.2.2.2.2.2.2.1).trans (congrArg nI (by rw [En _ (by omega) (by omega) (by omega)])))
          · exact (fun k hk => by
              rw [En (7 + 11 * c) (by clear Eo Eo2 E14 E15 E16 En Et; omega) (by clear Eo Eo2 E14 E15 E16 En Et; omega) (by clear Eo Eo2 E14 E15 E16 En Et; omega)] at hk
              have hs6 := hq.1.2
              rw [show M (a + 1) = M (a + 1) from (show cq_only M M a from cq_only.rf) _ (by clear Eo Eo2 E14 E15 E16 En Et; omega), En (8 + 11 * c + k) (by clear Eo Eo2 E14 E15 E16 En Et; omega) (by clear Eo Eo2 E14 E15 E16 En Et; omega) (by clear Eo Eo2 E14 E15 E16 En Et; omega)]
              exact h.2.2.2.2.2.2.2 k hk)
      · have c_30 : ¬ (g (16 + 11 * c) / 2) = 0 := fun z => c_30 ((nI_b (a := (g (16 + 11 * c) / 2)) (b := 0) (by omega) (by omega)).2.2.mpr z)
        refine cq_aload_n F (i := 0) dX1_burnsOut_33 rfl rfl ?_
        refine cq_callV F (C := RX1) (ci := 2) (nX1_isOut3 (l := l) (D := D) (cA := cA) (X := X) (Bs := Bs) (a := a) (M := M) (ns_time g c) (g (14 + 11 * c)) (g (15 + 11 * c)) ha (show M a 2 = nI (ns_time g c) from h.2.1) (show M a 3 = nI (g (14 + 11 * c)) from h.2.2.1) (show M a 4 = nI (g (15 + 11 * c)) from h.2.2.2.1) (by omega) (by omega)) (cwV 0 F.1.2.2.2.2 gX1_burnsOut_X1_isOut rfl rfl rfl hdVX1_isOut ⟨Nat.le_of_ble_eq_true rfl, Nat.le_of_ble_eq_true rfl⟩) ha.kind ⟨by decide, by decide⟩ rfl rfl rfl (Nat.le_of_ble_eq_true rfl) dX1_burnsOut_34 ⟨Nat.le_of_ble_eq_true rfl, Nat.le_of_ble_eq_true rfl⟩ (cq_kIp fun r_34 h_34 => ?_)
        refine cq_if_ne F (tgt := 50) dX1_burnsOut_37 (by decide) (fun c_37 => ?_) (fun c_37 => ?_)
        · have c_37 := cq_b1 h_34 c_37
          refine cq_aload_n F (i := 0) dX1_burnsOut_50 rfl rfl ?_
          refine cq_callV F (C := RX1) (ci := 2) (nX1_isOut3 (l := l) (D := D) (cA := cA) (X := X) (Bs := Bs) (a := a) (M := M) (ns_time g c) (g (14 + 11 * c)) (g (15 + 11 * c)) ha (show M a 2 = nI (ns_time g c) from h.2.1) (show M a 3 = nI (g (14 + 11 * c)) from h.2.2.1) (show M a 4 = nI (g (15 + 11 * c)) from h.2.2.2.1) (by omega) (by omega)) (cwV 0 F.1.2.2.2.2 gX1_burnsOut_X1_isOut rfl rfl rfl hdVX1_isOut ⟨Nat.le_of_ble_eq_true rfl, Nat.le_of_ble_eq_true rfl⟩) ha.kind ⟨by decide, by decide⟩ rfl rfl rfl (Nat.le_of_ble_eq_true rfl) dX1_burnsOut_51 ⟨Nat.le_of_ble_eq_true rfl, Nat.le_of_ble_eq_true rfl⟩ (cq_kIp fun r_51 h_51 => ?_)
          refine cq_if_ne F (tgt := 59) dX1_burnsOut_54 (by decide) (fun c_54 => ?_) (fun c_54 => ?_)
          · have c_54 := cq_b1 h_51 c_54
            refine cq_aload_n F (i := 0) dX1_burnsOut_59 rfl rfl ?_
            refine cq_iconst F (v := 0) dX1_burnsOut_60 rfl ?_
            refine cq_put F (C := RX1) (T := TX1) (N := 8) (ci := 2) ha.kind rfl ⟨⟨by decide, by decide⟩, rfl⟩ inX1 tyX1 tyX1_ok nmX1 5 (by decide) rfl rfl (F.1.2.2.2.2 _ (List.mem_of_getElem? (l := wsX1_burnsOut) (i := 1) (a := .fieldLink RX1 31 "CordClock$Cord" "leftFlame" "Z") (by decide +kernel))) rfl (by rfl) (by rfl) dX1_burnsOut_61 (fun M_61 h_61 => ?_)
            refine cq_aload_n F (i := 0) dX1_burnsOut_64 rfl rfl ?_
            refine cq_iconst F (v := 0) dX1_burnsOut_65 rfl ?_
            refine cq_put F (C := RX1) (T := TX1) (N := 8) (ci := 2) ha.kind rfl ⟨⟨by decide, by decide⟩, rfl⟩ inX1 tyX1 tyX1_ok nmX1 6 (by decide) rfl rfl (F.1.2.2.2.2 _ (List.mem_of_getElem? (l := wsX1_burnsOut) (i := 3) (a := .fieldLink RX1 35 "CordClock$Cord" "rightFlame" "Z") (by decide +kernel))) rfl (by rfl) (by rfl) dX1_burnsOut_66 (fun M_66 h_66 => ?_)
            refine cq_iconst F (v := 1) dX1_burnsOut_69 rfl ?_
            refine cq_zret F hr (by rfl) (by decide) (by decide) dX1_burnsOut_70 ⟨_, rfl, ?_⟩
            have Eo2 : ns_outs g c ↔ True := by
              rw [Eo]
              clear Eo E14 E15 E16 En Et
              by_cases hz : g (16 + 11 * c) / 2 = 1 ∧ g (14 + 11 * c) + g (16 + 11 * c) % 2 + g (15 + 11 * c) < ns_time g c
              · rw [if_pos hz]
                obtain ⟨z1, z2⟩ := hz
                exact ⟨fun _ => trivial, fun _ => ⟨by omega, by omega⟩⟩
              · rw [if_neg hz]
                have hz1 : g (16 + 11 * c) / 2 = 1 → ¬ g (14 + 11 * c) + g (16 + 11 * c) % 2 + g (15 + 11 * c) < ns_time g c := fun z1 z2 => hz ⟨z1, z2⟩
                clear hz
                have hz3 : g (16 + 11 * c) / 2 ≤ 1 := by omega
                have hz4 : g (16 + 11 * c) / 2 = 0 ∨ g (16 + 11 * c) / 2 = 1 := by omega
                rcases hz4 with hz4 | hz4
                · exact ⟨fun _ => trivial, fun _ => ⟨by omega, by omega⟩⟩
                · have hz5 := hz1 hz4
                  exact ⟨fun _ => trivial, fun _ => ⟨by omega, by omega⟩⟩
            refine ⟨(if_pos (Eo2.mpr trivial)).symm, ⟨?_, ?_, ?_, ?_, ?_, ?_, ?_, ?_⟩, ((cq_only.rf.up h_61).up h_66)⟩
            · exact ((show M_66 a 1 = nI (g (7 + 11 * c)) from (by rw [h_66, cq_up_k (by omega), h_61, cq_up_k (by omega)]; exact h.1)).trans (congrArg nI (by rw [En _ (by omega) (by omega) (by omega)])))
            · exact ((show M_66 a 2 = nI (ns_time g c) from (by rw [h_66, cq_up_k (by omega), h_61, cq_up_k (by omega)]; exact h.2.1)).trans (congrArg nI (by rw [Et])))
            · exact ((show M_66 a 3 = nI (g (14 + 11 * c)) from (by rw [h_66, cq_up_k (by omega), h_61, cq_up_k (by omega)]; exact h.2.2.1)).trans (congrArg nI (by rw [E14]; clear Eo Eo2 E14 E15 E16 En Et; omega)))
            · exact ((show M_66 a 4 = nI (g (15 + 11 * c)) from (by rw [h_66, cq_up_k (by omega), h_61, cq_up_k (by omega)]; exact h.2.2.2.1)).trans (congrArg nI (by rw [E15]; clear Eo Eo2 E14 E15 E16 En Et; split <;> omega)))
            · exact ((show M_66 a 5 = nI (0) from (by rw [h_66, cq_up_k (by omega), h_61]; exact cq_up_s _ _ _ _)).trans (congrArg nI (by rw [E16]; rw [if_pos (Eo2.mpr trivial)]; try first | rfl | (clear Eo Eo2 E14 E15 E16 En Et; omega))))
            · exact ((show M_66 a 6 = nI (0) from (by rw [h_66]; exact cq_up_s _ _ _ _)).trans (congrArg nI (by rw [E16]; rw [if_pos (Eo2.mpr trivial)]; try first | rfl | (clear Eo Eo2 E14 E15 E16 En Et; omega))))
            · exact ((show M_66 a 7 = nI (g (17 + 11 * c)) from (by rw [h_66, cq_up_k (by omega), h_61, cq_up_k (by omega)]; exact h.2.2.2.2.2.2.1)).trans (congrArg nI (by rw [En _ (by omega) (by omega) (by omega)])))
            · exact (fun k hk => by
                rw [En (7 + 11 * c) (by clear Eo Eo2 E14 E15 E16 En Et; omega) (by clear Eo Eo2 E14 E15 E16 En Et; omega) (by clear Eo Eo2 E14 E15 E16 En Et; omega)] at hk
                have hs6 := hq.1.2
                rw [show M_66 (a + 1) = M (a + 1) from (show cq_only M M_66 a from ((cq_only.rf.up h_61).up h_66)) _ (by clear Eo Eo2 E14 E15 E16 En Et; omega), En (8 + 11 * c + k) (by clear Eo Eo2 E14 E15 E16 En Et; omega) (by clear Eo Eo2 E14 E15 E16 En Et; omega) (by clear Eo Eo2 E14 E15 E16 En Et; omega)]
                exact h.2.2.2.2.2.2.2 k hk)
          · have c_54 := cq_b0 h_51 c_54
            refine cq_iconst F (v := 0) dX1_burnsOut_57 rfl ?_
            refine cq_zret F hr (by rfl) (by decide) (by decide) dX1_burnsOut_58 ⟨_, rfl, ?_⟩
            have Eo2 : ns_outs g c ↔ False := by
              rw [Eo]
              clear Eo E14 E15 E16 En Et
              by_cases hz : g (16 + 11 * c) / 2 = 1 ∧ g (14 + 11 * c) + g (16 + 11 * c) % 2 + g (15 + 11 * c) < ns_time g c
              · rw [if_pos hz]
                obtain ⟨z1, z2⟩ := hz
                exact ⟨fun w => by omega, False.elim⟩
              · rw [if_neg hz]
                have hz1 : g (16 + 11 * c) / 2 = 1 → ¬ g (14 + 11 * c) + g (16 + 11 * c) % 2 + g (15 + 11 * c) < ns_time g c := fun z1 z2 => hz ⟨z1, z2⟩
                clear hz
                have hz3 : g (16 + 11 * c) / 2 ≤ 1 := by omega
                have hz4 : g (16 + 11 * c) / 2 = 0 ∨ g (16 + 11 * c) / 2 = 1 := by omega
                rcases hz4 with hz4 | hz4
                · exact ⟨fun w => by omega, False.elim⟩
                · have hz5 := hz1 hz4
                  exact ⟨fun w => by omega, False.elim⟩
            refine ⟨(if_neg Eo2.mp).symm, ⟨?_, ?_, ?_, ?_, ?_, ?_, ?_, ?_⟩, cq_only.rf⟩
            · exact ((show M a 1 = nI (g (7 + 11 * c)) from h.1).trans (congrArg nI (by rw [En _ (by omega) (by omega) (by omega)])))
            · exact ((show M a 2 = nI (ns_time g c) from h.2.1).trans (congrArg nI (by rw [Et])))
            · exact ((show M a 3 = nI (g (14 + 11 * c)) from h.2.2.1).trans (congrArg nI (by rw [E14]; clear Eo Eo2 E14 E15 E16 En Et; omega)))
            · exact ((show M a 4 = nI (g (15 + 11 * c)) from h.2.2.2.1).trans (congrArg nI (by rw [E15]; clear Eo Eo2 E14 E15 E16 En Et; split <;> omega)))
            · exact ((show M a 5 = nI (g (16 + 11 * c) % 2) from h.2.2.2.2.1).trans (congrArg nI (by rw [E16]; rw [if_neg Eo2.mp]; try first | rfl | (clear Eo Eo2 E14 E15 E16 En Et; omega))))
            · exact ((show M a 6 = nI (g (16 + 11 * c) / 2) from h.2.2.2.2.2.1).trans (congrArg nI (by rw [E16]; rw [if_neg Eo2.mp]; try first | rfl | (clear Eo Eo2 E14 E15 E16 En Et; omega))))
            · exact ((show M a 7 = nI (g (17 + 11 * c)) from h.2.2.2.2.2.2.1).trans (congrArg nI (by rw [En _ (by omega) (by omega) (by omega)])))
            · exact (fun k hk => by
                rw [En (7 + 11 * c) (by clear Eo Eo2 E14 E15 E16 En Et; omega) (by clear Eo Eo2 E14 E15 E16 En Et; omega) (by clear Eo Eo2 E14 E15 E16 En Et; omega)] at hk
                have hs6 := hq.1.2
                rw [show M (a + 1) = M (a + 1) from (show cq_only M M a from cq_only.rf) _ (by clear Eo Eo2 E14 E15 E16 En Et; omega), En (8 + 11 * c + k) (by clear Eo Eo2 E14 E15 E16 En Et; omega) (by clear Eo Eo2 E14 E15 E16 En Et; omega) (by clear Eo Eo2 E14 E15 E16 En Et; omega)]
                exact h.2.2.2.2.2.2.2 k hk)
        · have c_37 := cq_b0 h_34 c_37
          refine cq_aload_n F (i := 0) dX1_burnsOut_40 rfl rfl ?_
          refine cq_dup F dX1_burnsOut_41 rfl ?_
          refine cq_getI F (C := RX1) (T := TX1) (N := 8) (ci := 2) ha.kind rfl ⟨⟨by decide, by decide⟩, rfl⟩ inX1 4 (by decide) rfl rfl (F.1.2.2.2.2 _ (List.mem_of_getElem? (l := wsX1_burnsOut) (i := 4) (a := .fieldLink RX1 28 "CordClock$Cord" "rightBurned" "I") (by decide +kernel))) dX1_burnsOut_42 ?_
          rw [show M a 4 = nI (g (15 + 11 * c)) from (show M a 4 = nI (g (15 + 11 * c)) from h.2.2.2.1)]
          refine cq_iconst F (v := 1) dX1_burnsOut_45 rfl ?_
          refine cq_iadd F dX1_burnsOut_46 ?_
          rw [show (nI (g (15 + 11 * c)) + 1 : Int32) = nI ((g (15 + 11 * c)) + 1) from nI_add _ _]
          refine cq_put F (C := RX1) (T := TX1) (N := 8) (ci := 2) ha.kind rfl ⟨⟨by decide, by decide⟩, rfl⟩ inX1 tyX1 tyX1_ok nmX1 4 (by decide) rfl rfl (F.1.2.2.2.2 _ (List.mem_of_getElem? (l := wsX1_burnsOut) (i := 4) (a := .fieldLink RX1 28 "CordClock$Cord" "rightBurned" "I") (by decide +kernel))) rfl (by rfl) (by rfl) dX1_burnsOut_47 (fun M_47 h_47 => ?_)
          refine cq_aload_n F (i := 0) dX1_burnsOut_50 rfl rfl ?_
          refine cq_callV F (C := RX1) (ci := 2) (nX1_isOut3 (l := l) (D := D) (cA := cA) (X := X) (Bs := Bs) (a := a) (M := M_47) (ns_time g c) (g (14 + 11 * c)) (((g (15 + 11 * c)) + 1)) ha (show M_47 a 2 = nI (ns_time g c) from (by rw [h_47, cq_up_k (by omega)]; exact h.2.1)) (show M_47 a 3 = nI (g (14 + 11 * c)) from (by rw [h_47, cq_up_k (by omega)]; exact h.2.2.1)) (show M_47 a 4 = nI (((g (15 + 11 * c)) + 1)) from (by rw [h_47]; exact cq_up_s _ _ _ _)) (by omega) (by omega)) (cwV 0 F.1.2.2.2.2 gX1_burnsOut_X1_isOut rfl rfl rfl hdVX1_isOut ⟨Nat.le_of_ble_eq_true rfl, Nat.le_of_ble_eq_true rfl⟩) ha.kind ⟨by decide, by decide⟩ rfl rfl rfl (Nat.le_of_ble_eq_true rfl) dX1_burnsOut_51 ⟨Nat.le_of_ble_eq_true rfl, Nat.le_of_ble_eq_true rfl⟩ (cq_kIp fun r_51 h_51 => ?_)
          refine cq_if_ne F (tgt := 59) dX1_burnsOut_54 (by decide) (fun c_54 => ?_) (fun c_54 => ?_)
          · have c_54 := cq_b1 h_51 c_54
            refine cq_aload_n F (i := 0) dX1_burnsOut_59 rfl rfl ?_
            refine cq_iconst F (v := 0) dX1_burnsOut_60 rfl ?_
            refine cq_put F (C := RX1) (T := TX1) (N := 8) (ci := 2) ha.kind rfl ⟨⟨by decide, by decide⟩, rfl⟩ inX1 tyX1 tyX1_ok nmX1 5 (by decide) rfl rfl (F.1.2.2.2.2 _ (List.mem_of_getElem? (l := wsX1_burnsOut) (i := 1) (a := .fieldLink RX1 31 "CordClock$Cord" "leftFlame" "Z") (by decide +kernel))) rfl (by rfl) (by rfl) dX1_burnsOut_61 (fun M_61 h_61 => ?_)
            refine cq_aload_n F (i := 0) dX1_burnsOut_64 rfl rfl ?_
            refine cq_iconst F (v := 0) dX1_burnsOut_65 rfl ?_
            refine cq_put F (C := RX1) (T := TX1) (N := 8) (ci := 2) ha.kind rfl ⟨⟨by decide, by decide⟩, rfl⟩ inX1 tyX1 tyX1_ok nmX1 6 (by decide) rfl rfl (F.1.2.2.2.2 _ (List.mem_of_getElem? (l := wsX1_burnsOut) (i := 3) (a := .fieldLink RX1 35 "CordClock$Cord" "rightFlame" "Z") (by decide +kernel))) rfl (by rfl) (by rfl) dX1_burnsOut_66 (fun M_66 h_66 => ?_)
            refine cq_iconst F (v := 1) dX1_burnsOut_69 rfl ?_
            refine cq_zret F hr (by rfl) (by decide) (by decide) dX1_burnsOut_70 ⟨_, rfl, ?_⟩
            have Eo2 : ns_outs g c ↔ True := by
              rw [Eo]
              clear Eo E14 E15 E16 En Et
              by_cases hz : g (16 + 11 * c) / 2 = 1 ∧ g (14 + 11 * c) + g (16 + 11 * c) % 2 + g (15 + 11 * c) < ns_time g c
              · rw [if_pos hz]
                obtain ⟨z1, z2⟩ := hz
                exact ⟨fun _ => trivial, fun _ => ⟨by omega, by omega⟩⟩
              · rw [if_neg hz]
                have hz1 : g (16 + 11 * c) / 2 = 1 → ¬ g (14 + 11 * c) + g (16 + 11 * c) % 2 + g (15 + 11 * c) < ns_time g c := fun z1 z2 => hz ⟨z1, z2⟩
                clear hz
                have hz3 : g (16 + 11 * c) / 2 ≤ 1 := by omega
                have hz4 : g (16 + 11 * c) / 2 = 0 ∨ g (16 + 11 * c) / 2 = 1 := by omega
                rcases hz4 with hz4 | hz4
                · exact ⟨fun _ => trivial, fun _ => ⟨by omega, by omega⟩⟩
                · have hz5 := hz1 hz4
                  exact ⟨fun _ => trivial, fun _ => ⟨by omega, by omega⟩⟩
            refine ⟨(if_pos (Eo2.mpr trivial)).symm, ⟨?_, ?_, ?_, ?_, ?_, ?_, ?_, ?_⟩, (((cq_only.rf.up h_47).up h_61).up h_66)⟩
            · exact ((show M_66 a 1 = nI (g (7 + 11 * c)) from (by rw [h_66, cq_up_k (by omega), h_61, cq_up_k (by omega), h_47, cq_up_k (by omega)]; exact h.1)).trans (congrArg nI (by rw [En _ (by omega) (by omega) (by omega)])))
            · exact ((show M_66 a 2 = nI (ns_time g c) from (by rw [h_66, cq_up_k (by omega), h_61, cq_up_k (by omega), h_47, cq_up_k (by omega)]; exact h.2.1)).trans (congrArg nI (by rw [Et])))
            · exact ((show M_66 a 3 = nI (g (14 + 11 * c)) from (by rw [h_66, cq_up_k (by omega), h_61, cq_up_k (by omega), h_47, cq_up_k (by omega)]; exact h.2.2.1)).trans (congrArg nI (by rw [E14]; clear Eo Eo2 E14 E15 E16 En Et; omega)))
            · exact ((show M_66 a 4 = nI (((g (15 + 11 * c)) + 1)) from (by rw [h_66, cq_up_k (by omega), h_61, cq_up_k (by omega), h_47]; exact cq_up_s _ _ _ _)).trans (congrArg nI (by rw [E15]; clear Eo Eo2 E14 E15 E16 En Et; split <;> omega)))
            · exact ((show M_66 a 5 = nI (0) from (by rw [h_66, cq_up_k (by omega), h_61]; exact cq_up_s _ _ _ _)).trans (congrArg nI (by rw [E16]; rw [if_pos (Eo2.mpr trivial)]; try first | rfl | (clear Eo Eo2 E14 E15 E16 En Et; omega))))
            · exact ((show M_66 a 6 = nI (0) from (by rw [h_66]; exact cq_up_s _ _ _ _)).trans (congrArg nI (by rw [E16]; rw [if_pos (Eo2.mpr trivial)]; try first | rfl | (clear Eo Eo2 E14 E15 E16 En Et; omega))))
            · exact ((show M_66 a 7 = nI (g (17 + 11 * c)) from (by rw [h_66, cq_up_k (by omega), h_61, cq_up_k (by omega), h_47, cq_up_k (by omega)]; exact h.2.2.2.2.2.2.1)).trans (congrArg nI (by rw [En _ (by omega) (by omega) (by omega)])))
            · exact (fun k hk => by
                rw [En (7 + 11 * c) (by clear Eo Eo2 E14 E15 E16 En Et; omega) (by clear Eo Eo2 E14 E15 E16 En Et; omega) (by clear Eo Eo2 E14 E15 E16 En Et; omega)] at hk
                have hs6 := hq.1.2
                rw [show M_66 (a + 1) = M (a + 1) from (show cq_only M M_66 a from (((cq_only.rf.up h_47).up h_61).up h_66)) _ (by clear Eo Eo2 E14 E15 E16 En Et; omega), En (8 + 11 * c + k) (by clear Eo Eo2 E14 E15 E16 En Et; omega) (by clear Eo Eo2 E14 E15 E16 En Et; omega) (by clear Eo Eo2 E14 E15 E16 En Et; omega)]
                exact h.2.2.2.2.2.2.2 k hk)
          · have c_54 := cq_b0 h_51 c_54
            refine cq_iconst F (v := 0) dX1_burnsOut_57 rfl ?_
            refine cq_zret F hr (by rfl) (by decide) (by decide) dX1_burnsOut_58 ⟨_, rfl, ?_⟩
            have Eo2 : ns_outs g c ↔ False := by
              rw [Eo]
              clear Eo E14 E15 E16 En Et
              by_cases hz : g (16 + 11 * c) / 2 = 1 ∧ g (14 + 11 * c) + g (16 + 11 * c) % 2 + g (15 + 11 * c) < ns_time g c
              · rw [if_pos hz]
                obtain ⟨z1, z2⟩ := hz
                exact ⟨fun w => by omega, False.elim⟩
              · rw [if_neg hz]
                have hz1 : g (16 + 11 * c) / 2 = 1 → ¬ g (14 + 11 * c) + g (16 + 11 * c) % 2 + g (15 + 11 * c) < ns_time g c := fun z1 z2 => hz ⟨z1, z2⟩
                clear hz
                have hz3 : g (16 + 11 * c) / 2 ≤ 1 := by omega
                have hz4 : g (16 + 11 * c) / 2 = 0 ∨ g (16 + 11 * c) / 2 = 1 := by omega
                rcases hz4 with hz4 | hz4
                · exact ⟨fun w => by omega, False.elim⟩
                · have hz5 := hz1 hz4
                  exact ⟨fun w => by omega, False.elim⟩
            refine ⟨(if_neg Eo2.mp).symm, ⟨?_, ?_, ?_, ?_, ?_, ?_, ?_, ?_⟩, (cq_only.rf.up h_47)⟩
            · exact ((show M_47 a 1 = nI (g (7 + 11 * c)) from (by rw [h_47, cq_up_k (by omega)]; exact h.1)).trans (congrArg nI (by rw [En _ (by omega) (by omega) (by omega)])))
            · exact ((show M_47 a 2 = nI (ns_time g c) from (by rw [h_47, cq_up_k (by omega)]; exact h.2.1)).trans (congrArg nI (by rw [Et])))
            · exact ((show M_47 a 3 = nI (g (14 + 11 * c)) from (by rw [h_47, cq_up_k (by omega)]; exact h.2.2.1)).trans (congrArg nI (by rw [E14]; clear Eo Eo2 E14 E15 E16 En Et; omega)))
            · exact ((show M_47 a 4 = nI (((g (15 + 11 * c)) + 1)) from (by rw [h_47]; exact cq_up_s _ _ _ _)).trans (congrArg nI (by rw [E15]; clear Eo Eo2 E14 E15 E16 En Et; split <;> omega)))
            · exact ((show M_47 a 5 = nI (g (16 + 11 * c) % 2) from (by rw [h_47, cq_up_k (by omega)]; exact h.2.2.2.2.1)).trans (congrArg nI (by rw [E16]; rw [if_neg Eo2.mp]; try first | rfl | (clear Eo Eo2 E14 E15 E16 En Et; omega))))
            · exact ((show M_47 a 6 = nI (g (16 + 11 * c) / 2) from (by rw [h_47, cq_up_k (by omega)]; exact h.2.2.2.2.2.1)).trans (congrArg nI (by rw [E16]; rw [if_neg Eo2.mp]; try first | rfl | (clear Eo Eo2 E14 E15 E16 En Et; omega))))
            · exact ((show M_47 a 7 = nI (g (17 + 11 * c)) from (by rw [h_47, cq_up_k (by omega)]; exact h.2.2.2.2.2.2.1)).trans (congrArg nI (by rw [En _ (by omega) (by omega) (by omega)])))
            · exact (fun k hk => by
                rw [En (7 + 11 * c) (by clear Eo Eo2 E14 E15 E16 En Et; omega) (by clear Eo Eo2 E14 E15 E16 En Et; omega) (by clear Eo Eo2 E14 E15 E16 En Et; omega)] at hk
                have hs6 := hq.1.2
                rw [show M_47 (a + 1) = M (a + 1) from (show cq_only M M_47 a from (cq_only.rf.up h_47)) _ (by clear Eo Eo2 E14 E15 E16 En Et; omega), En (8 + 11 * c + k) (by clear Eo Eo2 E14 E15 E16 En Et; omega) (by clear Eo Eo2 E14 E15 E16 En Et; omega) (by clear Eo Eo2 E14 E15 E16 En Et; omega)]
                exact h.2.2.2.2.2.2.2 k hk)
    · have c_13 : ¬ (g (16 + 11 * c) % 2) = 0 := fun z => c_13 ((nI_b (a := (g (16 + 11 * c) % 2)) (b := 0) (by omega) (by omega)).2.2.mpr z)
      refine cq_aload_n F (i := 0) dX1_burnsOut_16 rfl rfl ?_
      refine cq_dup F dX1_burnsOut_17 rfl ?_
      refine cq_getI F (C := RX1) (T := TX1) (N := 8) (ci := 2) ha.kind rfl ⟨⟨by decide, by decide⟩, rfl⟩ inX1 3 (by decide) rfl rfl (F.1.2.2.2.2 _ (List.mem_of_getElem? (l := wsX1_burnsOut) (i := 2) (a := .fieldLink RX1 25 "CordClock$Cord" "leftBurned" "I") (by decide +kernel))) dX1_burnsOut_18 ?_
      rw [show M a 3 = nI (g (14 + 11 * c)) from (show M a 3 = nI (g (14 + 11 * c)) from h.2.2.1)]
      refine cq_iconst F (v := 1) dX1_burnsOut_21 rfl ?_
      refine cq_iadd F dX1_burnsOut_22 ?_
      rw [show (nI (g (14 + 11 * c)) + 1 : Int32) = nI ((g (14 + 11 * c)) + 1) from nI_add _ _]
      refine cq_put F (C := RX1) (T := TX1) (N := 8) (ci := 2) ha.kind rfl ⟨⟨by decide, by decide⟩, rfl⟩ inX1 tyX1 tyX1_ok nmX1 3 (by decide) rfl rfl (F.1.2.2.2.2 _ (List.mem_of_getElem? (l := wsX1_burnsOut) (i := 2) (a := .fieldLink RX1 25 "CordClock$Cord" "leftBurned" "I") (by decide +kernel))) rfl (by rfl) (by rfl) dX1_burnsOut_23 (fun M_23 h_23 => ?_)
      refine cq_aload_n F (i := 0) dX1_burnsOut_26 rfl rfl ?_
      refine cq_getI F (C := RX1) (T := TX1) (N := 8) (ci := 2) ha.kind rfl ⟨⟨by decide, by decide⟩, rfl⟩ inX1 6 (by decide) rfl rfl (F.1.2.2.2.2 _ (List.mem_of_getElem? (l := wsX1_burnsOut) (i := 3) (a := .fieldLink RX1 35 "CordClock$Cord" "rightFlame" "Z") (by decide +kernel))) dX1_burnsOut_27 ?_
      rw [show M_23 a 6 = nI (g (16 + 11 * c) / 2) from (show M_23 a 6 = nI (g (16 + 11 * c) / 2) from (by rw [h_23, cq_up_k (by omega)]; exact h.2.2.2.2.2.1))]
      refine cq_if_eq F (tgt := 50) dX1_burnsOut_30 (by decide) (fun c_30 => ?_) (fun c_30 => ?_)
      · have c_30 : (g (16 + 11 * c) / 2) = 0 := (nI_b (a := (g (16 + 11 * c) / 2)) (b := 0) (by omega) (by omega)).2.2.mp c_30
        refine cq_aload_n F (i := 0) dX1_burnsOut_50 rfl rfl ?_
        refine cq_callV F (C := RX1) (ci := 2) (nX1_isOut3 (l := l) (D := D) (cA := cA) (X := X) (Bs := Bs) (a := a) (M := M_23) (ns_time g c) (((g (14 + 11 * c)) + 1)) (g (15 + 11 * c)) ha (show M_23 a 2 = nI (ns_time g c) from (by rw [h_23, cq_up_k (by omega)]; exact h.2.1)) (show M_23 a 3 = nI (((g (14 + 11 * c)) + 1)) from (by rw [h_23]; exact cq_up_s _ _ _ _)) (show M_23 a 4 = nI (g (15 + 11 * c)) from (by rw [h_23, cq_up_k (by omega)]; exact h.2.2.2.1)) (by omega) (by omega)) (cwV 0 F.1.2.2.2.2 gX1_burnsOut_X1_isOut rfl rfl rfl hdVX1_isOut ⟨Nat.le_of_ble_eq_true rfl, Nat.le_of_ble_eq_true rfl⟩) ha.kind ⟨by decide, by decide⟩ rfl rfl rfl (Nat.le_of_ble_eq_true rfl) dX1_burnsOut_51 ⟨Nat.le_of_ble_eq_true rfl, Nat.le_of_ble_eq_true rfl⟩ (cq_kIp fun r_51 h_51 => ?_)
        refine cq_if_ne F (tgt := 59) dX1_burnsOut_54 (by decide) (fun c_54 => ?_) (fun c_54 => ?_)
        · have c_54 := cq_b1 h_51 c_54
          refine cq_aload_n F (i := 0) dX1_burnsOut_59 rfl rfl ?_
          refine cq_iconst F (v := 0) dX1_burnsOut_60 rfl ?_
          refine cq_put F (C := RX1) (T := TX1) (N := 8) (ci := 2) ha.kind rfl ⟨⟨by decide, by decide⟩, rfl⟩ inX1 tyX1 tyX1_ok nmX1 5 (by decide) rfl rfl (F.1.2.2.2.2 _ (List.mem_of_getElem? (l := wsX1_burnsOut) (i := 1) (a := .fieldLink RX1 31 "CordClock$Cord" "leftFlame" "Z") (by decide +kernel))) rfl (by rfl) (by rfl) dX1_burnsOut_61 (fun M_61 h_61 => ?_)
          refine cq_aload_n F (i := 0) dX1_burnsOut_64 rfl rfl ?_
          refine cq_iconst F (v := 0) dX1_burnsOut_65 rfl ?_
          refine cq_put F (C := RX1) (T := TX1) (N := 8) (ci := 2) ha.kind rfl ⟨⟨by decide, by decide⟩, rfl⟩ inX1 tyX1 tyX1_ok nmX1 6 (by decide) rfl rfl (F.1.2.2.2.2 _ (List.mem_of_getElem? (l := wsX1_burnsOut) (i := 3) (a := .fieldLink RX1 35 "CordClock$Cord" "rightFlame" "Z") (by decide +kernel))) rfl (by rfl) (by rfl) dX1_burnsOut_66 (fun M_66 h_66 => ?_)
          refine cq_iconst F (v := 1) dX1_burnsOut_69 rfl ?_
          refine cq_zret F hr (by rfl) (by decide) (by decide) dX1_burnsOut_70 ⟨_, rfl, ?_⟩
          have Eo2 : ns_outs g c ↔ True := by
            rw [Eo]
            clear Eo E14 E15 E16 En Et
            by_cases hz : g (16 + 11 * c) / 2 = 1 ∧ g (14 + 11 * c) + g (16 + 11 * c) % 2 + g (15 + 11 * c) < ns_time g c
            · rw [if_pos hz]
              obtain ⟨z1, z2⟩ := hz
              exact ⟨fun _ => trivial, fun _ => ⟨by omega, by omega⟩⟩
            · rw [if_neg hz]
              have hz1 : g (16 + 11 * c) / 2 = 1 → ¬ g (14 + 11 * c) + g (16 + 11 * c) % 2 + g (15 + 11 * c) < ns_time g c := fun z1 z2 => hz ⟨z1, z2⟩
              clear hz
              have hz3 : g (16 + 11 * c) / 2 ≤ 1 := by omega
              have hz4 : g (16 + 11 * c) / 2 = 0 ∨ g (16 + 11 * c) / 2 = 1 := by omega
              rcases hz4 with hz4 | hz4
              · exact ⟨fun _ => trivial, fun _ => ⟨by omega, by omega⟩⟩
              · have hz5 := hz1 hz4
                exact ⟨fun _ => trivial, fun _ => ⟨by omega, by omega⟩⟩
          refine ⟨(if_pos (Eo2.mpr trivial)).symm, ⟨?_, ?_, ?_, ?_, ?_, ?_, ?_, ?_⟩, (((cq_only.rf.up h_23).up h_61).up h_66)⟩
          · exact ((show M_66 a 1 = nI (g (7 + 11 * c)) from (by rw [h_66, cq_up_k (by omega), h_61, cq_up_k (by omega), h_23, cq_up_k (by omega)]; exact h.1)).trans (congrArg nI (by rw [En _ (by omega) (by omega) (by omega)])))
          · exact ((show M_66 a 2 = nI (ns_time g c) from (by rw [h_66, cq_up_k (by omega), h_61, cq_up_k (by omega), h_23, cq_up_k (by omega)]; exact h.2.1)).trans (congrArg nI (by rw [Et])))
          · exact ((show M_66 a 3 = nI (((g (14 + 11 * c)) + 1)) from (by rw [h_66, cq_up_k (by omega), h_61, cq_up_k (by omega), h_23]; exact cq_up_s _ _ _ _)).trans (congrArg nI (by rw [E14]; clear Eo Eo2 E14 E15 E16 En Et; omega)))
          · exact ((show M_66 a 4 = nI (g (15 + 11 * c)) from (by rw [h_66, cq_up_k (by omega), h_61, cq_up_k (by omega), h_23, cq_up_k (by omega)]; exact h.2.2.2.1)).trans (congrArg nI (by rw [E15]; clear Eo Eo2 E14 E15 E16 En Et; split <;> omega)))
          · exact ((show M_66 a 5 = nI (0) from (by rw [h_66, cq_up_k (by omega), h_61]; exact cq_up_s _ _ _ _)).trans (congrArg nI (by rw [E16]; rw [if_pos (Eo2.mpr trivial)]; try first | rfl | (clear Eo Eo2 E14 E15 E16 En Et; omega))))
          · exact ((show M_66 a 6 = nI (0) from (by rw [h_66]; exact cq_up_s _ _ _ _)).trans (congrArg nI (by rw [E16]; rw [if_pos (Eo2.mpr trivial)]; try first | rfl | (clear Eo Eo2 E14 E15 E16 En Et; omega))))
          · exact ((show M_66 a 7 = nI (g (17 + 11 * c)) from (by rw [h_66, cq_up_k (by omega), h_61, cq_up_k (by omega), h_23, cq_up_k (by omega)]; exact h.2.2.2.2.2.2.1)).trans (congrArg nI (by rw [En _ (by omega) (by omega) (by omega)])))
          · exact (fun k hk => by
              rw [En (7 + 11 * c) (by clear Eo Eo2 E14 E15 E16 En Et; omega) (by clear Eo Eo2 E14 E15 E16 En Et; omega) (by clear Eo Eo2 E14 E15 E16 En Et; omega)] at hk
              have hs6 := hq.1.2
              rw [show M_66 (a + 1) = M (a + 1) from (show cq_only M M_66 a from (((cq_only.rf.up h_23).up h_61).up h_66)) _ (by clear Eo Eo2 E14 E15 E16 En Et; omega), En (8 + 11 * c + k) (by clear Eo Eo2 E14 E15 E16 En Et; omega) (by clear Eo Eo2 E14 E15 E16 En Et; omega) (by clear Eo Eo2 E14 E15 E16 En Et; omega)]
              exact h.2.2.2.2.2.2.2 k hk)
        · have c_54 := cq_b0 h_51 c_54
          refine cq_iconst F (v := 0) dX1_burnsOut_57 rfl ?_
          refine cq_zret F hr (by rfl) (by decide) (by decide) dX1_burnsOut_58 ⟨_, rfl, ?_⟩
          have Eo2 : ns_outs g c ↔ False := by
            rw [Eo]
            clear Eo E14 E15 E16 En Et
            by_cases hz : g (16 + 11 * c) / 2 = 1 ∧ g (14 + 11 * c) + g (16 + 11 * c) % 2 + g (15 + 11 * c) < ns_time g c
            · rw [if_pos hz]
              obtain ⟨z1, z2⟩ := hz
              exact ⟨fun w => by omega, False.elim⟩
            · rw [if_neg hz]
              have hz1 : g (16 + 11 * c) / 2 = 1 → ¬ g (14 + 11 * c) + g (16 + 11 * c) % 2 + g (15 + 11 * c) < ns_time g c := fun z1 z2 => hz ⟨z1, z2⟩
              clear hz
              have hz3 : g (16 + 11 * c) / 2 ≤ 1 := by omega
              have hz4 : g (16 + 11 * c) / 2 = 0 ∨ g (16 + 11 * c) / 2 = 1 := by omega
              rcases hz4 with hz4 | hz4
              · exact ⟨fun w => by omega, False.elim⟩
              · have hz5 := hz1 hz4
                exact ⟨fun w => by omega, False.elim⟩
          refine ⟨(if_neg Eo2.mp).symm, ⟨?_, ?_, ?_, ?_, ?_, ?_, ?_, ?_⟩, (cq_only.rf.up h_23)⟩
          · exact ((show M_23 a 1 = nI (g (7 + 11 * c)) from (by rw [h_23, cq_up_k (by omega)]; exact h.1)).trans (congrArg nI (by rw [En _ (by omega) (by omega) (by omega)])))
          · exact ((show M_23 a 2 = nI (ns_time g c) from (by rw [h_23, cq_up_k (by omega)]; exact h.2.1)).trans (congrArg nI (by rw [Et])))
          · exact ((show M_23 a 3 = nI (((g (14 + 11 * c)) + 1)) from (by rw [h_23]; exact cq_up_s _ _ _ _)).trans (congrArg nI (by rw [E14]; clear Eo Eo2 E14 E15 E16 En Et; omega)))
          · exact ((show M_23 a 4 = nI (g (15 + 11 * c)) from (by rw [h_23, cq_up_k (by omega)]; exact h.2.2.2.1)).trans (congrArg nI (by rw [E15]; clear Eo Eo2 E14 E15 E16 En Et; split <;> omega)))
          · exact ((show M_23 a 5 = nI (g (16 + 11 * c) % 2) from (by rw [h_23, cq_up_k (by omega)]; exact h.2.2.2.2.1)).trans (congrArg nI (by rw [E16]; rw [if_neg Eo2.mp]; try first | rfl | (clear Eo Eo2 E14 E15 E16 En Et; omega))))
          · exact ((show M_23 a 6 = nI (g (16 + 11 * c) / 2) from (by rw [h_23, cq_up_k (by omega)]; exact h.2.2.2.2.2.1)).trans (congrArg nI (by rw [E16]; rw [if_neg Eo2.mp]; try first | rfl | (clear Eo Eo2 E14 E15 E16 En Et; omega))))
          · exact ((show M_23 a 7 = nI (g (17 + 11 * c)) from (by rw [h_23, cq_up_k (by omega)]; exact h.2.2.2.2.2.2.1)).trans (congrArg nI (by rw [En _ (by omega) (by omega) (by omega)])))
          · exact (fun k hk => by
              rw [En (7 + 11 * c) (by clear Eo Eo2 E14 E15 E16 En Et; omega) (by clear Eo Eo2 E14 E15 E16 En Et; omega) (by clear Eo Eo2 E14 E15 E16 En Et; omega)] at hk
              have hs6 := hq.1.2
              rw [show M_23 (a + 1) = M (a + 1) from (show cq_only M M_23 a from (cq_only.rf.up h_23)) _ (by clear Eo Eo2 E14 E15 E16 En Et; omega), En (8 + 11 * c + k) (by clear Eo Eo2 E14 E15 E16 En Et; omega) (by clear Eo Eo2 E14 E15 E16 En Et; omega) (by clear Eo Eo2 E14 E15 E16 En Et; omega)]
              exact h.2.2.2.2.2.2.2 k hk)
      · have c_30 : ¬ (g (16 + 11 * c) / 2) = 0 := fun z => c_30 ((nI_b (a := (g (16 + 11 * c) / 2)) (b := 0) (by omega) (by omega)).2.2.mpr z)
        refine cq_aload_n F (i := 0) dX1_burnsOut_33 rfl rfl ?_
        refine cq_callV F (C := RX1) (ci := 2) (nX1_isOut3 (l := l) (D := D) (cA := cA) (X := X) (Bs := Bs) (a := a) (M := M_23) (ns_time g c) (((g (14 + 11 * c)) + 1)) (g (15 + 11 * c)) ha (show M_23 a 2 = nI (ns_time g c) from (by rw [h_23, cq_up_k (by omega)]; exact h.2.1)) (show M_23 a 3 = nI (((g (14 + 11 * c)) + 1)) from (by rw [h_23]; exact cq_up_s _ _ _ _)) (show M_23 a 4 = nI (g (15 + 11 * c)) from (by rw [h_23, cq_up_k (by omega)]; exact h.2.2.2.1)) (by omega) (by omega)) (cwV 0 F.1.2.2.2.2 gX1_burnsOut_X1_isOut rfl rfl rfl hdVX1_isOut ⟨Nat.le_of_ble_eq_true rfl, Nat.le_of_ble_eq_true rfl⟩) ha.kind ⟨by decide, by decide⟩ rfl rfl rfl (Nat.le_of_ble_eq_true rfl) dX1_burnsOut_34 ⟨Nat.le_of_ble_eq_true rfl, Nat.le_of_ble_eq_true rfl⟩ (cq_kIp fun r_34 h_34 => ?_)
        refine cq_if_ne F (tgt := 50) dX1_burnsOut_37 (by decide) (fun c_37 => ?_) (fun c_37 => ?_)
        · have c_37 := cq_b1 h_34 c_37
          refine cq_aload_n F (i := 0) dX1_burnsOut_50 rfl rfl ?_
          refine cq_callV F (C := RX1) (ci := 2) (nX1_isOut3 (l := l) (D := D) (cA := cA) (X := X) (Bs := Bs) (a := a) (M := M_23) (ns_time g c) (((g (14 + 11 * c)) + 1)) (g (15 + 11 * c)) ha (show M_23 a 2 = nI (ns_time g c) from (by rw [h_23, cq_up_k (by omega)]; exact h.2.1)) (show M_23 a 3 = nI (((g (14 + 11 * c)) + 1)) from (by rw [h_23]; exact cq_up_s _ _ _ _)) (show M_23 a 4 = nI (g (15 + 11 * c)) from (by rw [h_23, cq_up_k (by omega)]; exact h.2.2.2.1)) (by omega) (by omega)) (cwV 0 F.1.2.2.2.2 gX1_burnsOut_X1_isOut rfl rfl rfl hdVX1_isOut ⟨Nat.le_of_ble_eq_true rfl, Nat.le_of_ble_eq_true rfl⟩) ha.kind ⟨by decide, by decide⟩ rfl rfl rfl (Nat.le_of_ble_eq_true rfl) dX1_burnsOut_51 ⟨Nat.le_of_ble_eq_true rfl, Nat.le_of_ble_eq_true rfl⟩ (cq_kIp fun r_51 h_51 => ?_)
          refine cq_if_ne F (tgt := 59) dX1_burnsOut_54 (by decide) (fun c_54 => ?_) (fun c_54 => ?_)
          · have c_54 := cq_b1 h_51 c_54
            refine cq_aload_n F (i := 0) dX1_burnsOut_59 rfl rfl ?_
            refine cq_iconst F (v := 0) dX1_burnsOut_60 rfl ?_
            refine cq_put F (C := RX1) (T := TX1) (N := 8) (ci := 2) ha.kind rfl ⟨⟨by decide, by decide⟩, rfl⟩ inX1 tyX1 tyX1_ok nmX1 5 (by decide) rfl rfl (F.1.2.2.2.2 _ (List.mem_of_getElem? (l := wsX1_burnsOut) (i := 1) (a := .fieldLink RX1 31 "CordClock$Cord" "leftFlame" "Z") (by decide +kernel))) rfl (by rfl) (by rfl) dX1_burnsOut_61 (fun M_61 h_61 => ?_)
            refine cq_aload_n F (i := 0) dX1_burnsOut_64 rfl rfl ?_
            refine cq_iconst F (v := 0) dX1_burnsOut_65 rfl ?_
            refine cq_put F (C := RX1) (T := TX1) (N := 8) (ci := 2) ha.kind rfl ⟨⟨by decide, by decide⟩, rfl⟩ inX1 tyX1 tyX1_ok nmX1 6 (by decide) rfl rfl (F.1.2.2.2.2 _ (List.mem_of_getElem? (l := wsX1_burnsOut) (i := 3) (a := .fieldLink RX1 35 "CordClock$Cord" "rightFlame" "Z") (by decide +kernel))) rfl (by rfl) (by rfl) dX1_burnsOut_66 (fun M_66 h_66 => ?_)
            refine cq_iconst F (v := 1) dX1_burnsOut_69 rfl ?_
            refine cq_zret F hr (by rfl) (by decide) (by decide) dX1_burnsOut_70 ⟨_, rfl, ?_⟩
            have Eo2 : ns_outs g c ↔ True := by
              rw [Eo]
              clear Eo E14 E15 E16 En Et
              by_cases hz : g (16 + 11 * c) / 2 = 1 ∧ g (14 + 11 * c) + g (16 + 11 * c) % 2 + g (15 + 11 * c) < ns_time g c
              · rw [if_pos hz]
                obtain ⟨z1, z2⟩ := hz
                exact ⟨fun _ => trivial, fun _ => ⟨by omega, by omega⟩⟩
              · rw [if_neg hz]
                have hz1 : g (16 + 11 * c) / 2 = 1 → ¬ g (14 + 11 * c) + g (16 + 11 * c) % 2 + g (15 + 11 * c) < ns_time g c := fun z1 z2 => hz ⟨z1, z2⟩
                clear hz
                have hz3 : g (16 + 11 * c) / 2 ≤ 1 := by omega
                have hz4 : g (16 + 11 * c) / 2 = 0 ∨ g (16 + 11 * c) / 2 = 1 := by omega
                rcases hz4 with hz4 | hz4
                · exact ⟨fun _ => trivial, fun _ => ⟨by omega, by omega⟩⟩
                · have hz5 := hz1 hz4
                  exact ⟨fun _ => trivial, fun _ => ⟨by omega, by omega⟩⟩
            refine ⟨(if_pos (Eo2.mpr trivial)).symm, ⟨?_, ?_, ?_, ?_, ?_, ?_, ?_, ?_⟩, (((cq_only.rf.up h_23).up h_61).up h_66)⟩
            · exact ((show M_66 a 1 = nI (g (7 + 11 * c)) from (by rw [h_66, cq_up_k (by omega), h_61, cq_up_k (by omega), h_23, cq_up_k (by omega)]; exact h.1)).trans (congrArg nI (by rw [En _ (by omega) (by omega) (by omega)])))
            · exact ((show M_66 a 2 = nI (ns_time g c) from (by rw [h_66, cq_up_k (by omega), h_61, cq_up_k (by omega), h_23, cq_up_k (by omega)]; exact h.2.1)).trans (congrArg nI (by rw [Et])))
            · exact ((show M_66 a 3 = nI (((g (14 + 11 * c)) + 1)) from (by rw [h_66, cq_up_k (by omega), h_61, cq_up_k (by omega), h_23]; exact cq_up_s _ _ _ _)).trans (congrArg nI (by rw [E14]; clear Eo Eo2 E14 E15 E16 En Et; omega)))
            · exact ((show M_66 a 4 = nI (g (15 + 11 * c)) from (by rw [h_66, cq_up_k (by omega), h_61, cq_up_k (by omega), h_23, cq_up_k (by omega)]; exact h.2.2.2.1)).trans (congrArg nI (by rw [E15]; clear Eo Eo2 E14 E15 E16 En Et; split <;> omega)))
            · exact ((show M_66 a 5 = nI (0) from (by rw [h_66, cq_up_k (by omega), h_61]; exact cq_up_s _ _ _ _)).trans (congrArg nI (by rw [E16]; rw [if_pos (Eo2.mpr trivial)]; try first | rfl | (clear Eo Eo2 E14 E15 E16 En Et; omega))))
            · exact ((show M_66 a 6 = nI (0) from (by rw [h_66]; exact cq_up_s _ _ _ _)).trans (congrArg nI (by rw [E16]; rw [if_pos (Eo2.mpr trivial)]; try first | rfl | (clear Eo Eo2 E14 E15 E16 En Et; omega))))
            · exact ((show M_66 a 7 = nI (g (17 + 11 * c)) from (by rw [h_66, cq_up_k (by omega), h_61, cq_up_k (by omega), h_23, cq_up_k (by omega)]; exact h.2.2.2.2.2.2.1)).trans (congrArg nI (by rw [En _ (by omega) (by omega) (by omega)])))
            · exact (fun k hk => by
                rw [En (7 + 11 * c) (by clear Eo Eo2 E14 E15 E16 En Et; omega) (by clear Eo Eo2 E14 E15 E16 En Et; omega) (by clear Eo Eo2 E14 E15 E16 En Et; omega)] at hk
                have hs6 := hq.1.2
                rw [show M_66 (a + 1) = M (a + 1) from (show cq_only M M_66 a from (((cq_only.rf.up h_23).up h_61).up h_66)) _ (by clear Eo Eo2 E14 E15 E16 En Et; omega), En (8 + 11 * c + k) (by clear Eo Eo2 E14 E15 E16 En Et; omega) (by clear Eo Eo2 E14 E15 E16 En Et; omega) (by clear Eo Eo2 E14 E15 E16 En Et; omega)]
                exact h.2.2.2.2.2.2.2 k hk)
          · have c_54 := cq_b0 h_51 c_54
            refine cq_iconst F (v := 0) dX1_burnsOut_57 rfl ?_
            refine cq_zret F hr (by rfl) (by decide) (by decide) dX1_burnsOut_58 ⟨_, rfl, ?_⟩
            have Eo2 : ns_outs g c ↔ False := by
              rw [Eo]
              clear Eo E14 E15 E16 En Et
              by_cases hz : g (16 + 11 * c) / 2 = 1 ∧ g (14 + 11 * c) + g (16 + 11 * c) % 2 + g (15 + 11 * c) < ns_time g c
              · rw [if_pos hz]
                obtain ⟨z1, z2⟩ := hz
                exact ⟨fun w => by omega, False.elim⟩
              · rw [if_neg hz]
                have hz1 : g (16 + 11 * c) / 2 = 1 → ¬ g (14 + 11 * c) + g (16 + 11 * c) % 2 + g (15 + 11 * c) < ns_time g c := fun z1 z2 => hz ⟨z1, z2⟩
                clear hz
                have hz3 : g (16 + 11 * c) / 2 ≤ 1 := by omega
                have hz4 : g (16 + 11 * c) / 2 = 0 ∨ g (16 + 11 * c) / 2 = 1 := by omega
                rcases hz4 with hz4 | hz4
                · exact ⟨fun w => by omega, False.elim⟩
                · have hz5 := hz1 hz4
                  exact ⟨fun w => by omega, False.elim⟩
            refine ⟨(if_neg Eo2.mp).symm, ⟨?_, ?_, ?_, ?_, ?_, ?_, ?_, ?_⟩, (cq_only.rf.up h_23)⟩
            · exact ((show M_23 a 1 = nI (g (7 + 11 * c)) from (by rw [h_23, cq_up_k (by omega)]; exact h.1)).trans (congrArg nI (by rw [En _ (by omega) (by omega) (by omega)])))
            · exact ((show M_23 a 2 = nI (ns_time g c) from (by rw [h_23, cq_up_k (by omega)]; exact h.2.1)).trans (congrArg nI (by rw [Et])))
            · exact ((show M_23 a 3 = nI (((g (14 + 11 * c)) + 1)) from (by rw [h_23]; exact cq_up_s _ _ _ _)).trans (congrArg nI (by rw [E14]; clear Eo Eo2 E14 E15 E16 En Et; omega)))
            · exact ((show M_23 a 4 = nI (g (15 + 11 * c)) from (by rw [h_23, cq_up_k (by omega)]; exact h.2.2.2.1)).trans (congrArg nI (by rw [E15]; clear Eo Eo2 E14 E15 E16 En Et; split <;> omega)))
            · exact ((show M_23 a 5 = nI (g (16 + 11 * c) % 2) from (by rw [h_23, cq_up_k (by omega)]; exact h.2.2.2.2.1)).trans (congrArg nI (by rw [E16]; rw [if_neg Eo2.mp]; try first | rfl | (clear Eo Eo2 E14 E15 E16 En Et; omega))))
            · exact ((show M_23 a 6 = nI (g (16 + 11 * c) / 2) from (by rw [h_23, cq_up_k (by omega)]; exact h.2.2.2.2.2.1)).trans (congrArg nI (by rw [E16]; rw [if_neg Eo2.mp]; try first | rfl | (clear Eo Eo2 E14 E15 E16 En Et; omega))))
            · exact ((show M_23 a 7 = nI (g (17 + 11 * c)) from (by rw [h_23, cq_up_k (by omega)]; exact h.2.2.2.2.2.2.1)).trans (congrArg nI (by rw [En _ (by omega) (by omega) (by omega)])))
            · exact (fun k hk => by
                rw [En (7 + 11 * c) (by clear Eo Eo2 E14 E15 E16 En Et; omega) (by clear Eo Eo2 E14 E15 E16 En Et; omega) (by clear Eo Eo2 E14 E15 E16 En Et; omega)] at hk
                have hs6 := hq.1.2
                rw [show M_23 (a + 1) = M (a + 1) from (show cq_only M M_23 a from (cq_only.rf.up h_23)) _ (by clear Eo Eo2 E14 E15 E16 En Et; omega), En (8 + 11 * c + k) (by clear Eo Eo2 E14 E15 E16 En Et; omega) (by clear Eo Eo2 E14 E15 E16 En Et; omega) (by clear Eo Eo2 E14 E15 E16 En Et; omega)]
                exact h.2.2.2.2.2.2.2 k hk)
        · have c_37 := cq_b0 h_34 c_37
          refine cq_aload_n F (i := 0) dX1_burnsOut_40 rfl rfl ?_
          refine cq_dup F dX1_burnsOut_41 rfl ?_
          refine cq_getI F (C := RX1) (T := TX1) (N := 8) (ci := 2) ha.kind rfl ⟨⟨by decide, by decide⟩, rfl⟩ inX1 4 (by decide) rfl rfl (F.1.2.2.2.2 _ (List.mem_of_getElem? (l := wsX1_burnsOut) (i := 4) (a := .fieldLink RX1 28 "CordClock$Cord" "rightBurned" "I") (by decide +kernel))) dX1_burnsOut_42 ?_
          rw [show M_23 a 4 = nI (g (15 + 11 * c)) from (show M_23 a 4 = nI (g (15 + 11 * c)) from (by rw [h_23, cq_up_k (by omega)]; exact h.2.2.2.1))]
          refine cq_iconst F (v := 1) dX1_burnsOut_45 rfl ?_
          refine cq_iadd F dX1_burnsOut_46 ?_
          rw [show (nI (g (15 + 11 * c)) + 1 : Int32) = nI ((g (15 + 11 * c)) + 1) from nI_add _ _]
          refine cq_put F (C := RX1) (T := TX1) (N := 8) (ci := 2) ha.kind rfl ⟨⟨by decide, by decide⟩, rfl⟩ inX1 tyX1 tyX1_ok nmX1 4 (by decide) rfl rfl (F.1.2.2.2.2 _ (List.mem_of_getElem? (l := wsX1_burnsOut) (i := 4) (a := .fieldLink RX1 28 "CordClock$Cord" "rightBurned" "I") (by decide +kernel))) rfl (by rfl) (by rfl) dX1_burnsOut_47 (fun M_47 h_47 => ?_)
          refine cq_aload_n F (i := 0) dX1_burnsOut_50 rfl rfl ?_
          refine cq_callV F (C := RX1) (ci := 2) (nX1_isOut3 (l := l) (D := D) (cA := cA) (X := X) (Bs := Bs) (a := a) (M := M_47) (ns_time g c) (((g (14 + 11 * c)) + 1)) (((g (15 + 11 * c)) + 1)) ha (show M_47 a 2 = nI (ns_time g c) from (by rw [h_47, cq_up_k (by omega), h_23, cq_up_k (by omega)]; exact h.2.1)) (show M_47 a 3 = nI (((g (14 + 11 * c)) + 1)) from (by rw [h_47, cq_up_k (by omega), h_23]; exact cq_up_s _ _ _ _)) (show M_47 a 4 = nI (((g (15 + 11 * c)) + 1)) from (by rw [h_47]; exact cq_up_s _ _ _ _)) (by omega) (by omega)) (cwV 0 F.1.2.2.2.2 gX1_burnsOut_X1_isOut rfl rfl rfl hdVX1_isOut ⟨Nat.le_of_ble_eq_true rfl, Nat.le_of_ble_eq_true rfl⟩) ha.kind ⟨by decide, by decide⟩ rfl rfl rfl (Nat.le_of_ble_eq_true rfl) dX1_burnsOut_51 ⟨Nat.le_of_ble_eq_true rfl, Nat.le_of_ble_eq_true rfl⟩ (cq_kIp fun r_51 h_51 => ?_)
          refine cq_if_ne F (tgt := 59) dX1_burnsOut_54 (by decide) (fun c_54 => ?_) (fun c_54 => ?_)
          · have c_54 := cq_b1 h_51 c_54
            refine cq_aload_n F (i := 0) dX1_burnsOut_59 rfl rfl ?_
            refine cq_iconst F (v := 0) dX1_burnsOut_60 rfl ?_
            refine cq_put F (C := RX1) (T := TX1) (N := 8) (ci := 2) ha.kind rfl ⟨⟨by decide, by decide⟩, rfl⟩ inX1 tyX1 tyX1_ok nmX1 5 (by decide) rfl rfl (F.1.2.2.2.2 _ (List.mem_of_getElem? (l := wsX1_burnsOut) (i := 1) (a := .fieldLink RX1 31 "CordClock$Cord" "leftFlame" "Z") (by decide +kernel))) rfl (by rfl) (by rfl) dX1_burnsOut_61 (fun M_61 h_61 => ?_)
            refine cq_aload_n F (i := 0) dX1_burnsOut_64 rfl rfl ?_
            refine cq_iconst F (v := 0) dX1_burnsOut_65 rfl ?_
            refine cq_put F (C := RX1) (T := TX1) (N := 8) (ci := 2) ha.kind rfl ⟨⟨by decide, by decide⟩, rfl⟩ inX1 tyX1 tyX1_ok nmX1 6 (by decide) rfl rfl (F.1.2.2.2.2 _ (List.mem_of_getElem? (l := wsX1_burnsOut) (i := 3) (a := .fieldLink RX1 35 "CordClock$Cord" "rightFlame" "Z") (by decide +kernel))) rfl (by rfl) (by rfl) dX1_burnsOut_66 (fun M_66 h_66 => ?_)
            refine cq_iconst F (v := 1) dX1_burnsOut_69 rfl ?_
            refine cq_zret F hr (by rfl) (by decide) (by decide) dX1_burnsOut_70 ⟨_, rfl, ?_⟩
            have Eo2 : ns_outs g c ↔ True := by
              rw [Eo]
              clear Eo E14 E15 E16 En Et
              by_cases hz : g (16 + 11 * c) / 2 = 1 ∧ g (14 + 11 * c) + g (16 + 11 * c) % 2 + g (15 + 11 * c) < ns_time g c
              · rw [if_pos hz]
                obtain ⟨z1, z2⟩ := hz
                exact ⟨fun _ => trivial, fun _ => ⟨by omega, by omega⟩⟩
              · rw [if_neg hz]
                have hz1 : g (16 + 11 * c) / 2 = 1 → ¬ g (14 + 11 * c) + g (16 + 11 * c) % 2 + g (15 + 11 * c) < ns_time g c := fun z1 z2 => hz ⟨z1, z2⟩
                clear hz
                have hz3 : g (16 + 11 * c) / 2 ≤ 1 := by omega
                have hz4 : g (16 + 11 * c) / 2 = 0 ∨ g (16 + 11 * c) / 2 = 1 := by omega
                rcases hz4 with hz4 | hz4
                · exact ⟨fun _ => trivial, fun _ => ⟨by omega, by omega⟩⟩
                · have hz5 := hz1 hz4
                  exact ⟨fun _ => trivial, fun _ => ⟨by omega, by omega⟩⟩
            refine ⟨(if_pos (Eo2.mpr trivial)).symm, ⟨?_, ?_, ?_, ?_, ?_, ?_, ?_, ?_⟩, ((((cq_only.rf.up h_23).up h_47).up h_61).up h_66)⟩
            · exact ((show M_66 a 1 = nI (g (7 + 11 * c)) from (by rw [h_66, cq_up_k (by omega), h_61, cq_up_k (by omega), h_47, cq_up_k (by omega), h_23, cq_up_k (by omega)]; exact h.1)).trans (congrArg nI (by rw [En _ (by omega) (by omega) (by omega)])))
            · exact ((show M_66 a 2 = nI (ns_time g c) from (by rw [h_66, cq_up_k (by omega), h_61, cq_up_k (by omega), h_47, cq_up_k (by omega), h_23, cq_up_k (by omega)]; exact h.2.1)).trans (congrArg nI (by rw [Et])))
            · exact ((show M_66 a 3 = nI (((g (14 + 11 * c)) + 1)) from (by rw [h_66, cq_up_k (by omega), h_61, cq_up_k (by omega), h_47, cq_up_k (by omega), h_23]; exact cq_up_s _ _ _ _)).trans (congrArg nI (by rw [E14]; clear Eo Eo2 E14 E15 E16 En Et; omega)))
            · exact ((show M_66 a 4 = nI (((g (15 + 11 * c)) + 1)) from (by rw [h_66, cq_up_k (by omega), h_61, cq_up_k (by omega), h_47]; exact cq_up_s _ _ _ _)).trans (congrArg nI (by rw [E15]; clear Eo Eo2 E14 E15 E16 En Et; split <;> omega)))
            · exact ((show M_66 a 5 = nI (0) from (by rw [h_66, cq_up_k (by omega), h_61]; exact cq_up_s _ _ _ _)).trans (congrArg nI (by rw [E16]; rw [if_pos (Eo2.mpr trivial)]; try first | rfl | (clear Eo Eo2 E14 E15 E16 En Et; omega))))
            · exact ((show M_66 a 6 = nI (0) from (by rw [h_66]; exact cq_up_s _ _ _ _)).trans (congrArg nI (by rw [E16]; rw [if_pos (Eo2.mpr trivial)]; try first | rfl | (clear Eo Eo2 E14 E15 E16 En Et; omega))))
            · exact ((show M_66 a 7 = nI (g (17 + 11 * c)) from (by rw [h_66, cq_up_k (by omega), h_61, cq_up_k (by omega), h_47, cq_up_k (by omega), h_23, cq_up_k (by omega)]; exact h.2.2.2.2.2.2.1)).trans (congrArg nI (by rw [En _ (by omega) (by omega) (by omega)])))
            · exact (fun k hk => by
                rw [En (7 + 11 * c) (by clear Eo Eo2 E14 E15 E16 En Et; omega) (by clear Eo Eo2 E14 E15 E16 En Et; omega) (by clear Eo Eo2 E14 E15 E16 En Et; omega)] at hk
                have hs6 := hq.1.2
                rw [show M_66 (a + 1) = M (a + 1) from (show cq_only M M_66 a from ((((cq_only.rf.up h_23).up h_47).up h_61).up h_66)) _ (by clear Eo Eo2 E14 E15 E16 En Et; omega), En (8 + 11 * c + k) (by clear Eo Eo2 E14 E15 E16 En Et; omega) (by clear Eo Eo2 E14 E15 E16 En Et; omega) (by clear Eo Eo2 E14 E15 E16 En Et; omega)]
                exact h.2.2.2.2.2.2.2 k hk)
          · have c_54 := cq_b0 h_51 c_54
            refine cq_iconst F (v := 0) dX1_burnsOut_57 rfl ?_
            refine cq_zret F hr (by rfl) (by decide) (by decide) dX1_burnsOut_58 ⟨_, rfl, ?_⟩
            have Eo2 : ns_outs g c ↔ False := by
              rw [Eo]
              clear Eo E14 E15 E16 En Et
              by_cases hz : g (16 + 11 * c) / 2 = 1 ∧ g (14 + 11 * c) + g (16 + 11 * c) % 2 + g (15 + 11 * c) < ns_time g c
              · rw [if_pos hz]
                obtain ⟨z1, z2⟩ := hz
                exact ⟨fun w => by omega, False.elim⟩
              · rw [if_neg hz]
                have hz1 : g (16 + 11 * c) / 2 = 1 → ¬ g (14 + 11 * c) + g (16 + 11 * c) % 2 + g (15 + 11 * c) < ns_time g c := fun z1 z2 => hz ⟨z1, z2⟩
                clear hz
                have hz3 : g (16 + 11 * c) / 2 ≤ 1 := by omega
                have hz4 : g (16 + 11 * c) / 2 = 0 ∨ g (16 + 11 * c) / 2 = 1 := by omega
                rcases hz4 with hz4 | hz4
                · exact ⟨fun w => by omega, False.elim⟩
                · have hz5 := hz1 hz4
                  exact ⟨fun w => by omega, False.elim⟩
            refine ⟨(if_neg Eo2.mp).symm, ⟨?_, ?_, ?_, ?_, ?_, ?_, ?_, ?_⟩, ((cq_only.rf.up h_23).up h_47)⟩
            · exact ((show M_47 a 1 = nI (g (7 + 11 * c)) from (by rw [h_47, cq_up_k (by omega), h_23, cq_up_k (by omega)]; exact h.1)).trans (congrArg nI (by rw [En _ (by omega) (by omega) (by omega)])))
            · exact ((show M_47 a 2 = nI (ns_time g c) from (by rw [h_47, cq_up_k (by omega), h_23, cq_up_k (by omega)]; exact h.2.1)).trans (congrArg nI (by rw [Et])))
            · exact ((show M_47 a 3 = nI (((g (14 + 11 * c)) + 1)) from (by rw [h_47, cq_up_k (by omega), h_23]; exact cq_up_s _ _ _ _)).trans (congrArg nI (by rw [E14]; clear Eo Eo2 E14 E15 E16 En Et; omega)))
            · exact ((show M_47 a 4 = nI (((g (15 + 11 * c)) + 1)) from (by rw [h_47]; exact cq_up_s _ _ _ _)).trans (congrArg nI (by rw [E15]; clear Eo Eo2 E14 E15 E16 En Et; split <;> omega)))
            · exact ((show M_47 a 5 = nI (g (16 + 11 * c) % 2) from (by rw [h_47, cq_up_k (by omega), h_23, cq_up_k (by omega)]; exact h.2.2.2.2.1)).trans (congrArg nI (by rw [E16]; rw [if_neg Eo2.mp]; try first | rfl | (clear Eo Eo2 E14 E15 E16 En Et; omega))))
            · exact ((show M_47 a 6 = nI (g (16 + 11 * c) / 2) from (by rw [h_47, cq_up_k (by omega), h_23, cq_up_k (by omega)]; exact h.2.2.2.2.2.1)).trans (congrArg nI (by rw [E16]; rw [if_neg Eo2.mp]; try first | rfl | (clear Eo Eo2 E14 E15 E16 En Et; omega))))
            · exact ((show M_47 a 7 = nI (g (17 + 11 * c)) from (by rw [h_47, cq_up_k (by omega), h_23, cq_up_k (by omega)]; exact h.2.2.2.2.2.2.1)).trans (congrArg nI (by rw [En _ (by omega) (by omega) (by omega)])))
            · exact (fun k hk => by
                rw [En (7 + 11 * c) (by clear Eo Eo2 E14 E15 E16 En Et; omega) (by clear Eo Eo2 E14 E15 E16 En Et; omega) (by clear Eo Eo2 E14 E15 E16 En Et; omega)] at hk
                have hs6 := hq.1.2
                rw [show M_47 (a + 1) = M (a + 1) from (show cq_only M M_47 a from ((cq_only.rf.up h_23).up h_47)) _ (by clear Eo Eo2 E14 E15 E16 En Et; omega), En (8 + 11 * c + k) (by clear Eo Eo2 E14 E15 E16 En Et; omega) (by clear Eo Eo2 E14 E15 E16 En Et; omega) (by clear Eo Eo2 E14 E15 E16 En Et; omega)]
                exact h.2.2.2.2.2.2.2 k hk)
  · have c_4 : (ns_fl (g (16 + 11 * c))) = 0 := (nI_b (a := (ns_fl (g (16 + 11 * c)))) (b := 0) (by omega) (by omega)).2.2.mp c_4
    refine cq_iconst F (v := 0) dX1_burnsOut_7 rfl ?_
    refine cq_zret F hr (by rfl) (by decide) (by decide) dX1_burnsOut_8 ⟨_, rfl, ?_⟩
    have Eo2 : ns_outs g c ↔ False := by
      rw [Eo]
      clear Eo E14 E15 E16 En Et
      by_cases hz : g (16 + 11 * c) / 2 = 1 ∧ g (14 + 11 * c) + g (16 + 11 * c) % 2 + g (15 + 11 * c) < ns_time g c
      · rw [if_pos hz]
        obtain ⟨z1, z2⟩ := hz
        exact ⟨fun w => by omega, False.elim⟩
      · rw [if_neg hz]
        have hz1 : g (16 + 11 * c) / 2 = 1 → ¬ g (14 + 11 * c) + g (16 + 11 * c) % 2 + g (15 + 11 * c) < ns_time g c := fun z1 z2 => hz ⟨z1, z2⟩
        clear hz
        have hz3 : g (16 + 11 * c) / 2 ≤ 1 := by omega
        have hz4 : g (16 + 11 * c) / 2 = 0 ∨ g (16 + 11 * c) / 2 = 1 := by omega
        rcases hz4 with hz4 | hz4
        · exact ⟨fun w => by omega, False.elim⟩
        · have hz5 := hz1 hz4
          exact ⟨fun w => by omega, False.elim⟩
    refine ⟨(if_neg Eo2.mp).symm, ⟨?_, ?_, ?_, ?_, ?_, ?_, ?_, ?_⟩, cq_only.rf⟩
    · exact ((show M a 1 = nI (g (7 + 11 * c)) from h.1).trans (congrArg nI (by rw [En _ (by omega) (by omega) (by omega)])))
    · exact ((show M a 2 = nI (ns_time g c) from h.2.1).trans (congrArg nI (by rw [Et])))
    · exact ((show M a 3 = nI (g (14 + 11 * c)) from h.2.2.1).trans (congrArg nI (by rw [E14]; clear Eo Eo2 E14 E15 E16 En Et; omega)))
    · exact ((show M a 4 = nI (g (15 + 11 * c)) from h.2.2.2.1).trans (congrArg nI (by rw [E15]; clear Eo Eo2 E14 E15 E16 En Et; split <;> omega)))
    · exact ((show M a 5 = nI (g (16 + 11 * c) % 2) from h.2.2.2.2.1).trans (congrArg nI (by rw [E16]; rw [if_neg Eo2.mp]; try first | rfl | (clear Eo Eo2 E14 E15 E16 En Et; omega))))
    · exact ((show M a 6 = nI (g (16 + 11 * c) / 2) from h.2.2.2.2.2.1).trans (congrArg nI (by rw [E16]; rw [if_neg Eo2.mp]; try first | rfl | (clear Eo Eo2 E14 E15 E16 En Et; omega))))
    · exact ((show M a 7 = nI (g (17 + 11 * c)) from h.2.2.2.2.2.2.1).trans (congrArg nI (by rw [En _ (by omega) (by omega) (by omega)])))
    · exact (fun k hk => by
        rw [En (7 + 11 * c) (by clear Eo Eo2 E14 E15 E16 En Et; omega) (by clear Eo Eo2 E14 E15 E16 En Et; omega) (by clear Eo Eo2 E14 E15 E16 En Et; omega)] at hk
        have hs6 := hq.1.2
        rw [show M (a + 1) = M (a + 1) from (show cq_only M M a from cq_only.rf) _ (by clear Eo Eo2 E14 E15 E16 En Et; omega), En (8 + 11 * c + k) (by clear Eo Eo2 E14 E15 E16 En Et; omega) (by clear Eo Eo2 E14 E15 E16 En Et; omega) (by clear Eo Eo2 E14 E15 E16 En Et; omega)]
        exact h.2.2.2.2.2.2.2 k hk)
theorem hdVX1_burnsOut : yX1_burnsOut.cls = RX1 ∧ yX1_burnsOut.cls ≠ "java/lang/invoke/MethodHandle" ∧ yX1_burnsOut.cls ≠ "java/lang/invoke/VarHandle" ∧ (parseMethodDescriptor yX1_burnsOut.desc).map (fun d => d.parameters.length) = some 0 := by decide +kernel
abbrev rmX0_write : Room := ({ frames := 0, cells := 0, slots := 0, locals := 0 })
set_option maxHeartbeats 4000000 in
set_option maxRecDepth 100000 in
theorem kX0_write (l : Launch) (D : va_G) (cA : Nat → ClassId) (X : cq_X) (Bs : Nat) (a kd c : Nat) (g : Nat → Nat) (M : cq_M) (ha : cq_isBook X a) (h : cr_book M a g) (h84 : g 84 ≤ 8) : cq_C l yX0_write wsX0_write rmX0_write D cA X Bs [.ref a, .int (nI kd), .int (nI (g 0)), .int (nI c)] M (cq_PV (fun M1 => cr_book M1 a (ns_write g kd c) ∧ cr_fr M M1 a 4)) 0 0 := by
  refine cq_met (cc := cX0_write) (maxL := 4) (ret := none) (by decide) rfl (Nat.le_of_ble_eq_true rfl) [(0, .ref a), (1, .int (nI kd)), (2, .int (nI (g 0))), (3, .int (nI c))] rfl rfl ?_
  intro p9 e9 s9 m9 b9 t9 c9 F hr
  have inX0 : ∀ w ∈ wsX00, w ∈ wsX0_write := (fun w h => List.mem_cons_of_mem _ (List.mem_append_right _ h))
  obtain ⟨hkn, nx, hnx, hne, hent⟩ := h
  refine cq_aload_n F (i := 0) dX0_write_0 rfl rfl ?_
  refine cq_getT (t := (a + 1)) F (C := RX0) (T := TX0) (N := 5) (ci := 1) ha.kind rfl ⟨⟨by decide, by decide⟩, rfl⟩ inX0 0 (by decide) rfl rfl ha.t0 (F.1.2.2.2.2 _ (List.mem_of_getElem? (l := wsX0_write) (i := 1) (a := .fieldLink RX0 9 "CordClock$Book" "kinds" "[I") (by decide +kernel))) dX0_write_1 ?_
  refine cq_aload_n F (i := 0) dX0_write_4 rfl rfl ?_
  refine cq_getI F (C := RX0) (T := TX0) (N := 5) (ci := 1) ha.kind rfl ⟨⟨by decide, by decide⟩, rfl⟩ inX0 3 (by decide) rfl rfl (F.1.2.2.2.2 _ (List.mem_of_getElem? (l := wsX0_write) (i := 2) (a := .fieldLink RX0 21 "CordClock$Book" "next" "I") (by decide +kernel))) dX0_write_5 ?_
  rw [show M a 3 = nI (nx) from (show M a 3 = nI (nx) from hne)]
  refine cq_iload_n F (i := 1) dX0_write_8 rfl rfl ?_
  refine cq_iast_j F (j := nx) ha.k1 ha.n1 rfl ⟨(by omega), by decide⟩ dX0_write_9 (fun M_9 h_9 => ?_)
  refine cq_aload_n F (i := 0) dX0_write_10 rfl rfl ?_
  refine cq_getT (t := (a + 2)) F (C := RX0) (T := TX0) (N := 5) (ci := 1) ha.kind rfl ⟨⟨by decide, by decide⟩, rfl⟩ inX0 1 (by decide) rfl rfl ha.t1 (F.1.2.2.2.2 _ (List.mem_of_getElem? (l := wsX0_write) (i := 3) (a := .fieldLink RX0 15 "CordClock$Book" "steps" "[I") (by decide +kernel))) dX0_write_11 ?_
  refine cq_aload_n F (i := 0) dX0_write_14 rfl rfl ?_
  refine cq_getI F (C := RX0) (T := TX0) (N := 5) (ci := 1) ha.kind rfl ⟨⟨by decide, by decide⟩, rfl⟩ inX0 3 (by decide) rfl rfl (F.1.2.2.2.2 _ (List.mem_of_getElem? (l := wsX0_write) (i := 2) (a := .fieldLink RX0 21 "CordClock$Book" "next" "I") (by decide +kernel))) dX0_write_15 ?_
  rw [show M_9 a 3 = nI (nx) from (show M_9 a 3 = nI (nx) from (by rw [h_9, cq_up_a (by omega)]; exact hne))]
  refine cq_iload_n F (i := 2) dX0_write_18 rfl rfl ?_
  refine cq_iast_j F (j := nx) ha.k2 ha.n2 rfl ⟨(by omega), by decide⟩ dX0_write_19 (fun M_19 h_19 => ?_)
  refine cq_aload_n F (i := 0) dX0_write_20 rfl rfl ?_
  refine cq_getT (t := (a + 3)) F (C := RX0) (T := TX0) (N := 5) (ci := 1) ha.kind rfl ⟨⟨by decide, by decide⟩, rfl⟩ inX0 2 (by decide) rfl rfl ha.t2 (F.1.2.2.2.2 _ (List.mem_of_getElem? (l := wsX0_write) (i := 4) (a := .fieldLink RX0 18 "CordClock$Book" "cords" "[I") (by decide +kernel))) dX0_write_21 ?_
  refine cq_aload_n F (i := 0) dX0_write_24 rfl rfl ?_
  refine cq_getI F (C := RX0) (T := TX0) (N := 5) (ci := 1) ha.kind rfl ⟨⟨by decide, by decide⟩, rfl⟩ inX0 3 (by decide) rfl rfl (F.1.2.2.2.2 _ (List.mem_of_getElem? (l := wsX0_write) (i := 2) (a := .fieldLink RX0 21 "CordClock$Book" "next" "I") (by decide +kernel))) dX0_write_25 ?_
  rw [show M_19 a 3 = nI (nx) from (show M_19 a 3 = nI (nx) from (by rw [h_19, cq_up_a (by omega), h_9, cq_up_a (by omega)]; exact hne))]
  refine cq_iload_n F (i := 3) dX0_write_28 rfl rfl ?_
  refine cq_iast_j F (j := nx) ha.k3 ha.n3 rfl ⟨(by omega), by decide⟩ dX0_write_29 (fun M_29 h_29 => ?_)
  refine cq_aload_n F (i := 0) dX0_write_30 rfl rfl ?_
  refine cq_aload_n F (i := 0) dX0_write_31 rfl rfl ?_
  refine cq_getI F (C := RX0) (T := TX0) (N := 5) (ci := 1) ha.kind rfl ⟨⟨by decide, by decide⟩, rfl⟩ inX0 3 (by decide) rfl rfl (F.1.2.2.2.2 _ (List.mem_of_getElem? (l := wsX0_write) (i := 2) (a := .fieldLink RX0 21 "CordClock$Book" "next" "I") (by decide +kernel))) dX0_write_32 ?_
  rw [show M_29 a 3 = nI (nx) from (show M_29 a 3 = nI (nx) from (by rw [h_29, cq_up_a (by omega), h_19, cq_up_a (by omega), h_9, cq_up_a (by omega)]; exact hne))]
  refine cq_iconst F (v := 1) dX0_write_35 rfl ?_
  refine cq_iadd F dX0_write_36 ?_
  rw [show (nI nx + 1 : Int32) = nI (nx + 1) from nI_add _ _]
  refine cq_bipush F (v := 8) dX0_write_37 (by decide) ?_
  refine cq_irem F dX0_write_39 (by decide) ?_
  rw [show (nI (nx + 1) - nI (nx + 1) / 8 * 8 : Int32) = nI ((nx + 1) % 8) from pk_rem (d := 8) (by omega) (by omega) (by omega)]
  refine cq_put F (C := RX0) (T := TX0) (N := 5) (ci := 1) ha.kind rfl ⟨⟨by decide, by decide⟩, rfl⟩ inX0 tyX0 tyX0_ok nmX0 3 (by decide) rfl rfl (F.1.2.2.2.2 _ (List.mem_of_getElem? (l := wsX0_write) (i := 2) (a := .fieldLink RX0 21 "CordClock$Book" "next" "I") (by decide +kernel))) rfl (by rfl) (by rfl) dX0_write_40 (fun M_40 h_40 => ?_)
  refine cq_aload_n F (i := 0) dX0_write_43 rfl rfl ?_
  refine cq_getI F (C := RX0) (T := TX0) (N := 5) (ci := 1) ha.kind rfl ⟨⟨by decide, by decide⟩, rfl⟩ inX0 4 (by decide) rfl rfl (F.1.2.2.2.2 _ (List.mem_of_getElem? (l := wsX0_write) (i := 5) (a := .fieldLink RX0 25 "CordClock$Book" "known" "I") (by decide +kernel))) dX0_write_44 ?_
  rw [show M_40 a 4 = nI (g 84) from (show M_40 a 4 = nI (g 84) from (by rw [h_40, cq_up_k (by omega), h_29, cq_up_a (by omega), h_19, cq_up_a (by omega), h_9, cq_up_a (by omega)]; exact hkn))]
  refine cq_bipush F (v := 8) dX0_write_47 (by decide) ?_
  refine cq_icmp_ge F (tgt := 62) dX0_write_49 (by decide) (fun c_49 => ?_) (fun c_49 => ?_)
  · have c_49 : 8 ≤ (g 84) := (nI_b (a := 8) (b := (g 84)) (by omega) (by omega)).1.mp c_49
    refine cq_vret F hr (by decide) (by decide) dX0_write_62 ⟨rfl, ?_⟩
    refine ⟨cr_book_write hnx h84 hent (show M_40 a 3 = nI (((nx + 1) % 8)) from (by rw [h_40]; exact cq_up_s _ _ _ _)) ((show M_40 a 4 = nI (g 84) from (by rw [h_40, cq_up_k (by omega), h_29, cq_up_a (by omega), h_19, cq_up_a (by omega), h_9, cq_up_a (by omega)]; exact hkn)).trans (congrArg nI (by split <;> omega))) (fun p => ?_) (fun p => ?_) (fun p => ?_), fun x hx => ?_⟩
    · subst_vars; simp [cq_up]
    · subst_vars; simp [cq_up]
    · subst_vars; simp [cq_up]
    · subst_vars
      repeat rw [cq_up_row (by omega)]
  · have c_49 : ¬ 8 ≤ (g 84) := fun z => c_49 ((nI_b (a := 8) (b := (g 84)) (by omega) (by omega)).1.mpr z)
    refine cq_aload_n F (i := 0) dX0_write_52 rfl rfl ?_
    refine cq_dup F dX0_write_53 rfl ?_
    refine cq_getI F (C := RX0) (T := TX0) (N := 5) (ci := 1) ha.kind rfl ⟨⟨by decide, by decide⟩, rfl⟩ inX0 4 (by decide) rfl rfl (F.1.2.2.2.2 _ (List.mem_of_getElem? (l := wsX0_write) (i := 5) (a := .fieldLink RX0 25 "CordClock$Book" "known" "I") (by decide +kernel))) dX0_write_54 ?_
    rw [show M_40 a 4 = nI (g 84) from (show M_40 a 4 = nI (g 84) from (by rw [h_40, cq_up_k (by omega), h_29, cq_up_a (by omega), h_19, cq_up_a (by omega), h_9, cq_up_a (by omega)]; exact hkn))]
    refine cq_iconst F (v := 1) dX0_write_57 rfl ?_
    refine cq_iadd F dX0_write_58 ?_
    rw [show (nI (g 84) + 1 : Int32) = nI ((g 84) + 1) from nI_add _ _]
    refine cq_put F (C := RX0) (T := TX0) (N := 5) (ci := 1) ha.kind rfl ⟨⟨by decide, by decide⟩, rfl⟩ inX0 tyX0 tyX0_ok nmX0 4 (by decide) rfl rfl (F.1.2.2.2.2 _ (List.mem_of_getElem? (l := wsX0_write) (i := 5) (a := .fieldLink RX0 25 "CordClock$Book" "known" "I") (by decide +kernel))) rfl (by rfl) (by rfl) dX0_write_59 (fun M_59 h_59 => ?_)
    refine cq_vret F hr (by decide) (by decide) dX0_write_62 ⟨rfl, ?_⟩
    refine ⟨cr_book_write hnx h84 hent (show M_59 a 3 = nI (((nx + 1) % 8)) from (by rw [h_59, cq_up_k (by omega), h_40]; exact cq_up_s _ _ _ _)) ((show M_59 a 4 = nI (((g 84) + 1)) from (by rw [h_59]; exact cq_up_s _ _ _ _)).trans (congrArg nI (by split <;> omega))) (fun p => ?_) (fun p => ?_) (fun p => ?_), fun x hx => ?_⟩
    · subst_vars; simp [cq_up]
    · subst_vars; simp [cq_up]
    · subst_vars; simp [cq_up]
    · subst_vars
      repeat rw [cq_up_row (by omega)]
theorem hdVX0_write : yX0_write.cls = RX0 ∧ yX0_write.cls ≠ "java/lang/invoke/MethodHandle" ∧ yX0_write.cls ≠ "java/lang/invoke/VarHandle" ∧ (parseMethodDescriptor yX0_write.desc).map (fun d => d.parameters.length) = some 3 := by decide +kernel
