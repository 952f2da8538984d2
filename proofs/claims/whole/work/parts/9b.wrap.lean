/-! the 22 wrappers -/
abbrev rmL_cord : Room := ({ frames := 7, cells := 1, slots := 6, locals := 114 })
set_option maxHeartbeats 4000000 in
theorem kL_cord (l : Launch) (hl : l.stackTraces = false) (D : va_G) (cA : Nat → ClassId) (X : cq_X) (Bs : Nat) (b B : Nat) (S : as_T) (u t : Int32) (ol : Nat) (M : cq_M) (hb : cq_isClock X b) (h : ck M b S) (hk : as_ok S B) (ho : X.1 ol = 17) (hn : X.2.1 ol = 1) (hbo : ol < b ∨ b + 249 ≤ ol) (hkq : (op_cord S u t).1 = 0 → ∃ B1, as_ok (op_cord S u t).2.2 B1) : cq_T l yL_cord wsL_cord rmL_cord D cA X Bs [.ref b, .int u, .int t, .ref ol] M (cq_PI (fun r M1 => lw_w (op_cord S u t) r M M1 b ol)) (fun _ _ => False) 1 6 := by
  refine cq_metH (cc := cL_cord) (maxL := 5) (ret := some .int) (hh := [(0, 10, 13, 13), (0, 10, 17, 15)]) (by decide) rfl (Nat.le_of_ble_eq_true rfl) [(0, .ref b), (1, .int u), (2, .int t), (3, .ref ol)] rfl rfl ?_
  intro p9 e9 s9 m9 b9 t9 c9 F hr htab
  refine cq_aload_n F (i := 3) dL_cord_0 rfl rfl ?_
  refine cq_iconst F (v := 0) dL_cord_1 rfl ?_
  refine cq_aload_n F (i := 0) dL_cord_2 rfl rfl ?_
  refine cq_iload_n F (i := 1) dL_cord_3 rfl rfl ?_
  refine cq_iload_n F (i := 2) dL_cord_4 rfl rfl ?_
  refine cq_catchV F (C := RX6) (ci := 7) (kX6_cord l hl D cA X Bs b B S u t M hb h hk) (cwV 2 F.1.2.2.2.2 gL_cord_X6_cord rfl rfl rfl hdVX6_cord ⟨Nat.le_of_ble_eq_true rfl, Nat.le_of_ble_eq_true rfl⟩) hb.kind ⟨by decide, by decide⟩ rfl rfl rfl (Nat.le_of_ble_eq_true rfl) dL_cord_5 ⟨Nat.le_of_ble_eq_true rfl, Nat.le_of_ble_eq_true rfl⟩ (fun E M1 hx => ?_) (cq_kI fun r_5 M_5 h_5 => ?_)
  · have hx2 : lw_x (op_cord S u t) [xA, xS] E M M1 b := lw_x.of h hx
    obtain ⟨k9, hk9, hE9⟩ := hx2.2.2
    obtain ⟨rfl, rfl⟩ | ⟨rfl, rfl⟩ : (k9 = 0 ∧ E = xA) ∨ (k9 = 1 ∧ E = xS) := by
      match k9, hE9 with
      | 0, hE9 => exact (.inl ⟨rfl, (Option.some.inj hE9).symm⟩)
      | 1, hE9 => exact (.inr ⟨rfl, (Option.some.inj hE9).symm⟩)
      | _ + 2, hE9 => cases hE9
    · refine ⟨[], [⟨0, 10, 17, 15⟩], ⟨0, 10, 13, 13⟩, _, htab.trans rfl, ?_, rfl, by decide, (F.1.2.2.2.2 _ (List.mem_of_getElem? (l := wsL_cord) (i := 1) (a := .classLink RL 13 "java/lang/IllegalArgumentException") (by decide +kernel))), by decide, fun q => ?_⟩
      · intro z hz
        cases hz
      refine cq_astore F dL_cord_13 (by decide) ?_
      refine cq_iconst F (v := 1) dL_cord_15 rfl ?_
      refine cq_ret9 ?_
      exact cq_iret F hr (by decide) (by decide) dL_cord_16 ⟨_, rfl, lw_w.x hx2 hk9 rfl⟩
    · refine ⟨[⟨0, 10, 13, 13⟩], [], ⟨0, 10, 17, 15⟩, _, htab.trans rfl, ?_, rfl, by decide, (F.1.2.2.2.2 _ (List.mem_of_getElem? (l := wsL_cord) (i := 2) (a := .classLink RL 15 "java/lang/IllegalStateException") (by decide +kernel))), by decide, fun q => ?_⟩
      · intro z hz
        rcases List.mem_cons.mp hz with rfl | hz
        · exact ⟨by decide, _, (F.1.2.2.2.2 _ (List.mem_of_getElem? (l := wsL_cord) (i := 1) (a := .classLink RL 13 "java/lang/IllegalArgumentException") (by decide +kernel))), by decide⟩
        · cases hz
      refine cq_astore F dL_cord_17 (by decide) ?_
      refine cq_iconst F (v := 2) dL_cord_19 rfl ?_
      refine cq_ret9 ?_
      exact cq_iret F hr (by decide) (by decide) dL_cord_20 ⟨_, rfl, lw_w.x hx2 hk9 rfl⟩
  · refine cq_i2l F dL_cord_8 ?_
    refine cq_lastore F ho hn (by decide) dL_cord_9 (fun M_9 h_9 => ?_)
    refine cq_goto F (tgt := 21) dL_cord_10 (by decide) ?_
    refine cq_iconst F (v := 0) dL_cord_21 rfl ?_
    refine cq_ret9 ?_
    obtain ⟨g1, g2, g3, g4⟩ := h_5
    obtain ⟨B1, hB1⟩ := hkq g1
    refine cq_iret F hr (by decide) (by decide) dL_cord_22 ⟨_, rfl, by rw [g1]; rfl, fun _ => by rw [h_9, cq_up_s]; exact g2, g3.far hB1 (fun x h1 h2 => by rw [h_9, cq_up_row (by omega)]), fun x h1 h2 => by rw [h_9, cq_up_row h2]; exact g4 x h1⟩
abbrev rmL_uneven : Room := ({ frames := 9, cells := 3, slots := 18, locals := 158 })
set_option maxHeartbeats 4000000 in
theorem kL_uneven (l : Launch) (hl : l.stackTraces = false) (D : va_G) (cA : Nat → ClassId) (X : cq_X) (Bs : Nat) (b B : Nat) (S : as_T) (u w t : Int32) (ol : Nat) (M : cq_M) (hb : cq_isClock X b) (h : ck M b S) (hk : as_ok S B) (ho : X.1 ol = 17) (hn : X.2.1 ol = 1) (hbo : ol < b ∨ b + 249 ≤ ol) (hkq : (op_uneven S u w t).1 = 0 → ∃ B1, as_ok (op_uneven S u w t).2.2 B1) : cq_T l yL_uneven wsL_uneven rmL_uneven D cA X Bs [.ref b, .int u, .int w, .int t, .ref ol] M (cq_PI (fun r M1 => lw_w (op_uneven S u w t) r M M1 b ol)) (fun _ _ => False) 3 18 := by
  refine cq_metH (cc := cL_uneven) (maxL := 6) (ret := some .int) (hh := [(0, 12, 15, 21), (0, 12, 19, 13), (0, 12, 23, 15)]) (by decide) rfl (Nat.le_of_ble_eq_true rfl) [(0, .ref b), (1, .int u), (2, .int w), (3, .int t), (4, .ref ol)] rfl rfl ?_
  intro p9 e9 s9 m9 b9 t9 c9 F hr htab
  refine cq_aload F dL_uneven_0 rfl ?_
  refine cq_iconst F (v := 0) dL_uneven_2 rfl ?_
  refine cq_aload_n F (i := 0) dL_uneven_3 rfl rfl ?_
  refine cq_iload_n F (i := 1) dL_uneven_4 rfl rfl ?_
  refine cq_iload_n F (i := 2) dL_uneven_5 rfl rfl ?_
  refine cq_iload_n F (i := 3) dL_uneven_6 rfl rfl ?_
  refine cq_catchV F (C := RX6) (ci := 7) (kX6_uneven l hl D cA X Bs b B S u w t M hb h hk) (cwV 3 F.1.2.2.2.2 gL_uneven_X6_uneven rfl rfl rfl hdVX6_uneven ⟨Nat.le_of_ble_eq_true rfl, Nat.le_of_ble_eq_true rfl⟩) hb.kind ⟨by decide, by decide⟩ rfl rfl rfl (Nat.le_of_ble_eq_true rfl) dL_uneven_7 ⟨Nat.le_of_ble_eq_true rfl, Nat.le_of_ble_eq_true rfl⟩ (fun E M1 hx => ?_) (cq_kI fun r_7 M_7 h_7 => ?_)
  · have hx2 : lw_x (op_uneven S u w t) [xI, xA, xS] E M M1 b := lw_x.of h hx
    obtain ⟨k9, hk9, hE9⟩ := hx2.2.2
    obtain ⟨rfl, rfl⟩ | ⟨rfl, rfl⟩ | ⟨rfl, rfl⟩ : (k9 = 0 ∧ E = xI) ∨ (k9 = 1 ∧ E = xA) ∨ (k9 = 2 ∧ E = xS) := by
      match k9, hE9 with
      | 0, hE9 => exact (.inl ⟨rfl, (Option.some.inj hE9).symm⟩)
      | 1, hE9 => exact (.inr (.inl ⟨rfl, (Option.some.inj hE9).symm⟩))
      | 2, hE9 => exact (.inr (.inr ⟨rfl, (Option.some.inj hE9).symm⟩))
      | _ + 3, hE9 => cases hE9
    · refine ⟨[], [⟨0, 12, 19, 13⟩, ⟨0, 12, 23, 15⟩], ⟨0, 12, 15, 21⟩, _, htab.trans rfl, ?_, rfl, by decide, (F.1.2.2.2.2 _ (List.mem_of_getElem? (l := wsL_uneven) (i := 1) (a := .classLink RL 21 "java/lang/IndexOutOfBoundsException") (by decide +kernel))), by decide, fun q => ?_⟩
      · intro z hz
        cases hz
      refine cq_astore F dL_uneven_15 (by decide) ?_
      refine cq_iconst F (v := 1) dL_uneven_17 rfl ?_
      refine cq_ret9 ?_
      exact cq_iret F hr (by decide) (by decide) dL_uneven_18 ⟨_, rfl, lw_w.x hx2 hk9 rfl⟩
    · refine ⟨[⟨0, 12, 15, 21⟩], [⟨0, 12, 23, 15⟩], ⟨0, 12, 19, 13⟩, _, htab.trans rfl, ?_, rfl, by decide, (F.1.2.2.2.2 _ (List.mem_of_getElem? (l := wsL_uneven) (i := 2) (a := .classLink RL 13 "java/lang/IllegalArgumentException") (by decide +kernel))), by decide, fun q => ?_⟩
      · intro z hz
        rcases List.mem_cons.mp hz with rfl | hz
        · exact ⟨by decide, _, (F.1.2.2.2.2 _ (List.mem_of_getElem? (l := wsL_uneven) (i := 1) (a := .classLink RL 21 "java/lang/IndexOutOfBoundsException") (by decide +kernel))), by decide⟩
        · cases hz
      refine cq_astore F dL_uneven_19 (by decide) ?_
      refine cq_iconst F (v := 2) dL_uneven_21 rfl ?_
      refine cq_ret9 ?_
      exact cq_iret F hr (by decide) (by decide) dL_uneven_22 ⟨_, rfl, lw_w.x hx2 hk9 rfl⟩
    · refine ⟨[⟨0, 12, 15, 21⟩, ⟨0, 12, 19, 13⟩], [], ⟨0, 12, 23, 15⟩, _, htab.trans rfl, ?_, rfl, by decide, (F.1.2.2.2.2 _ (List.mem_of_getElem? (l := wsL_uneven) (i := 3) (a := .classLink RL 15 "java/lang/IllegalStateException") (by decide +kernel))), by decide, fun q => ?_⟩
      · intro z hz
        rcases List.mem_cons.mp hz with rfl | hz
        · exact ⟨by decide, _, (F.1.2.2.2.2 _ (List.mem_of_getElem? (l := wsL_uneven) (i := 1) (a := .classLink RL 21 "java/lang/IndexOutOfBoundsException") (by decide +kernel))), by decide⟩
        · rcases List.mem_cons.mp hz with rfl | hz
          · exact ⟨by decide, _, (F.1.2.2.2.2 _ (List.mem_of_getElem? (l := wsL_uneven) (i := 2) (a := .classLink RL 13 "java/lang/IllegalArgumentException") (by decide +kernel))), by decide⟩
          · cases hz
      refine cq_astore F dL_uneven_23 (by decide) ?_
      refine cq_iconst F (v := 3) dL_uneven_25 rfl ?_
      refine cq_ret9 ?_
      exact cq_iret F hr (by decide) (by decide) dL_uneven_26 ⟨_, rfl, lw_w.x hx2 hk9 rfl⟩
  · refine cq_i2l F dL_uneven_10 ?_
    refine cq_lastore F ho hn (by decide) dL_uneven_11 (fun M_11 h_11 => ?_)
    refine cq_goto F (tgt := 27) dL_uneven_12 (by decide) ?_
    refine cq_iconst F (v := 0) dL_uneven_27 rfl ?_
    refine cq_ret9 ?_
    obtain ⟨g1, g2, g3, g4⟩ := h_7
    obtain ⟨B1, hB1⟩ := hkq g1
    refine cq_iret F hr (by decide) (by decide) dL_uneven_28 ⟨_, rfl, by rw [g1]; rfl, fun _ => by rw [h_11, cq_up_s]; exact g2, g3.far hB1 (fun x h1 h2 => by rw [h_11, cq_up_row (by omega)]), fun x h1 h2 => by rw [h_11, cq_up_row h2]; exact g4 x h1⟩
abbrev rmL_renew : Room := ({ frames := 8, cells := 1, slots := 6, locals := 133 })
set_option maxHeartbeats 4000000 in
theorem kL_renew (l : Launch) (hl : l.stackTraces = false) (D : va_G) (cA : Nat → ClassId) (X : cq_X) (Bs : Nat) (b B : Nat) (S : as_T) (u : Int32) (ol : Nat) (M : cq_M) (hb : cq_isClock X b) (h : ck M b S) (hk : as_ok S B) (ho : X.1 ol = 17) (hn : X.2.1 ol = 1) (hbo : ol < b ∨ b + 249 ≤ ol) (hkq : (op_renew S u).1 = 0 → ∃ B1, as_ok (op_renew S u).2.2 B1) : cq_T l yL_renew wsL_renew rmL_renew D cA X Bs [.ref b, .int u, .ref ol] M (cq_PI (fun r M1 => lw_w (op_renew S u) r M M1 b ol)) (fun _ _ => False) 1 6 := by
  refine cq_metH (cc := cL_renew) (maxL := 4) (ret := some .int) (hh := [(0, 9, 12, 21)]) (by decide) rfl (Nat.le_of_ble_eq_true rfl) [(0, .ref b), (1, .int u), (2, .ref ol)] rfl rfl ?_
  intro p9 e9 s9 m9 b9 t9 c9 F hr htab
  refine cq_aload_n F (i := 2) dL_renew_0 rfl rfl ?_
  refine cq_iconst F (v := 0) dL_renew_1 rfl ?_
  refine cq_aload_n F (i := 0) dL_renew_2 rfl rfl ?_
  refine cq_iload_n F (i := 1) dL_renew_3 rfl rfl ?_
  refine cq_catchV F (C := RX6) (ci := 7) (kX6_renew l hl D cA X Bs b B S u M hb h hk) (cwV 1 F.1.2.2.2.2 gL_renew_X6_renew rfl rfl rfl hdVX6_renew ⟨Nat.le_of_ble_eq_true rfl, Nat.le_of_ble_eq_true rfl⟩) hb.kind ⟨by decide, by decide⟩ rfl rfl rfl (Nat.le_of_ble_eq_true rfl) dL_renew_4 ⟨Nat.le_of_ble_eq_true rfl, Nat.le_of_ble_eq_true rfl⟩ (fun E M1 hx => ?_) (cq_kI fun r_4 M_4 h_4 => ?_)
  · have hx2 : lw_x (op_renew S u) [xI] E M M1 b := lw_x.of h hx
    obtain ⟨k9, hk9, hE9⟩ := hx2.2.2
    obtain ⟨rfl, rfl⟩ : (k9 = 0 ∧ E = xI) := by
      match k9, hE9 with
      | 0, hE9 => exact ⟨rfl, (Option.some.inj hE9).symm⟩
      | _ + 1, hE9 => cases hE9
    · refine ⟨[], [], ⟨0, 9, 12, 21⟩, _, htab.trans rfl, ?_, rfl, by decide, (F.1.2.2.2.2 _ (List.mem_of_getElem? (l := wsL_renew) (i := 1) (a := .classLink RL 21 "java/lang/IndexOutOfBoundsException") (by decide +kernel))), by decide, fun q => ?_⟩
      · intro z hz
        cases hz
      refine cq_astore_n F (i := 3) dL_renew_12 rfl (by decide) ?_
      refine cq_iconst F (v := 1) dL_renew_13 rfl ?_
      refine cq_ret9 ?_
      exact cq_iret F hr (by decide) (by decide) dL_renew_14 ⟨_, rfl, lw_w.x hx2 hk9 rfl⟩
  · refine cq_i2l F dL_renew_7 ?_
    refine cq_lastore F ho hn (by decide) dL_renew_8 (fun M_8 h_8 => ?_)
    refine cq_goto F (tgt := 15) dL_renew_9 (by decide) ?_
    refine cq_iconst F (v := 0) dL_renew_15 rfl ?_
    refine cq_ret9 ?_
    obtain ⟨g1, g2, g3, g4⟩ := h_4
    obtain ⟨B1, hB1⟩ := hkq g1
    refine cq_iret F hr (by decide) (by decide) dL_renew_16 ⟨_, rfl, by rw [g1]; rfl, fun _ => by rw [h_8, cq_up_s]; exact g2, g3.far hB1 (fun x h1 h2 => by rw [h_8, cq_up_row (by omega)]), fun x h1 h2 => by rw [h_8, cq_up_row h2]; exact g4 x h1⟩
abbrev rmL_light : Room := ({ frames := 8, cells := 2, slots := 12, locals := 133 })
set_option maxHeartbeats 4000000 in
theorem kL_light (l : Launch) (hl : l.stackTraces = false) (D : va_G) (cA : Nat → ClassId) (X : cq_X) (Bs : Nat) (b B : Nat) (S : as_T) (u y : Int32) (ol : Nat) (M : cq_M) (hb : cq_isClock X b) (h : ck M b S) (hk : as_ok S B) (ho : X.1 ol = 17) (hn : X.2.1 ol = 1) (hbo : ol < b ∨ b + 249 ≤ ol) (hkq : (op_light S u y).1 = 0 → ∃ B1, as_ok (op_light S u y).2.2 B1) : cq_T l yL_light wsL_light rmL_light D cA X Bs [.ref b, .int u, .int y, .ref ol] M (cq_PI (fun r M1 => lw_w (op_light S u y) r M M1 b ol)) (fun _ _ => False) 2 12 := by
  refine cq_metH (cc := cL_light) (maxL := 5) (ret := some .int) (hh := [(0, 10, 13, 21), (0, 10, 17, 15)]) (by decide) rfl (Nat.le_of_ble_eq_true rfl) [(0, .ref b), (1, .int u), (2, .int y), (3, .ref ol)] rfl rfl ?_
  intro p9 e9 s9 m9 b9 t9 c9 F hr htab
  refine cq_aload_n F (i := 3) dL_light_0 rfl rfl ?_
  refine cq_iconst F (v := 0) dL_light_1 rfl ?_
  refine cq_aload_n F (i := 0) dL_light_2 rfl rfl ?_
  refine cq_iload_n F (i := 1) dL_light_3 rfl rfl ?_
  refine cq_iload_n F (i := 2) dL_light_4 rfl rfl ?_
  refine cq_catchV F (C := RX6) (ci := 7) (kX6_light l hl D cA X Bs b B S u y M hb h hk) (cwV 2 F.1.2.2.2.2 gL_light_X6_light rfl rfl rfl hdVX6_light ⟨Nat.le_of_ble_eq_true rfl, Nat.le_of_ble_eq_true rfl⟩) hb.kind ⟨by decide, by decide⟩ rfl rfl rfl (Nat.le_of_ble_eq_true rfl) dL_light_5 ⟨Nat.le_of_ble_eq_true rfl, Nat.le_of_ble_eq_true rfl⟩ (fun E M1 hx => ?_) (cq_kI fun r_5 M_5 h_5 => ?_)
  · have hx2 : lw_x (op_light S u y) [xI, xS] E M M1 b := lw_x.of h hx
    obtain ⟨k9, hk9, hE9⟩ := hx2.2.2
    obtain ⟨rfl, rfl⟩ | ⟨rfl, rfl⟩ : (k9 = 0 ∧ E = xI) ∨ (k9 = 1 ∧ E = xS) := by
      match k9, hE9 with
      | 0, hE9 => exact (.inl ⟨rfl, (Option.some.inj hE9).symm⟩)
      | 1, hE9 => exact (.inr ⟨rfl, (Option.some.inj hE9).symm⟩)
      | _ + 2, hE9 => cases hE9
    · refine ⟨[], [⟨0, 10, 17, 15⟩], ⟨0, 10, 13, 21⟩, _, htab.trans rfl, ?_, rfl, by decide, (F.1.2.2.2.2 _ (List.mem_of_getElem? (l := wsL_light) (i := 1) (a := .classLink RL 21 "java/lang/IndexOutOfBoundsException") (by decide +kernel))), by decide, fun q => ?_⟩
      · intro z hz
        cases hz
      refine cq_astore F dL_light_13 (by decide) ?_
      refine cq_iconst F (v := 1) dL_light_15 rfl ?_
      refine cq_ret9 ?_
      exact cq_iret F hr (by decide) (by decide) dL_light_16 ⟨_, rfl, lw_w.x hx2 hk9 rfl⟩
    · refine ⟨[⟨0, 10, 13, 21⟩], [], ⟨0, 10, 17, 15⟩, _, htab.trans rfl, ?_, rfl, by decide, (F.1.2.2.2.2 _ (List.mem_of_getElem? (l := wsL_light) (i := 2) (a := .classLink RL 15 "java/lang/IllegalStateException") (by decide +kernel))), by decide, fun q => ?_⟩
      · intro z hz
        rcases List.mem_cons.mp hz with rfl | hz
        · exact ⟨by decide, _, (F.1.2.2.2.2 _ (List.mem_of_getElem? (l := wsL_light) (i := 1) (a := .classLink RL 21 "java/lang/IndexOutOfBoundsException") (by decide +kernel))), by decide⟩
        · cases hz
      refine cq_astore F dL_light_17 (by decide) ?_
      refine cq_iconst F (v := 2) dL_light_19 rfl ?_
      refine cq_ret9 ?_
      exact cq_iret F hr (by decide) (by decide) dL_light_20 ⟨_, rfl, lw_w.x hx2 hk9 rfl⟩
  · refine cq_i2l F dL_light_8 ?_
    refine cq_lastore F ho hn (by decide) dL_light_9 (fun M_9 h_9 => ?_)
    refine cq_goto F (tgt := 21) dL_light_10 (by decide) ?_
    refine cq_iconst F (v := 0) dL_light_21 rfl ?_
    refine cq_ret9 ?_
    obtain ⟨g1, g2, g3, g4⟩ := h_5
    obtain ⟨B1, hB1⟩ := hkq g1
    refine cq_iret F hr (by decide) (by decide) dL_light_22 ⟨_, rfl, by rw [g1]; rfl, fun _ => by rw [h_9, cq_up_s]; exact g2, g3.far hB1 (fun x h1 h2 => by rw [h_9, cq_up_row (by omega)]), fun x h1 h2 => by rw [h_9, cq_up_row h2]; exact g4 x h1⟩
abbrev rmL_putOut : Room := ({ frames := 8, cells := 2, slots := 12, locals := 133 })
set_option maxHeartbeats 4000000 in
theorem kL_putOut (l : Launch) (hl : l.stackTraces = false) (D : va_G) (cA : Nat → ClassId) (X : cq_X) (Bs : Nat) (b B : Nat) (S : as_T) (u y : Int32) (ol : Nat) (M : cq_M) (hb : cq_isClock X b) (h : ck M b S) (hk : as_ok S B) (ho : X.1 ol = 17) (hn : X.2.1 ol = 1) (hbo : ol < b ∨ b + 249 ≤ ol) (hkq : (op_putOut S u y).1 = 0 → ∃ B1, as_ok (op_putOut S u y).2.2 B1) : cq_T l yL_putOut wsL_putOut rmL_putOut D cA X Bs [.ref b, .int u, .int y, .ref ol] M (cq_PI (fun r M1 => lw_w (op_putOut S u y) r M M1 b ol)) (fun _ _ => False) 2 12 := by
  refine cq_metH (cc := cL_putOut) (maxL := 5) (ret := some .int) (hh := [(0, 10, 13, 21), (0, 10, 17, 15)]) (by decide) rfl (Nat.le_of_ble_eq_true rfl) [(0, .ref b), (1, .int u), (2, .int y), (3, .ref ol)] rfl rfl ?_
  intro p9 e9 s9 m9 b9 t9 c9 F hr htab
  refine cq_aload_n F (i := 3) dL_putOut_0 rfl rfl ?_
  refine cq_iconst F (v := 0) dL_putOut_1 rfl ?_
  refine cq_aload_n F (i := 0) dL_putOut_2 rfl rfl ?_
  refine cq_iload_n F (i := 1) dL_putOut_3 rfl rfl ?_
  refine cq_iload_n F (i := 2) dL_putOut_4 rfl rfl ?_
  refine cq_catchV F (C := RX6) (ci := 7) (kX6_putOut l hl D cA X Bs b B S u y M hb h hk) (cwV 2 F.1.2.2.2.2 gL_putOut_X6_putOut rfl rfl rfl hdVX6_putOut ⟨Nat.le_of_ble_eq_true rfl, Nat.le_of_ble_eq_true rfl⟩) hb.kind ⟨by decide, by decide⟩ rfl rfl rfl (Nat.le_of_ble_eq_true rfl) dL_putOut_5 ⟨Nat.le_of_ble_eq_true rfl, Nat.le_of_ble_eq_true rfl⟩ (fun E M1 hx => ?_) (cq_kI fun r_5 M_5 h_5 => ?_)
  · have hx2 : lw_x (op_putOut S u y) [xI, xS] E M M1 b := lw_x.of h hx
    obtain ⟨k9, hk9, hE9⟩ := hx2.2.2
    obtain ⟨rfl, rfl⟩ | ⟨rfl, rfl⟩ : (k9 = 0 ∧ E = xI) ∨ (k9 = 1 ∧ E = xS) := by
      match k9, hE9 with
      | 0, hE9 => exact (.inl ⟨rfl, (Option.some.inj hE9).symm⟩)
      | 1, hE9 => exact (.inr ⟨rfl, (Option.some.inj hE9).symm⟩)
      | _ + 2, hE9 => cases hE9
    · refine ⟨[], [⟨0, 10, 17, 15⟩], ⟨0, 10, 13, 21⟩, _, htab.trans rfl, ?_, rfl, by decide, (F.1.2.2.2.2 _ (List.mem_of_getElem? (l := wsL_putOut) (i := 1) (a := .classLink RL 21 "java/lang/IndexOutOfBoundsException") (by decide +kernel))), by decide, fun q => ?_⟩
      · intro z hz
        cases hz
      refine cq_astore F dL_putOut_13 (by decide) ?_
      refine cq_iconst F (v := 1) dL_putOut_15 rfl ?_
      refine cq_ret9 ?_
      exact cq_iret F hr (by decide) (by decide) dL_putOut_16 ⟨_, rfl, lw_w.x hx2 hk9 rfl⟩
    · refine ⟨[⟨0, 10, 13, 21⟩], [], ⟨0, 10, 17, 15⟩, _, htab.trans rfl, ?_, rfl, by decide, (F.1.2.2.2.2 _ (List.mem_of_getElem? (l := wsL_putOut) (i := 2) (a := .classLink RL 15 "java/lang/IllegalStateException") (by decide +kernel))), by decide, fun q => ?_⟩
      · intro z hz
        rcases List.mem_cons.mp hz with rfl | hz
        · exact ⟨by decide, _, (F.1.2.2.2.2 _ (List.mem_of_getElem? (l := wsL_putOut) (i := 1) (a := .classLink RL 21 "java/lang/IndexOutOfBoundsException") (by decide +kernel))), by decide⟩
        · cases hz
      refine cq_astore F dL_putOut_17 (by decide) ?_
      refine cq_iconst F (v := 2) dL_putOut_19 rfl ?_
      refine cq_ret9 ?_
      exact cq_iret F hr (by decide) (by decide) dL_putOut_20 ⟨_, rfl, lw_w.x hx2 hk9 rfl⟩
  · refine cq_i2l F dL_putOut_8 ?_
    refine cq_lastore F ho hn (by decide) dL_putOut_9 (fun M_9 h_9 => ?_)
    refine cq_goto F (tgt := 21) dL_putOut_10 (by decide) ?_
    refine cq_iconst F (v := 0) dL_putOut_21 rfl ?_
    refine cq_ret9 ?_
    obtain ⟨g1, g2, g3, g4⟩ := h_5
    obtain ⟨B1, hB1⟩ := hkq g1
    refine cq_iret F hr (by decide) (by decide) dL_putOut_22 ⟨_, rfl, by rw [g1]; rfl, fun _ => by rw [h_9, cq_up_s]; exact g2, g3.far hB1 (fun x h1 h2 => by rw [h_9, cq_up_row (by omega)]), fun x h1 h2 => by rw [h_9, cq_up_row h2]; exact g4 x h1⟩
abbrev rmL_rule : Room := ({ frames := 8, cells := 3, slots := 18, locals := 134 })
set_option maxHeartbeats 4000000 in
theorem kL_rule (l : Launch) (hl : l.stackTraces = false) (D : va_G) (cA : Nat → ClassId) (X : cq_X) (Bs : Nat) (b B : Nat) (S : as_T) (a u : Int32) (y : Nat) (ol : Nat) (M : cq_M) (hb : cq_isClock X b) (h : ck M b S) (hk : as_ok S B) (hy : y ≤ 1) (ho : X.1 ol = 17) (hn : X.2.1 ol = 1) (hbo : ol < b ∨ b + 249 ≤ ol) (hkq : (op_rule S a u (nI y)).1 = 0 → ∃ B1, as_ok (op_rule S a u (nI y)).2.2 B1) : cq_T l yL_rule wsL_rule rmL_rule D cA X Bs [.ref b, .int a, .int u, .int (nI y), .ref ol] M (cq_PI (fun r M1 => lw_w (op_rule S a u (nI y)) r M M1 b ol)) (fun _ _ => False) 3 18 := by
  refine cq_metH (cc := cL_rule) (maxL := 6) (ret := some .int) (hh := [(0, 12, 15, 21), (0, 12, 19, 13), (0, 12, 23, 15)]) (by decide) rfl (Nat.le_of_ble_eq_true rfl) [(0, .ref b), (1, .int a), (2, .int u), (3, .int (nI y)), (4, .ref ol)] rfl rfl ?_
  intro p9 e9 s9 m9 b9 t9 c9 F hr htab
  refine cq_aload F dL_rule_0 rfl ?_
  refine cq_iconst F (v := 0) dL_rule_2 rfl ?_
  refine cq_aload_n F (i := 0) dL_rule_3 rfl rfl ?_
  refine cq_iload_n F (i := 1) dL_rule_4 rfl rfl ?_
  refine cq_iload_n F (i := 2) dL_rule_5 rfl rfl ?_
  refine cq_iload_n F (i := 3) dL_rule_6 rfl rfl ?_
  refine cq_catchV F (C := RX6) (ci := 7) (kX6_rule l hl D cA X Bs b B S a u y M hb h hk hy) (cwV 3 F.1.2.2.2.2 gL_rule_X6_rule rfl rfl rfl hdVX6_rule ⟨Nat.le_of_ble_eq_true rfl, Nat.le_of_ble_eq_true rfl⟩) hb.kind ⟨by decide, by decide⟩ rfl rfl rfl (Nat.le_of_ble_eq_true rfl) dL_rule_7 ⟨Nat.le_of_ble_eq_true rfl, Nat.le_of_ble_eq_true rfl⟩ (fun E M1 hx => ?_) (cq_kI fun r_7 M_7 h_7 => ?_)
  · have hx2 : lw_x (op_rule S a u (nI y)) [xI, xA, xS] E M M1 b := lw_x.of h hx
    obtain ⟨k9, hk9, hE9⟩ := hx2.2.2
    obtain ⟨rfl, rfl⟩ | ⟨rfl, rfl⟩ | ⟨rfl, rfl⟩ : (k9 = 0 ∧ E = xI) ∨ (k9 = 1 ∧ E = xA) ∨ (k9 = 2 ∧ E = xS) := by
      match k9, hE9 with
      | 0, hE9 => exact (.inl ⟨rfl, (Option.some.inj hE9).symm⟩)
      | 1, hE9 => exact (.inr (.inl ⟨rfl, (Option.some.inj hE9).symm⟩))
      | 2, hE9 => exact (.inr (.inr ⟨rfl, (Option.some.inj hE9).symm⟩))
      | _ + 3, hE9 => cases hE9
    · refine ⟨[], [⟨0, 12, 19, 13⟩, ⟨0, 12, 23, 15⟩], ⟨0, 12, 15, 21⟩, _, htab.trans rfl, ?_, rfl, by decide, (F.1.2.2.2.2 _ (List.mem_of_getElem? (l := wsL_rule) (i := 1) (a := .classLink RL 21 "java/lang/IndexOutOfBoundsException") (by decide +kernel))), by decide, fun q => ?_⟩
      · intro z hz
        cases hz
      refine cq_astore F dL_rule_15 (by decide) ?_
      refine cq_iconst F (v := 1) dL_rule_17 rfl ?_
      refine cq_ret9 ?_
      exact cq_iret F hr (by decide) (by decide) dL_rule_18 ⟨_, rfl, lw_w.x hx2 hk9 rfl⟩
    · refine ⟨[⟨0, 12, 15, 21⟩], [⟨0, 12, 23, 15⟩], ⟨0, 12, 19, 13⟩, _, htab.trans rfl, ?_, rfl, by decide, (F.1.2.2.2.2 _ (List.mem_of_getElem? (l := wsL_rule) (i := 2) (a := .classLink RL 13 "java/lang/IllegalArgumentException") (by decide +kernel))), by decide, fun q => ?_⟩
      · intro z hz
        rcases List.mem_cons.mp hz with rfl | hz
        · exact ⟨by decide, _, (F.1.2.2.2.2 _ (List.mem_of_getElem? (l := wsL_rule) (i := 1) (a := .classLink RL 21 "java/lang/IndexOutOfBoundsException") (by decide +kernel))), by decide⟩
        · cases hz
      refine cq_astore F dL_rule_19 (by decide) ?_
      refine cq_iconst F (v := 2) dL_rule_21 rfl ?_
      refine cq_ret9 ?_
      exact cq_iret F hr (by decide) (by decide) dL_rule_22 ⟨_, rfl, lw_w.x hx2 hk9 rfl⟩
    · refine ⟨[⟨0, 12, 15, 21⟩, ⟨0, 12, 19, 13⟩], [], ⟨0, 12, 23, 15⟩, _, htab.trans rfl, ?_, rfl, by decide, (F.1.2.2.2.2 _ (List.mem_of_getElem? (l := wsL_rule) (i := 3) (a := .classLink RL 15 "java/lang/IllegalStateException") (by decide +kernel))), by decide, fun q => ?_⟩
      · intro z hz
        rcases List.mem_cons.mp hz with rfl | hz
        · exact ⟨by decide, _, (F.1.2.2.2.2 _ (List.mem_of_getElem? (l := wsL_rule) (i := 1) (a := .classLink RL 21 "java/lang/IndexOutOfBoundsException") (by decide +kernel))), by decide⟩
        · rcases List.mem_cons.mp hz with rfl | hz
          · exact ⟨by decide, _, (F.1.2.2.2.2 _ (List.mem_of_getElem? (l := wsL_rule) (i := 2) (a := .classLink RL 13 "java/lang/IllegalArgumentException") (by decide +kernel))), by decide⟩
          · cases hz
      refine cq_astore F dL_rule_23 (by decide) ?_
      refine cq_iconst F (v := 3) dL_rule_25 rfl ?_
      refine cq_ret9 ?_
      exact cq_iret F hr (by decide) (by decide) dL_rule_26 ⟨_, rfl, lw_w.x hx2 hk9 rfl⟩
  · refine cq_i2l F dL_rule_10 ?_
    refine cq_lastore F ho hn (by decide) dL_rule_11 (fun M_11 h_11 => ?_)
    refine cq_goto F (tgt := 27) dL_rule_12 (by decide) ?_
    refine cq_iconst F (v := 0) dL_rule_27 rfl ?_
    refine cq_ret9 ?_
    obtain ⟨g1, g2, g3, g4⟩ := h_7
    obtain ⟨B1, hB1⟩ := hkq g1
    refine cq_iret F hr (by decide) (by decide) dL_rule_28 ⟨_, rfl, by rw [g1]; rfl, fun _ => by rw [h_11, cq_up_s]; exact g2, g3.far hB1 (fun x h1 h2 => by rw [h_11, cq_up_row (by omega)]), fun x h1 h2 => by rw [h_11, cq_up_row h2]; exact g4 x h1⟩
abbrev rmL_run : Room := ({ frames := 7, cells := 1, slots := 6, locals := 134 })
set_option maxHeartbeats 4000000 in
theorem kL_run (l : Launch) (hl : l.stackTraces = false) (D : va_G) (cA : Nat → ClassId) (X : cq_X) (Bs : Nat) (b B : Nat) (S : as_T) (u : Int32) (ol : Nat) (M : cq_M) (hb : cq_isClock X b) (h : ck M b S) (hk : as_ok S B) (hB : B < 1999990000) (ho : X.1 ol = 17) (hn : X.2.1 ol = 1) (hbo : ol < b ∨ b + 249 ≤ ol) (hkq : (op_run S u).1 = 0 → ∃ B1, as_ok (op_run S u).2.2 B1) : cq_T l yL_run wsL_run rmL_run D cA X Bs [.ref b, .int u, .ref ol] M (cq_PI (fun r M1 => lw_w (op_run S u) r M M1 b ol)) (fun _ _ => False) 1 6 := by
  refine cq_metH (cc := cL_run) (maxL := 4) (ret := some .int) (hh := [(0, 9, 12, 13)]) (by decide) rfl (Nat.le_of_ble_eq_true rfl) [(0, .ref b), (1, .int u), (2, .ref ol)] rfl rfl ?_
  intro p9 e9 s9 m9 b9 t9 c9 F hr htab
  refine cq_aload_n F (i := 2) dL_run_0 rfl rfl ?_
  refine cq_iconst F (v := 0) dL_run_1 rfl ?_
  refine cq_aload_n F (i := 0) dL_run_2 rfl rfl ?_
  refine cq_iload_n F (i := 1) dL_run_3 rfl rfl ?_
  refine cq_catchV F (C := RX6) (ci := 7) (kX6_run l hl D cA X Bs b B S u M hb h hk hB) (cwV 1 F.1.2.2.2.2 gL_run_X6_run rfl rfl rfl hdVX6_run ⟨Nat.le_of_ble_eq_true rfl, Nat.le_of_ble_eq_true rfl⟩) hb.kind ⟨by decide, by decide⟩ rfl rfl rfl (Nat.le_of_ble_eq_true rfl) dL_run_4 ⟨Nat.le_of_ble_eq_true rfl, Nat.le_of_ble_eq_true rfl⟩ (fun E M1 hx => ?_) (cq_kI fun r_4 M_4 h_4 => ?_)
  · have hx2 : lw_x (op_run S u) [xA] E M M1 b := lw_x.of h hx
    obtain ⟨k9, hk9, hE9⟩ := hx2.2.2
    obtain ⟨rfl, rfl⟩ : (k9 = 0 ∧ E = xA) := by
      match k9, hE9 with
      | 0, hE9 => exact ⟨rfl, (Option.some.inj hE9).symm⟩
      | _ + 1, hE9 => cases hE9
    · refine ⟨[], [], ⟨0, 9, 12, 13⟩, _, htab.trans rfl, ?_, rfl, by decide, (F.1.2.2.2.2 _ (List.mem_of_getElem? (l := wsL_run) (i := 1) (a := .classLink RL 13 "java/lang/IllegalArgumentException") (by decide +kernel))), by decide, fun q => ?_⟩
      · intro z hz
        cases hz
      refine cq_astore_n F (i := 3) dL_run_12 rfl (by decide) ?_
      refine cq_iconst F (v := 1) dL_run_13 rfl ?_
      refine cq_ret9 ?_
      exact cq_iret F hr (by decide) (by decide) dL_run_14 ⟨_, rfl, lw_w.x hx2 hk9 rfl⟩
  · refine cq_i2l F dL_run_7 ?_
    refine cq_lastore F ho hn (by decide) dL_run_8 (fun M_8 h_8 => ?_)
    refine cq_goto F (tgt := 15) dL_run_9 (by decide) ?_
    refine cq_iconst F (v := 0) dL_run_15 rfl ?_
    refine cq_ret9 ?_
    obtain ⟨g1, g2, g3, g4⟩ := h_4
    obtain ⟨B1, hB1⟩ := hkq g1
    refine cq_iret F hr (by decide) (by decide) dL_run_16 ⟨_, rfl, by rw [g1]; rfl, fun _ => by rw [h_8, cq_up_s]; exact g2, g3.far hB1 (fun x h1 h2 => by rw [h_8, cq_up_row (by omega)]), fun x h1 h2 => by rw [h_8, cq_up_row h2]; exact g4 x h1⟩
abbrev rmL_append : Room := ({ frames := 7, cells := 1, slots := 6, locals := 111 })
set_option maxHeartbeats 4000000 in
theorem kL_append (l : Launch) (hl : l.stackTraces = false) (D : va_G) (cA : Nat → ClassId) (X : cq_X) (Bs : Nat) (b B : Nat) (S : as_T) (u : Int32) (ol : Nat) (M : cq_M) (hb : cq_isClock X b) (h : ck M b S) (hk : as_ok S B) (ho : X.1 ol = 17) (hn : X.2.1 ol = 1) (hbo : ol < b ∨ b + 249 ≤ ol) (hkq : (op_append S u).1 = 0 → ∃ B1, as_ok (op_append S u).2.2 B1) : cq_T l yL_append wsL_append rmL_append D cA X Bs [.ref b, .int u, .ref ol] M (cq_PI (fun r M1 => lw_w (op_append S u) r M M1 b ol)) (fun _ _ => False) 1 6 := by
  refine cq_metH (cc := cL_append) (maxL := 4) (ret := some .int) (hh := [(0, 9, 12, 13), (0, 9, 15, 15)]) (by decide) rfl (Nat.le_of_ble_eq_true rfl) [(0, .ref b), (1, .int u), (2, .ref ol)] rfl rfl ?_
  intro p9 e9 s9 m9 b9 t9 c9 F hr htab
  refine cq_aload_n F (i := 2) dL_append_0 rfl rfl ?_
  refine cq_iconst F (v := 0) dL_append_1 rfl ?_
  refine cq_aload_n F (i := 0) dL_append_2 rfl rfl ?_
  refine cq_iload_n F (i := 1) dL_append_3 rfl rfl ?_
  refine cq_catchV F (C := RX6) (ci := 7) (kX6_append l hl D cA X Bs b B S u M hb h hk) (cwV 1 F.1.2.2.2.2 gL_append_X6_append rfl rfl rfl hdVX6_append ⟨Nat.le_of_ble_eq_true rfl, Nat.le_of_ble_eq_true rfl⟩) hb.kind ⟨by decide, by decide⟩ rfl rfl rfl (Nat.le_of_ble_eq_true rfl) dL_append_4 ⟨Nat.le_of_ble_eq_true rfl, Nat.le_of_ble_eq_true rfl⟩ (fun E M1 hx => ?_) (cq_kI fun r_4 M_4 h_4 => ?_)
  · have hx2 : lw_x (op_append S u) [xA, xS] E M M1 b := lw_x.of h hx
    obtain ⟨k9, hk9, hE9⟩ := hx2.2.2
    obtain ⟨rfl, rfl⟩ | ⟨rfl, rfl⟩ : (k9 = 0 ∧ E = xA) ∨ (k9 = 1 ∧ E = xS) := by
      match k9, hE9 with
      | 0, hE9 => exact (.inl ⟨rfl, (Option.some.inj hE9).symm⟩)
      | 1, hE9 => exact (.inr ⟨rfl, (Option.some.inj hE9).symm⟩)
      | _ + 2, hE9 => cases hE9
    · refine ⟨[], [⟨0, 9, 15, 15⟩], ⟨0, 9, 12, 13⟩, _, htab.trans rfl, ?_, rfl, by decide, (F.1.2.2.2.2 _ (List.mem_of_getElem? (l := wsL_append) (i := 1) (a := .classLink RL 13 "java/lang/IllegalArgumentException") (by decide +kernel))), by decide, fun q => ?_⟩
      · intro z hz
        cases hz
      refine cq_astore_n F (i := 3) dL_append_12 rfl (by decide) ?_
      refine cq_iconst F (v := 1) dL_append_13 rfl ?_
      refine cq_ret9 ?_
      exact cq_iret F hr (by decide) (by decide) dL_append_14 ⟨_, rfl, lw_w.x hx2 hk9 rfl⟩
    · refine ⟨[⟨0, 9, 12, 13⟩], [], ⟨0, 9, 15, 15⟩, _, htab.trans rfl, ?_, rfl, by decide, (F.1.2.2.2.2 _ (List.mem_of_getElem? (l := wsL_append) (i := 2) (a := .classLink RL 15 "java/lang/IllegalStateException") (by decide +kernel))), by decide, fun q => ?_⟩
      · intro z hz
        rcases List.mem_cons.mp hz with rfl | hz
        · exact ⟨by decide, _, (F.1.2.2.2.2 _ (List.mem_of_getElem? (l := wsL_append) (i := 1) (a := .classLink RL 13 "java/lang/IllegalArgumentException") (by decide +kernel))), by decide⟩
        · cases hz
      refine cq_astore_n F (i := 3) dL_append_15 rfl (by decide) ?_
      refine cq_iconst F (v := 2) dL_append_16 rfl ?_
      refine cq_ret9 ?_
      exact cq_iret F hr (by decide) (by decide) dL_append_17 ⟨_, rfl, lw_w.x hx2 hk9 rfl⟩
  · refine cq_i2l F dL_append_7 ?_
    refine cq_lastore F ho hn (by decide) dL_append_8 (fun M_8 h_8 => ?_)
    refine cq_goto F (tgt := 18) dL_append_9 (by decide) ?_
    refine cq_iconst F (v := 0) dL_append_18 rfl ?_
    refine cq_ret9 ?_
    obtain ⟨g1, g2, g3, g4⟩ := h_4
    obtain ⟨B1, hB1⟩ := hkq g1
    refine cq_iret F hr (by decide) (by decide) dL_append_19 ⟨_, rfl, by rw [g1]; rfl, fun _ => by rw [h_8, cq_up_s]; exact g2, g3.far hB1 (fun x h1 h2 => by rw [h_8, cq_up_row (by omega)]), fun x h1 h2 => by rw [h_8, cq_up_row h2]; exact g4 x h1⟩
abbrev rmL_execute : Room := ({ frames := 10, cells := 1, slots := 6, locals := 211 })
set_option maxHeartbeats 4000000 in
theorem kL_execute (l : Launch) (hl : l.stackTraces = false) (D : va_G) (cA : Nat → ClassId) (X : cq_X) (Bs : Nat) (b B : Nat) (S : as_T) (ol : Nat) (M : cq_M) (hb : cq_isClock X b) (h : ck M b S) (hk : as_ok S B) (hB : B < 1999980000) (ho : X.1 ol = 17) (hn : X.2.1 ol = 1) (hbo : ol < b ∨ b + 249 ≤ ol) (hkq : (op_exec S).1 = 0 → ∃ B1, as_ok (op_exec S).2.2 B1) : cq_T l yL_execute wsL_execute rmL_execute D cA X Bs [.ref b, .ref ol] M (cq_PI (fun r M1 => lw_w (op_exec S) r M M1 b ol)) (fun _ _ => False) 1 6 := by
  refine cq_metH (cc := cL_execute) (maxL := 3) (ret := some .int) (hh := [(0, 8, 11, 13)]) (by decide) rfl (Nat.le_of_ble_eq_true rfl) [(0, .ref b), (1, .ref ol)] rfl rfl ?_
  intro p9 e9 s9 m9 b9 t9 c9 F hr htab
  refine cq_aload_n F (i := 1) dL_execute_0 rfl rfl ?_
  refine cq_iconst F (v := 0) dL_execute_1 rfl ?_
  refine cq_aload_n F (i := 0) dL_execute_2 rfl rfl ?_
  refine cq_catchV F (C := RX6) (ci := 7) (kX6_execute l hl D cA X Bs b B S M hb h hk hB) (cwV 0 F.1.2.2.2.2 gL_execute_X6_execute rfl rfl rfl hdVX6_execute ⟨Nat.le_of_ble_eq_true rfl, Nat.le_of_ble_eq_true rfl⟩) hb.kind ⟨by decide, by decide⟩ rfl rfl rfl (Nat.le_of_ble_eq_true rfl) dL_execute_3 ⟨Nat.le_of_ble_eq_true rfl, Nat.le_of_ble_eq_true rfl⟩ (fun E M1 hx => ?_) (cq_kI fun r_3 M_3 h_3 => ?_)
  · have hx2 : lw_x (op_exec S) [xA] E M M1 b := ⟨by rw [hx.2.2.2.2]; exact hx.2.1, hx.2.2.1, 0, hx.2.2.2.1, by rw [hx.1]; rfl⟩
    obtain ⟨k9, hk9, hE9⟩ := hx2.2.2
    obtain ⟨rfl, rfl⟩ : (k9 = 0 ∧ E = xA) := by
      match k9, hE9 with
      | 0, hE9 => exact ⟨rfl, (Option.some.inj hE9).symm⟩
      | _ + 1, hE9 => cases hE9
    · refine ⟨[], [], ⟨0, 8, 11, 13⟩, _, htab.trans rfl, ?_, rfl, by decide, (F.1.2.2.2.2 _ (List.mem_of_getElem? (l := wsL_execute) (i := 1) (a := .classLink RL 13 "java/lang/IllegalArgumentException") (by decide +kernel))), by decide, fun q => ?_⟩
      · intro z hz
        cases hz
      refine cq_astore_n F (i := 2) dL_execute_11 rfl (by decide) ?_
      refine cq_iconst F (v := 1) dL_execute_12 rfl ?_
      refine cq_ret9 ?_
      exact cq_iret F hr (by decide) (by decide) dL_execute_13 ⟨_, rfl, lw_w.x hx2 hk9 rfl⟩
  · refine cq_i2l F dL_execute_6 ?_
    refine cq_lastore F ho hn (by decide) dL_execute_7 (fun M_7 h_7 => ?_)
    refine cq_goto F (tgt := 14) dL_execute_8 (by decide) ?_
    refine cq_iconst F (v := 0) dL_execute_14 rfl ?_
    refine cq_ret9 ?_
    obtain ⟨g1, g2, g3, g4⟩ := h_3
    obtain ⟨B1, hB1⟩ := hkq g1
    refine cq_iret F hr (by decide) (by decide) dL_execute_15 ⟨_, rfl, by rw [g1]; rfl, fun _ => by rw [h_7, cq_up_s]; exact g2, g3.far hB1 (fun x h1 h2 => by rw [h_7, cq_up_row (by omega)]), fun x h1 h2 => by rw [h_7, cq_up_row h2]; exact g4 x h1⟩
abbrev rmL_undo : Room := ({ frames := 7, cells := 1, slots := 6, locals := 110 })
set_option maxHeartbeats 4000000 in
theorem kL_undo (l : Launch) (hl : l.stackTraces = false) (D : va_G) (cA : Nat → ClassId) (X : cq_X) (Bs : Nat) (b B : Nat) (S : as_T) (ol : Nat) (M : cq_M) (hb : cq_isClock X b) (h : ck M b S) (hk : as_ok S B) (ho : X.1 ol = 17) (hn : X.2.1 ol = 1) (hbo : ol < b ∨ b + 249 ≤ ol) (hkq : (op_undo S).1 = 0 → ∃ B1, as_ok (op_undo S).2.2 B1) : cq_T l yL_undo wsL_undo rmL_undo D cA X Bs [.ref b, .ref ol] M (cq_PI (fun r M1 => lw_w (op_undo S) r M M1 b ol)) (fun _ _ => False) 1 6 := by
  refine cq_metH (cc := cL_undo) (maxL := 3) (ret := some .int) (hh := [(0, 8, 11, 15)]) (by decide) rfl (Nat.le_of_ble_eq_true rfl) [(0, .ref b), (1, .ref ol)] rfl rfl ?_
  intro p9 e9 s9 m9 b9 t9 c9 F hr htab
  refine cq_aload_n F (i := 1) dL_undo_0 rfl rfl ?_
  refine cq_iconst F (v := 0) dL_undo_1 rfl ?_
  refine cq_aload_n F (i := 0) dL_undo_2 rfl rfl ?_
  refine cq_catchV F (C := RX6) (ci := 7) (kX6_undo l hl D cA X Bs b B S M hb h hk) (cwV 0 F.1.2.2.2.2 gL_undo_X6_undo rfl rfl rfl hdVX6_undo ⟨Nat.le_of_ble_eq_true rfl, Nat.le_of_ble_eq_true rfl⟩) hb.kind ⟨by decide, by decide⟩ rfl rfl rfl (Nat.le_of_ble_eq_true rfl) dL_undo_3 ⟨Nat.le_of_ble_eq_true rfl, Nat.le_of_ble_eq_true rfl⟩ (fun E M1 hx => ?_) (cq_kI fun r_3 M_3 h_3 => ?_)
  · have hx2 : lw_x (op_undo S) [xS] E M M1 b := lw_x.of h hx
    obtain ⟨k9, hk9, hE9⟩ := hx2.2.2
    obtain ⟨rfl, rfl⟩ : (k9 = 0 ∧ E = xS) := by
      match k9, hE9 with
      | 0, hE9 => exact ⟨rfl, (Option.some.inj hE9).symm⟩
      | _ + 1, hE9 => cases hE9
    · refine ⟨[], [], ⟨0, 8, 11, 15⟩, _, htab.trans rfl, ?_, rfl, by decide, (F.1.2.2.2.2 _ (List.mem_of_getElem? (l := wsL_undo) (i := 1) (a := .classLink RL 15 "java/lang/IllegalStateException") (by decide +kernel))), by decide, fun q => ?_⟩
      · intro z hz
        cases hz
      refine cq_astore_n F (i := 2) dL_undo_11 rfl (by decide) ?_
      refine cq_iconst F (v := 1) dL_undo_12 rfl ?_
      refine cq_ret9 ?_
      exact cq_iret F hr (by decide) (by decide) dL_undo_13 ⟨_, rfl, lw_w.x hx2 hk9 rfl⟩
  · refine cq_i2l F dL_undo_6 ?_
    refine cq_lastore F ho hn (by decide) dL_undo_7 (fun M_7 h_7 => ?_)
    refine cq_goto F (tgt := 14) dL_undo_8 (by decide) ?_
    refine cq_iconst F (v := 0) dL_undo_14 rfl ?_
    refine cq_ret9 ?_
    obtain ⟨g1, g2, g3, g4⟩ := h_3
    obtain ⟨B1, hB1⟩ := hkq g1
    refine cq_iret F hr (by decide) (by decide) dL_undo_15 ⟨_, rfl, by rw [g1]; rfl, fun _ => by rw [h_7, cq_up_s]; exact g2, g3.far hB1 (fun x h1 h2 => by rw [h_7, cq_up_row (by omega)]), fun x h1 h2 => by rw [h_7, cq_up_row h2]; exact g4 x h1⟩
abbrev rmL_keep : Room := ({ frames := 8, cells := 1, slots := 6, locals := 131 })
set_option maxHeartbeats 4000000 in
theorem kL_keep (l : Launch) (hl : l.stackTraces = false) (D : va_G) (cA : Nat → ClassId) (X : cq_X) (Bs : Nat) (b B : Nat) (S : as_T) (u : Int32) (ol : Nat) (M : cq_M) (hb : cq_isClock X b) (h : ck M b S) (hk : as_ok S B) (ho : X.1 ol = 17) (hn : X.2.1 ol = 1) (hbo : ol < b ∨ b + 249 ≤ ol) (hkq : (op_keep S u).1 = 0 → ∃ B1, as_ok (op_keep S u).2.2 B1) : cq_T l yL_keep wsL_keep rmL_keep D cA X Bs [.ref b, .int u, .ref ol] M (cq_PI (fun r M1 => lw_w (op_keep S u) r M M1 b ol)) (fun _ _ => False) 1 6 := by
  refine cq_metH (cc := cL_keep) (maxL := 4) (ret := some .int) (hh := [(0, 9, 12, 13)]) (by decide) rfl (Nat.le_of_ble_eq_true rfl) [(0, .ref b), (1, .int u), (2, .ref ol)] rfl rfl ?_
  intro p9 e9 s9 m9 b9 t9 c9 F hr htab
  refine cq_aload_n F (i := 2) dL_keep_0 rfl rfl ?_
  refine cq_iconst F (v := 0) dL_keep_1 rfl ?_
  refine cq_aload_n F (i := 0) dL_keep_2 rfl rfl ?_
  refine cq_iload_n F (i := 1) dL_keep_3 rfl rfl ?_
  refine cq_catchV F (C := RX6) (ci := 7) (kX6_keep l hl D cA X Bs b B S u M hb h hk) (cwV 1 F.1.2.2.2.2 gL_keep_X6_keep rfl rfl rfl hdVX6_keep ⟨Nat.le_of_ble_eq_true rfl, Nat.le_of_ble_eq_true rfl⟩) hb.kind ⟨by decide, by decide⟩ rfl rfl rfl (Nat.le_of_ble_eq_true rfl) dL_keep_4 ⟨Nat.le_of_ble_eq_true rfl, Nat.le_of_ble_eq_true rfl⟩ (fun E M1 hx => ?_) (cq_kI fun r_4 M_4 h_4 => ?_)
  · have hx2 : lw_x (op_keep S u) [xA] E M M1 b := lw_x.of h hx
    obtain ⟨k9, hk9, hE9⟩ := hx2.2.2
    obtain ⟨rfl, rfl⟩ : (k9 = 0 ∧ E = xA) := by
      match k9, hE9 with
      | 0, hE9 => exact ⟨rfl, (Option.some.inj hE9).symm⟩
      | _ + 1, hE9 => cases hE9
    · refine ⟨[], [], ⟨0, 9, 12, 13⟩, _, htab.trans rfl, ?_, rfl, by decide, (F.1.2.2.2.2 _ (List.mem_of_getElem? (l := wsL_keep) (i := 1) (a := .classLink RL 13 "java/lang/IllegalArgumentException") (by decide +kernel))), by decide, fun q => ?_⟩
      · intro z hz
        cases hz
      refine cq_astore_n F (i := 3) dL_keep_12 rfl (by decide) ?_
      refine cq_iconst F (v := 1) dL_keep_13 rfl ?_
      refine cq_ret9 ?_
      exact cq_iret F hr (by decide) (by decide) dL_keep_14 ⟨_, rfl, lw_w.x hx2 hk9 rfl⟩
  · refine cq_i2l F dL_keep_7 ?_
    refine cq_lastore F ho hn (by decide) dL_keep_8 (fun M_8 h_8 => ?_)
    refine cq_goto F (tgt := 15) dL_keep_9 (by decide) ?_
    refine cq_iconst F (v := 0) dL_keep_15 rfl ?_
    refine cq_ret9 ?_
    obtain ⟨g1, g2, g3, g4⟩ := h_4
    obtain ⟨B1, hB1⟩ := hkq g1
    refine cq_iret F hr (by decide) (by decide) dL_keep_16 ⟨_, rfl, by rw [g1]; rfl, fun _ => by rw [h_8, cq_up_s]; exact g2, g3.far hB1 (fun x h1 h2 => by rw [h_8, cq_up_row (by omega)]), fun x h1 h2 => by rw [h_8, cq_up_row h2]; exact g4 x h1⟩
abbrev rmL_goBack : Room := ({ frames := 8, cells := 2, slots := 12, locals := 131 })
set_option maxHeartbeats 4000000 in
theorem kL_goBack (l : Launch) (hl : l.stackTraces = false) (D : va_G) (cA : Nat → ClassId) (X : cq_X) (Bs : Nat) (b B : Nat) (S : as_T) (u : Int32) (ol : Nat) (M : cq_M) (hb : cq_isClock X b) (h : ck M b S) (hk : as_ok S B) (ho : X.1 ol = 17) (hn : X.2.1 ol = 1) (hbo : ol < b ∨ b + 249 ≤ ol) (hkq : (op_back S u).1 = 0 → ∃ B1, as_ok (op_back S u).2.2 B1) : cq_T l yL_goBack wsL_goBack rmL_goBack D cA X Bs [.ref b, .int u, .ref ol] M (cq_PI (fun r M1 => lw_w (op_back S u) r M M1 b ol)) (fun _ _ => False) 2 12 := by
  refine cq_metH (cc := cL_goBack) (maxL := 4) (ret := some .int) (hh := [(0, 9, 12, 13), (0, 9, 15, 15)]) (by decide) rfl (Nat.le_of_ble_eq_true rfl) [(0, .ref b), (1, .int u), (2, .ref ol)] rfl rfl ?_
  intro p9 e9 s9 m9 b9 t9 c9 F hr htab
  refine cq_aload_n F (i := 2) dL_goBack_0 rfl rfl ?_
  refine cq_iconst F (v := 0) dL_goBack_1 rfl ?_
  refine cq_aload_n F (i := 0) dL_goBack_2 rfl rfl ?_
  refine cq_iload_n F (i := 1) dL_goBack_3 rfl rfl ?_
  refine cq_catchV F (C := RX6) (ci := 7) (kX6_goBack l hl D cA X Bs b B S u M hb h hk) (cwV 1 F.1.2.2.2.2 gL_goBack_X6_goBack rfl rfl rfl hdVX6_goBack ⟨Nat.le_of_ble_eq_true rfl, Nat.le_of_ble_eq_true rfl⟩) hb.kind ⟨by decide, by decide⟩ rfl rfl rfl (Nat.le_of_ble_eq_true rfl) dL_goBack_4 ⟨Nat.le_of_ble_eq_true rfl, Nat.le_of_ble_eq_true rfl⟩ (fun E M1 hx => ?_) (cq_kI fun r_4 M_4 h_4 => ?_)
  · have hx2 : lw_x (op_back S u) [xA, xS] E M M1 b := lw_x.of h hx
    obtain ⟨k9, hk9, hE9⟩ := hx2.2.2
    obtain ⟨rfl, rfl⟩ | ⟨rfl, rfl⟩ : (k9 = 0 ∧ E = xA) ∨ (k9 = 1 ∧ E = xS) := by
      match k9, hE9 with
      | 0, hE9 => exact (.inl ⟨rfl, (Option.some.inj hE9).symm⟩)
      | 1, hE9 => exact (.inr ⟨rfl, (Option.some.inj hE9).symm⟩)
      | _ + 2, hE9 => cases hE9
    · refine ⟨[], [⟨0, 9, 15, 15⟩], ⟨0, 9, 12, 13⟩, _, htab.trans rfl, ?_, rfl, by decide, (F.1.2.2.2.2 _ (List.mem_of_getElem? (l := wsL_goBack) (i := 1) (a := .classLink RL 13 "java/lang/IllegalArgumentException") (by decide +kernel))), by decide, fun q => ?_⟩
      · intro z hz
        cases hz
      refine cq_astore_n F (i := 3) dL_goBack_12 rfl (by decide) ?_
      refine cq_iconst F (v := 1) dL_goBack_13 rfl ?_
      refine cq_ret9 ?_
      exact cq_iret F hr (by decide) (by decide) dL_goBack_14 ⟨_, rfl, lw_w.x hx2 hk9 rfl⟩
    · refine ⟨[⟨0, 9, 12, 13⟩], [], ⟨0, 9, 15, 15⟩, _, htab.trans rfl, ?_, rfl, by decide, (F.1.2.2.2.2 _ (List.mem_of_getElem? (l := wsL_goBack) (i := 2) (a := .classLink RL 15 "java/lang/IllegalStateException") (by decide +kernel))), by decide, fun q => ?_⟩
      · intro z hz
        rcases List.mem_cons.mp hz with rfl | hz
        · exact ⟨by decide, _, (F.1.2.2.2.2 _ (List.mem_of_getElem? (l := wsL_goBack) (i := 1) (a := .classLink RL 13 "java/lang/IllegalArgumentException") (by decide +kernel))), by decide⟩
        · cases hz
      refine cq_astore_n F (i := 3) dL_goBack_15 rfl (by decide) ?_
      refine cq_iconst F (v := 2) dL_goBack_16 rfl ?_
      refine cq_ret9 ?_
      exact cq_iret F hr (by decide) (by decide) dL_goBack_17 ⟨_, rfl, lw_w.x hx2 hk9 rfl⟩
  · refine cq_i2l F dL_goBack_7 ?_
    refine cq_lastore F ho hn (by decide) dL_goBack_8 (fun M_8 h_8 => ?_)
    refine cq_goto F (tgt := 18) dL_goBack_9 (by decide) ?_
    refine cq_iconst F (v := 0) dL_goBack_18 rfl ?_
    refine cq_ret9 ?_
    obtain ⟨g1, g2, g3, g4⟩ := h_4
    obtain ⟨B1, hB1⟩ := hkq g1
    refine cq_iret F hr (by decide) (by decide) dL_goBack_19 ⟨_, rfl, by rw [g1]; rfl, fun _ => by rw [h_8, cq_up_s]; exact g2, g3.far hB1 (fun x h1 h2 => by rw [h_8, cq_up_row (by omega)]), fun x h1 h2 => by rw [h_8, cq_up_row h2]; exact g4 x h1⟩
abbrev rmL_cordOf : Room := ({ frames := 8, cells := 2, slots := 12, locals := 134 })
set_option maxHeartbeats 4000000 in
theorem kL_cordOf (l : Launch) (hl : l.stackTraces = false) (D : va_G) (cA : Nat → ClassId) (X : cq_X) (Bs : Nat) (b B : Nat) (S : as_T) (u w : Int32) (ol : Nat) (M : cq_M) (hb : cq_isClock X b) (h : ck M b S) (hk : as_ok S B) (ho : X.1 ol = 17) (hn : X.2.1 ol = 1) (hbo : ol < b ∨ b + 249 ≤ ol) (hkq : (op_cordOf S u w).1 = 0 → ∃ B1, as_ok (op_cordOf S u w).2.2 B1) : cq_T l yL_cordOf wsL_cordOf rmL_cordOf D cA X Bs [.ref b, .int u, .int w, .ref ol] M (cq_PI (fun r M1 => lw_w (op_cordOf S u w) r M M1 b ol)) (fun _ _ => False) 2 12 := by
  refine cq_metH (cc := cL_cordOf) (maxL := 5) (ret := some .int) (hh := [(0, 10, 13, 21), (0, 10, 17, 13)]) (by decide) rfl (Nat.le_of_ble_eq_true rfl) [(0, .ref b), (1, .int u), (2, .int w), (3, .ref ol)] rfl rfl ?_
  intro p9 e9 s9 m9 b9 t9 c9 F hr htab
  refine cq_aload_n F (i := 3) dL_cordOf_0 rfl rfl ?_
  refine cq_iconst F (v := 0) dL_cordOf_1 rfl ?_
  refine cq_aload_n F (i := 0) dL_cordOf_2 rfl rfl ?_
  refine cq_iload_n F (i := 1) dL_cordOf_3 rfl rfl ?_
  refine cq_iload_n F (i := 2) dL_cordOf_4 rfl rfl ?_
  refine cq_catchV F (C := RX6) (ci := 7) (kX6_cordOf l hl D cA X Bs b B S u w M hb h hk) (cwV 2 F.1.2.2.2.2 gL_cordOf_X6_cordOf rfl rfl rfl hdVX6_cordOf ⟨Nat.le_of_ble_eq_true rfl, Nat.le_of_ble_eq_true rfl⟩) hb.kind ⟨by decide, by decide⟩ rfl rfl rfl (Nat.le_of_ble_eq_true rfl) dL_cordOf_5 ⟨Nat.le_of_ble_eq_true rfl, Nat.le_of_ble_eq_true rfl⟩ (fun E M1 hx => ?_) (cq_kI fun r_5 M_5 h_5 => ?_)
  · have hx2 : lw_x (op_cordOf S u w) [xI, xA] E M M1 b := lw_x.of h hx
    obtain ⟨k9, hk9, hE9⟩ := hx2.2.2
    obtain ⟨rfl, rfl⟩ | ⟨rfl, rfl⟩ : (k9 = 0 ∧ E = xI) ∨ (k9 = 1 ∧ E = xA) := by
      match k9, hE9 with
      | 0, hE9 => exact (.inl ⟨rfl, (Option.some.inj hE9).symm⟩)
      | 1, hE9 => exact (.inr ⟨rfl, (Option.some.inj hE9).symm⟩)
      | _ + 2, hE9 => cases hE9
    · refine ⟨[], [⟨0, 10, 17, 13⟩], ⟨0, 10, 13, 21⟩, _, htab.trans rfl, ?_, rfl, by decide, (F.1.2.2.2.2 _ (List.mem_of_getElem? (l := wsL_cordOf) (i := 1) (a := .classLink RL 21 "java/lang/IndexOutOfBoundsException") (by decide +kernel))), by decide, fun q => ?_⟩
      · intro z hz
        cases hz
      refine cq_astore F dL_cordOf_13 (by decide) ?_
      refine cq_iconst F (v := 1) dL_cordOf_15 rfl ?_
      refine cq_ret9 ?_
      exact cq_iret F hr (by decide) (by decide) dL_cordOf_16 ⟨_, rfl, lw_w.x hx2 hk9 rfl⟩
    · refine ⟨[⟨0, 10, 13, 21⟩], [], ⟨0, 10, 17, 13⟩, _, htab.trans rfl, ?_, rfl, by decide, (F.1.2.2.2.2 _ (List.mem_of_getElem? (l := wsL_cordOf) (i := 2) (a := .classLink RL 13 "java/lang/IllegalArgumentException") (by decide +kernel))), by decide, fun q => ?_⟩
      · intro z hz
        rcases List.mem_cons.mp hz with rfl | hz
        · exact ⟨by decide, _, (F.1.2.2.2.2 _ (List.mem_of_getElem? (l := wsL_cordOf) (i := 1) (a := .classLink RL 21 "java/lang/IndexOutOfBoundsException") (by decide +kernel))), by decide⟩
        · cases hz
      refine cq_astore F dL_cordOf_17 (by decide) ?_
      refine cq_iconst F (v := 2) dL_cordOf_19 rfl ?_
      refine cq_ret9 ?_
      exact cq_iret F hr (by decide) (by decide) dL_cordOf_20 ⟨_, rfl, lw_w.x hx2 hk9 rfl⟩
  · refine cq_i2l F dL_cordOf_8 ?_
    refine cq_lastore F ho hn (by decide) dL_cordOf_9 (fun M_9 h_9 => ?_)
    refine cq_goto F (tgt := 21) dL_cordOf_10 (by decide) ?_
    refine cq_iconst F (v := 0) dL_cordOf_21 rfl ?_
    refine cq_ret9 ?_
    obtain ⟨g1, g2, g3, g4⟩ := h_5
    obtain ⟨B1, hB1⟩ := hkq g1
    refine cq_iret F hr (by decide) (by decide) dL_cordOf_22 ⟨_, rfl, by rw [g1]; rfl, fun _ => by rw [h_9, cq_up_s]; exact g2, g3.far hB1 (fun x h1 h2 => by rw [h_9, cq_up_row (by omega)]), fun x h1 h2 => by rw [h_9, cq_up_row h2]; exact g4 x h1⟩
abbrev rmL_segment : Room := ({ frames := 9, cells := 2, slots := 12, locals := 155 })
set_option maxHeartbeats 4000000 in
theorem kL_segment (l : Launch) (hl : l.stackTraces = false) (D : va_G) (cA : Nat → ClassId) (X : cq_X) (Bs : Nat) (b B : Nat) (S : as_T) (u w : Int32) (ol : Nat) (M : cq_M) (hb : cq_isClock X b) (h : ck M b S) (hk : as_ok S B) (ho : X.1 ol = 17) (hn : X.2.1 ol = 1) (hbo : ol < b ∨ b + 249 ≤ ol) (hkq : (op_segment S u w).1 = 0 → ∃ B1, as_ok (op_segment S u w).2.2 B1) : cq_T l yL_segment wsL_segment rmL_segment D cA X Bs [.ref b, .int u, .int w, .ref ol] M (cq_PI (fun r M1 => lw_w (op_segment S u w) r M M1 b ol)) (fun _ _ => False) 2 12 := by
  refine cq_metH (cc := cL_segment) (maxL := 5) (ret := some .int) (hh := [(0, 10, 13, 21)]) (by decide) rfl (Nat.le_of_ble_eq_true rfl) [(0, .ref b), (1, .int u), (2, .int w), (3, .ref ol)] rfl rfl ?_
  intro p9 e9 s9 m9 b9 t9 c9 F hr htab
  refine cq_aload_n F (i := 3) dL_segment_0 rfl rfl ?_
  refine cq_iconst F (v := 0) dL_segment_1 rfl ?_
  refine cq_aload_n F (i := 0) dL_segment_2 rfl rfl ?_
  refine cq_iload_n F (i := 1) dL_segment_3 rfl rfl ?_
  refine cq_iload_n F (i := 2) dL_segment_4 rfl rfl ?_
  refine cq_catchV F (C := RX6) (ci := 7) (kX6_segment l hl D cA X Bs b B S u w M hb h hk) (cwV 2 F.1.2.2.2.2 gL_segment_X6_segment rfl rfl rfl hdVX6_segment ⟨Nat.le_of_ble_eq_true rfl, Nat.le_of_ble_eq_true rfl⟩) hb.kind ⟨by decide, by decide⟩ rfl rfl rfl (Nat.le_of_ble_eq_true rfl) dL_segment_5 ⟨Nat.le_of_ble_eq_true rfl, Nat.le_of_ble_eq_true rfl⟩ (fun E M1 hx => ?_) (cq_kI fun r_5 M_5 h_5 => ?_)
  · have hx2 : lw_x (op_segment S u w) [xI] E M M1 b := lw_x.of h hx
    obtain ⟨k9, hk9, hE9⟩ := hx2.2.2
    obtain ⟨rfl, rfl⟩ : (k9 = 0 ∧ E = xI) := by
      match k9, hE9 with
      | 0, hE9 => exact ⟨rfl, (Option.some.inj hE9).symm⟩
      | _ + 1, hE9 => cases hE9
    · refine ⟨[], [], ⟨0, 10, 13, 21⟩, _, htab.trans rfl, ?_, rfl, by decide, (F.1.2.2.2.2 _ (List.mem_of_getElem? (l := wsL_segment) (i := 1) (a := .classLink RL 21 "java/lang/IndexOutOfBoundsException") (by decide +kernel))), by decide, fun q => ?_⟩
      · intro z hz
        cases hz
      refine cq_astore F dL_segment_13 (by decide) ?_
      refine cq_iconst F (v := 1) dL_segment_15 rfl ?_
      refine cq_ret9 ?_
      exact cq_iret F hr (by decide) (by decide) dL_segment_16 ⟨_, rfl, lw_w.x hx2 hk9 rfl⟩
  · refine cq_i2l F dL_segment_8 ?_
    refine cq_lastore F ho hn (by decide) dL_segment_9 (fun M_9 h_9 => ?_)
    refine cq_goto F (tgt := 17) dL_segment_10 (by decide) ?_
    refine cq_iconst F (v := 0) dL_segment_17 rfl ?_
    refine cq_ret9 ?_
    obtain ⟨g1, g2, g3, g4⟩ := h_5
    obtain ⟨B1, hB1⟩ := hkq g1
    refine cq_iret F hr (by decide) (by decide) dL_segment_18 ⟨_, rfl, by rw [g1]; rfl, fun _ => by rw [h_9, cq_up_s]; exact g2, g3.far hB1 (fun x h1 h2 => by rw [h_9, cq_up_row (by omega)]), fun x h1 h2 => by rw [h_9, cq_up_row h2]; exact g4 x h1⟩
abbrev rmL_front : Room := ({ frames := 8, cells := 1, slots := 6, locals := 133 })
set_option maxHeartbeats 4000000 in
theorem kL_front (l : Launch) (hl : l.stackTraces = false) (D : va_G) (cA : Nat → ClassId) (X : cq_X) (Bs : Nat) (b B : Nat) (S : as_T) (u y : Int32) (ol : Nat) (M : cq_M) (hb : cq_isClock X b) (h : ck M b S) (hk : as_ok S B) (ho : X.1 ol = 17) (hn : X.2.1 ol = 1) (hbo : ol < b ∨ b + 249 ≤ ol) (hkq : (op_front S u y).1 = 0 → ∃ B1, as_ok (op_front S u y).2.2 B1) : cq_T l yL_front wsL_front rmL_front D cA X Bs [.ref b, .int u, .int y, .ref ol] M (cq_PI (fun r M1 => lw_w (op_front S u y) r M M1 b ol)) (fun _ _ => False) 1 6 := by
  refine cq_metH (cc := cL_front) (maxL := 5) (ret := some .int) (hh := [(0, 10, 13, 21)]) (by decide) rfl (Nat.le_of_ble_eq_true rfl) [(0, .ref b), (1, .int u), (2, .int y), (3, .ref ol)] rfl rfl ?_
  intro p9 e9 s9 m9 b9 t9 c9 F hr htab
  refine cq_aload_n F (i := 3) dL_front_0 rfl rfl ?_
  refine cq_iconst F (v := 0) dL_front_1 rfl ?_
  refine cq_aload_n F (i := 0) dL_front_2 rfl rfl ?_
  refine cq_iload_n F (i := 1) dL_front_3 rfl rfl ?_
  refine cq_iload_n F (i := 2) dL_front_4 rfl rfl ?_
  refine cq_catchV F (C := RX6) (ci := 7) (kX6_front l hl D cA X Bs b B S u y M hb h hk) (cwV 2 F.1.2.2.2.2 gL_front_X6_front rfl rfl rfl hdVX6_front ⟨Nat.le_of_ble_eq_true rfl, Nat.le_of_ble_eq_true rfl⟩) hb.kind ⟨by decide, by decide⟩ rfl rfl rfl (Nat.le_of_ble_eq_true rfl) dL_front_5 ⟨Nat.le_of_ble_eq_true rfl, Nat.le_of_ble_eq_true rfl⟩ (fun E M1 hx => ?_) (cq_kI fun r_5 M_5 h_5 => ?_)
  · have hx2 : lw_x (op_front S u y) [xI] E M M1 b := lw_x.of h hx
    obtain ⟨k9, hk9, hE9⟩ := hx2.2.2
    obtain ⟨rfl, rfl⟩ : (k9 = 0 ∧ E = xI) := by
      match k9, hE9 with
      | 0, hE9 => exact ⟨rfl, (Option.some.inj hE9).symm⟩
      | _ + 1, hE9 => cases hE9
    · refine ⟨[], [], ⟨0, 10, 13, 21⟩, _, htab.trans rfl, ?_, rfl, by decide, (F.1.2.2.2.2 _ (List.mem_of_getElem? (l := wsL_front) (i := 1) (a := .classLink RL 21 "java/lang/IndexOutOfBoundsException") (by decide +kernel))), by decide, fun q => ?_⟩
      · intro z hz
        cases hz
      refine cq_astore F dL_front_13 (by decide) ?_
      refine cq_iconst F (v := 1) dL_front_15 rfl ?_
      refine cq_ret9 ?_
      exact cq_iret F hr (by decide) (by decide) dL_front_16 ⟨_, rfl, lw_w.x hx2 hk9 rfl⟩
  · refine cq_i2l F dL_front_8 ?_
    refine cq_lastore F ho hn (by decide) dL_front_9 (fun M_9 h_9 => ?_)
    refine cq_goto F (tgt := 17) dL_front_10 (by decide) ?_
    refine cq_iconst F (v := 0) dL_front_17 rfl ?_
    refine cq_ret9 ?_
    obtain ⟨g1, g2, g3, g4⟩ := h_5
    obtain ⟨B1, hB1⟩ := hkq g1
    refine cq_iret F hr (by decide) (by decide) dL_front_18 ⟨_, rfl, by rw [g1]; rfl, fun _ => by rw [h_9, cq_up_s]; exact g2, g3.far hB1 (fun x h1 h2 => by rw [h_9, cq_up_row (by omega)]), fun x h1 h2 => by rw [h_9, cq_up_row h2]; exact g4 x h1⟩
abbrev rmL_ruleOf : Room := ({ frames := 7, cells := 1, slots := 6, locals := 113 })
set_option maxHeartbeats 4000000 in
theorem kL_ruleOf (l : Launch) (hl : l.stackTraces = false) (D : va_G) (cA : Nat → ClassId) (X : cq_X) (Bs : Nat) (b B : Nat) (S : as_T) (u w : Int32) (ol : Nat) (M : cq_M) (hb : cq_isClock X b) (h : ck M b S) (hk : as_ok S B) (ho : X.1 ol = 17) (hn : X.2.1 ol = 1) (hbo : ol < b ∨ b + 249 ≤ ol) (hkq : (op_ruleOf S u w).1 = 0 → ∃ B1, as_ok (op_ruleOf S u w).2.2 B1) : cq_T l yL_ruleOf wsL_ruleOf rmL_ruleOf D cA X Bs [.ref b, .int u, .int w, .ref ol] M (cq_PI (fun r M1 => lw_w (op_ruleOf S u w) r M M1 b ol)) (fun _ _ => False) 1 6 := by
  refine cq_metH (cc := cL_ruleOf) (maxL := 5) (ret := some .int) (hh := [(0, 10, 13, 21), (0, 10, 17, 13)]) (by decide) rfl (Nat.le_of_ble_eq_true rfl) [(0, .ref b), (1, .int u), (2, .int w), (3, .ref ol)] rfl rfl ?_
  intro p9 e9 s9 m9 b9 t9 c9 F hr htab
  refine cq_aload_n F (i := 3) dL_ruleOf_0 rfl rfl ?_
  refine cq_iconst F (v := 0) dL_ruleOf_1 rfl ?_
  refine cq_aload_n F (i := 0) dL_ruleOf_2 rfl rfl ?_
  refine cq_iload_n F (i := 1) dL_ruleOf_3 rfl rfl ?_
  refine cq_iload_n F (i := 2) dL_ruleOf_4 rfl rfl ?_
  refine cq_catchV F (C := RX6) (ci := 7) (kX6_ruleOf l hl D cA X Bs b B S u w M hb h hk) (cwV 2 F.1.2.2.2.2 gL_ruleOf_X6_ruleOf rfl rfl rfl hdVX6_ruleOf ⟨Nat.le_of_ble_eq_true rfl, Nat.le_of_ble_eq_true rfl⟩) hb.kind ⟨by decide, by decide⟩ rfl rfl rfl (Nat.le_of_ble_eq_true rfl) dL_ruleOf_5 ⟨Nat.le_of_ble_eq_true rfl, Nat.le_of_ble_eq_true rfl⟩ (fun E M1 hx => ?_) (cq_kI fun r_5 M_5 h_5 => ?_)
  · have hx2 : lw_x (op_ruleOf S u w) [xI, xA] E M M1 b := lw_x.of h hx
    obtain ⟨k9, hk9, hE9⟩ := hx2.2.2
    obtain ⟨rfl, rfl⟩ | ⟨rfl, rfl⟩ : (k9 = 0 ∧ E = xI) ∨ (k9 = 1 ∧ E = xA) := by
      match k9, hE9 with
      | 0, hE9 => exact (.inl ⟨rfl, (Option.some.inj hE9).symm⟩)
      | 1, hE9 => exact (.inr ⟨rfl, (Option.some.inj hE9).symm⟩)
      | _ + 2, hE9 => cases hE9
    · refine ⟨[], [⟨0, 10, 17, 13⟩], ⟨0, 10, 13, 21⟩, _, htab.trans rfl, ?_, rfl, by decide, (F.1.2.2.2.2 _ (List.mem_of_getElem? (l := wsL_ruleOf) (i := 1) (a := .classLink RL 21 "java/lang/IndexOutOfBoundsException") (by decide +kernel))), by decide, fun q => ?_⟩
      · intro z hz
        cases hz
      refine cq_astore F dL_ruleOf_13 (by decide) ?_
      refine cq_iconst F (v := 1) dL_ruleOf_15 rfl ?_
      refine cq_ret9 ?_
      exact cq_iret F hr (by decide) (by decide) dL_ruleOf_16 ⟨_, rfl, lw_w.x hx2 hk9 rfl⟩
    · refine ⟨[⟨0, 10, 13, 21⟩], [], ⟨0, 10, 17, 13⟩, _, htab.trans rfl, ?_, rfl, by decide, (F.1.2.2.2.2 _ (List.mem_of_getElem? (l := wsL_ruleOf) (i := 2) (a := .classLink RL 13 "java/lang/IllegalArgumentException") (by decide +kernel))), by decide, fun q => ?_⟩
      · intro z hz
        rcases List.mem_cons.mp hz with rfl | hz
        · exact ⟨by decide, _, (F.1.2.2.2.2 _ (List.mem_of_getElem? (l := wsL_ruleOf) (i := 1) (a := .classLink RL 21 "java/lang/IndexOutOfBoundsException") (by decide +kernel))), by decide⟩
        · cases hz
      refine cq_astore F dL_ruleOf_17 (by decide) ?_
      refine cq_iconst F (v := 2) dL_ruleOf_19 rfl ?_
      refine cq_ret9 ?_
      exact cq_iret F hr (by decide) (by decide) dL_ruleOf_20 ⟨_, rfl, lw_w.x hx2 hk9 rfl⟩
  · refine cq_i2l F dL_ruleOf_8 ?_
    refine cq_lastore F ho hn (by decide) dL_ruleOf_9 (fun M_9 h_9 => ?_)
    refine cq_goto F (tgt := 21) dL_ruleOf_10 (by decide) ?_
    refine cq_iconst F (v := 0) dL_ruleOf_21 rfl ?_
    refine cq_ret9 ?_
    obtain ⟨g1, g2, g3, g4⟩ := h_5
    obtain ⟨B1, hB1⟩ := hkq g1
    refine cq_iret F hr (by decide) (by decide) dL_ruleOf_22 ⟨_, rfl, by rw [g1]; rfl, fun _ => by rw [h_9, cq_up_s]; exact g2, g3.far hB1 (fun x h1 h2 => by rw [h_9, cq_up_row (by omega)]), fun x h1 h2 => by rw [h_9, cq_up_row h2]; exact g4 x h1⟩
abbrev rmL_count : Room := ({ frames := 7, cells := 1, slots := 6, locals := 111 })
set_option maxHeartbeats 4000000 in
theorem kL_count (l : Launch) (hl : l.stackTraces = false) (D : va_G) (cA : Nat → ClassId) (X : cq_X) (Bs : Nat) (b B : Nat) (S : as_T) (u : Int32) (ol : Nat) (M : cq_M) (hb : cq_isClock X b) (h : ck M b S) (hk : as_ok S B) (ho : X.1 ol = 17) (hn : X.2.1 ol = 1) (hbo : ol < b ∨ b + 249 ≤ ol) (hkq : (op_count S u).1 = 0 → ∃ B1, as_ok (op_count S u).2.2 B1) : cq_T l yL_count wsL_count rmL_count D cA X Bs [.ref b, .int u, .ref ol] M (cq_PI (fun r M1 => lw_w (op_count S u) r M M1 b ol)) (fun _ _ => False) 1 6 := by
  refine cq_metH (cc := cL_count) (maxL := 4) (ret := some .int) (hh := [(0, 9, 12, 13)]) (by decide) rfl (Nat.le_of_ble_eq_true rfl) [(0, .ref b), (1, .int u), (2, .ref ol)] rfl rfl ?_
  intro p9 e9 s9 m9 b9 t9 c9 F hr htab
  refine cq_aload_n F (i := 2) dL_count_0 rfl rfl ?_
  refine cq_iconst F (v := 0) dL_count_1 rfl ?_
  refine cq_aload_n F (i := 0) dL_count_2 rfl rfl ?_
  refine cq_iload_n F (i := 1) dL_count_3 rfl rfl ?_
  refine cq_catchV F (C := RX6) (ci := 7) (kX6_count l hl D cA X Bs b B S u M hb h hk) (cwV 1 F.1.2.2.2.2 gL_count_X6_count rfl rfl rfl hdVX6_count ⟨Nat.le_of_ble_eq_true rfl, Nat.le_of_ble_eq_true rfl⟩) hb.kind ⟨by decide, by decide⟩ rfl rfl rfl (Nat.le_of_ble_eq_true rfl) dL_count_4 ⟨Nat.le_of_ble_eq_true rfl, Nat.le_of_ble_eq_true rfl⟩ (fun E M1 hx => ?_) (cq_kI fun r_4 M_4 h_4 => ?_)
  · have hx2 : lw_x (op_count S u) [xA] E M M1 b := lw_x.of h hx
    obtain ⟨k9, hk9, hE9⟩ := hx2.2.2
    obtain ⟨rfl, rfl⟩ : (k9 = 0 ∧ E = xA) := by
      match k9, hE9 with
      | 0, hE9 => exact ⟨rfl, (Option.some.inj hE9).symm⟩
      | _ + 1, hE9 => cases hE9
    · refine ⟨[], [], ⟨0, 9, 12, 13⟩, _, htab.trans rfl, ?_, rfl, by decide, (F.1.2.2.2.2 _ (List.mem_of_getElem? (l := wsL_count) (i := 1) (a := .classLink RL 13 "java/lang/IllegalArgumentException") (by decide +kernel))), by decide, fun q => ?_⟩
      · intro z hz
        cases hz
      refine cq_astore_n F (i := 3) dL_count_12 rfl (by decide) ?_
      refine cq_iconst F (v := 1) dL_count_13 rfl ?_
      refine cq_ret9 ?_
      exact cq_iret F hr (by decide) (by decide) dL_count_14 ⟨_, rfl, lw_w.x hx2 hk9 rfl⟩
  · refine cq_i2l F dL_count_7 ?_
    refine cq_lastore F ho hn (by decide) dL_count_8 (fun M_8 h_8 => ?_)
    refine cq_goto F (tgt := 15) dL_count_9 (by decide) ?_
    refine cq_iconst F (v := 0) dL_count_15 rfl ?_
    refine cq_ret9 ?_
    obtain ⟨g1, g2, g3, g4⟩ := h_4
    obtain ⟨B1, hB1⟩ := hkq g1
    refine cq_iret F hr (by decide) (by decide) dL_count_16 ⟨_, rfl, by rw [g1]; rfl, fun _ => by rw [h_8, cq_up_s]; exact g2, g3.far hB1 (fun x h1 h2 => by rw [h_8, cq_up_row (by omega)]), fun x h1 h2 => by rw [h_8, cq_up_row h2]; exact g4 x h1⟩
abbrev rmL_entry : Room := ({ frames := 7, cells := 2, slots := 20, locals := 224 })
set_option maxHeartbeats 4000000 in
theorem kL_entry (l : Launch) (hl : l.stackTraces = false) (D : va_G) (cA : Nat → ClassId) (X : cq_X) (Bs : Nat) (b B : Nat) (S : as_T) (u v : Int32) (ol : Nat) (M : cq_M) (hb : cq_isClock X b) (h : ck M b S) (hk : as_ok S B) (hB : B < 10000000) (ho : X.1 ol = 17) (hn : X.2.1 ol = 1) (hbo : ol < b ∨ b + 249 ≤ ol) (hkq : (op_entry S u v).1 = 0 → ∃ B1, as_ok (op_entry S u v).2.2 B1) : cq_T l yL_entry wsL_entry rmL_entry D cA X Bs [.ref b, .int u, .int v, .ref ol] M (cq_PI (fun r M1 => lw_w (op_entry S u v) r M M1 b ol)) (fun _ _ => False) 2 20 := by
  refine cq_metH (cc := cL_entry) (maxL := 5) (ret := some .int) (hh := [(0, 10, 13, 13)]) (by decide) rfl (Nat.le_of_ble_eq_true rfl) [(0, .ref b), (1, .int u), (2, .int v), (3, .ref ol)] rfl rfl ?_
  intro p9 e9 s9 m9 b9 t9 c9 F hr htab
  refine cq_aload_n F (i := 3) dL_entry_0 rfl rfl ?_
  refine cq_iconst F (v := 0) dL_entry_1 rfl ?_
  refine cq_aload_n F (i := 0) dL_entry_2 rfl rfl ?_
  refine cq_iload_n F (i := 1) dL_entry_3 rfl rfl ?_
  refine cq_iload_n F (i := 2) dL_entry_4 rfl rfl ?_
  refine cq_catchV F (C := RX6) (ci := 7) (kX6_entry l hl D cA X Bs b B S u v M hb h hk hB) (cwV 2 F.1.2.2.2.2 gL_entry_X6_entry rfl rfl rfl hdVX6_entry ⟨Nat.le_of_ble_eq_true rfl, Nat.le_of_ble_eq_true rfl⟩) hb.kind ⟨by decide, by decide⟩ rfl rfl rfl (Nat.le_of_ble_eq_true rfl) dL_entry_5 ⟨Nat.le_of_ble_eq_true rfl, Nat.le_of_ble_eq_true rfl⟩ (fun E M1 hx => ?_) (cq_kI fun r_5 M_5 h_5 => ?_)
  · have hx2 : lw_x (op_entry S u v) [xA] E M M1 b := lw_x.of h hx
    obtain ⟨k9, hk9, hE9⟩ := hx2.2.2
    obtain ⟨rfl, rfl⟩ : (k9 = 0 ∧ E = xA) := by
      match k9, hE9 with
      | 0, hE9 => exact ⟨rfl, (Option.some.inj hE9).symm⟩
      | _ + 1, hE9 => cases hE9
    · refine ⟨[], [], ⟨0, 10, 13, 13⟩, _, htab.trans rfl, ?_, rfl, by decide, (F.1.2.2.2.2 _ (List.mem_of_getElem? (l := wsL_entry) (i := 1) (a := .classLink RL 13 "java/lang/IllegalArgumentException") (by decide +kernel))), by decide, fun q => ?_⟩
      · intro z hz
        cases hz
      refine cq_astore F dL_entry_13 (by decide) ?_
      refine cq_iconst F (v := 1) dL_entry_15 rfl ?_
      refine cq_ret9 ?_
      exact cq_iret F hr (by decide) (by decide) dL_entry_16 ⟨_, rfl, lw_w.x hx2 hk9 rfl⟩
  · refine cq_i2l F dL_entry_8 ?_
    refine cq_lastore F ho hn (by decide) dL_entry_9 (fun M_9 h_9 => ?_)
    refine cq_goto F (tgt := 17) dL_entry_10 (by decide) ?_
    refine cq_iconst F (v := 0) dL_entry_17 rfl ?_
    refine cq_ret9 ?_
    obtain ⟨g1, g2, g3, g4⟩ := h_5
    obtain ⟨B1, hB1⟩ := hkq g1
    refine cq_iret F hr (by decide) (by decide) dL_entry_18 ⟨_, rfl, by rw [g1]; rfl, fun _ => by rw [h_9, cq_up_s]; exact g2, g3.far hB1 (fun x h1 h2 => by rw [h_9, cq_up_row (by omega)]), fun x h1 h2 => by rw [h_9, cq_up_row h2]; exact g4 x h1⟩
abbrev rmL_outIn : Room := ({ frames := 8, cells := 1, slots := 6, locals := 133 })
set_option maxHeartbeats 4000000 in
theorem kL_outIn (l : Launch) (hl : l.stackTraces = false) (D : va_G) (cA : Nat → ClassId) (X : cq_X) (Bs : Nat) (b B : Nat) (S : as_T) (u : Int32) (ol : Nat) (M : cq_M) (hb : cq_isClock X b) (h : ck M b S) (hk : as_ok S B) (hB : B < 1999990000) (ho : X.1 ol = 17) (hn : X.2.1 ol = 1) (hbo : ol < b ∨ b + 249 ≤ ol) (hkq : (op_outIn S u).1 = 0 → ∃ B1, as_ok (op_outIn S u).2.2 B1) : cq_T l yL_outIn wsL_outIn rmL_outIn D cA X Bs [.ref b, .int u, .ref ol] M (cq_PI (fun r M1 => lw_w (op_outIn S u) r M M1 b ol)) (fun _ _ => False) 1 6 := by
  refine cq_metH (cc := cL_outIn) (maxL := 4) (ret := some .int) (hh := [(0, 9, 12, 21)]) (by decide) rfl (Nat.le_of_ble_eq_true rfl) [(0, .ref b), (1, .int u), (2, .ref ol)] rfl rfl ?_
  intro p9 e9 s9 m9 b9 t9 c9 F hr htab
  refine cq_aload_n F (i := 2) dL_outIn_0 rfl rfl ?_
  refine cq_iconst F (v := 0) dL_outIn_1 rfl ?_
  refine cq_aload_n F (i := 0) dL_outIn_2 rfl rfl ?_
  refine cq_iload_n F (i := 1) dL_outIn_3 rfl rfl ?_
  refine cq_catchV F (C := RX6) (ci := 7) (kX6_outIn l hl D cA X Bs b B S u M hb h hk hB) (cwV 1 F.1.2.2.2.2 gL_outIn_X6_outIn rfl rfl rfl hdVX6_outIn ⟨Nat.le_of_ble_eq_true rfl, Nat.le_of_ble_eq_true rfl⟩) hb.kind ⟨by decide, by decide⟩ rfl rfl rfl (Nat.le_of_ble_eq_true rfl) dL_outIn_4 ⟨Nat.le_of_ble_eq_true rfl, Nat.le_of_ble_eq_true rfl⟩ (fun E M1 hx => ?_) (cq_kI fun r_4 M_4 h_4 => ?_)
  · have hx2 : lw_x (op_outIn S u) [xI] E M M1 b := lw_x.of h hx
    obtain ⟨k9, hk9, hE9⟩ := hx2.2.2
    obtain ⟨rfl, rfl⟩ : (k9 = 0 ∧ E = xI) := by
      match k9, hE9 with
      | 0, hE9 => exact ⟨rfl, (Option.some.inj hE9).symm⟩
      | _ + 1, hE9 => cases hE9
    · refine ⟨[], [], ⟨0, 9, 12, 21⟩, _, htab.trans rfl, ?_, rfl, by decide, (F.1.2.2.2.2 _ (List.mem_of_getElem? (l := wsL_outIn) (i := 1) (a := .classLink RL 21 "java/lang/IndexOutOfBoundsException") (by decide +kernel))), by decide, fun q => ?_⟩
      · intro z hz
        cases hz
      refine cq_astore_n F (i := 3) dL_outIn_12 rfl (by decide) ?_
      refine cq_iconst F (v := 1) dL_outIn_13 rfl ?_
      refine cq_ret9 ?_
      exact cq_iret F hr (by decide) (by decide) dL_outIn_14 ⟨_, rfl, lw_w.x hx2 hk9 rfl⟩
  · refine cq_i2l F dL_outIn_7 ?_
    refine cq_lastore F ho hn (by decide) dL_outIn_8 (fun M_8 h_8 => ?_)
    refine cq_goto F (tgt := 15) dL_outIn_9 (by decide) ?_
    refine cq_iconst F (v := 0) dL_outIn_15 rfl ?_
    refine cq_ret9 ?_
    obtain ⟨g1, g2, g3, g4⟩ := h_4
    obtain ⟨B1, hB1⟩ := hkq g1
    refine cq_iret F hr (by decide) (by decide) dL_outIn_16 ⟨_, rfl, by rw [g1]; rfl, fun _ => by rw [h_8, cq_up_s]; exact g2, g3.far hB1 (fun x h1 h2 => by rw [h_8, cq_up_row (by omega)]), fun x h1 h2 => by rw [h_8, cq_up_row h2]; exact g4 x h1⟩
abbrev rmL_lasts : Room := ({ frames := 8, cells := 2, slots := 12, locals := 135 })
set_option maxHeartbeats 4000000 in
theorem kL_lasts (l : Launch) (hl : l.stackTraces = false) (D : va_G) (cA : Nat → ClassId) (X : cq_X) (Bs : Nat) (b B : Nat) (S : as_T) (u y w : Int32) (ol : Nat) (M : cq_M) (hb : cq_isClock X b) (h : ck M b S) (hk : as_ok S B) (ho : X.1 ol = 17) (hn : X.2.1 ol = 1) (hbo : ol < b ∨ b + 249 ≤ ol) (hkq : (op_lasts S u y w).1 = 0 → ∃ B1, as_ok (op_lasts S u y w).2.2 B1) : cq_T l yL_lasts wsL_lasts rmL_lasts D cA X Bs [.ref b, .int u, .int y, .int w, .ref ol] M (cq_PI (fun r M1 => lw_w (op_lasts S u y w) r M M1 b ol)) (fun _ _ => False) 2 12 := by
  refine cq_metH (cc := cL_lasts) (maxL := 6) (ret := some .int) (hh := [(0, 12, 15, 21), (0, 12, 19, 13)]) (by decide) rfl (Nat.le_of_ble_eq_true rfl) [(0, .ref b), (1, .int u), (2, .int y), (3, .int w), (4, .ref ol)] rfl rfl ?_
  intro p9 e9 s9 m9 b9 t9 c9 F hr htab
  refine cq_aload F dL_lasts_0 rfl ?_
  refine cq_iconst F (v := 0) dL_lasts_2 rfl ?_
  refine cq_aload_n F (i := 0) dL_lasts_3 rfl rfl ?_
  refine cq_iload_n F (i := 1) dL_lasts_4 rfl rfl ?_
  refine cq_iload_n F (i := 2) dL_lasts_5 rfl rfl ?_
  refine cq_iload_n F (i := 3) dL_lasts_6 rfl rfl ?_
  refine cq_catchV F (C := RX6) (ci := 7) (kX6_lasts l hl D cA X Bs b B S u y w M hb h hk) (cwV 3 F.1.2.2.2.2 gL_lasts_X6_lasts rfl rfl rfl hdVX6_lasts ⟨Nat.le_of_ble_eq_true rfl, Nat.le_of_ble_eq_true rfl⟩) hb.kind ⟨by decide, by decide⟩ rfl rfl rfl (Nat.le_of_ble_eq_true rfl) dL_lasts_7 ⟨Nat.le_of_ble_eq_true rfl, Nat.le_of_ble_eq_true rfl⟩ (fun E M1 hx => ?_) (cq_kI fun r_7 M_7 h_7 => ?_)
  · have hx2 : lw_x (op_lasts S u y w) [xI, xA] E M M1 b := lw_x.of h hx
    obtain ⟨k9, hk9, hE9⟩ := hx2.2.2
    obtain ⟨rfl, rfl⟩ | ⟨rfl, rfl⟩ : (k9 = 0 ∧ E = xI) ∨ (k9 = 1 ∧ E = xA) := by
      match k9, hE9 with
      | 0, hE9 => exact (.inl ⟨rfl, (Option.some.inj hE9).symm⟩)
      | 1, hE9 => exact (.inr ⟨rfl, (Option.some.inj hE9).symm⟩)
      | _ + 2, hE9 => cases hE9
    · refine ⟨[], [⟨0, 12, 19, 13⟩], ⟨0, 12, 15, 21⟩, _, htab.trans rfl, ?_, rfl, by decide, (F.1.2.2.2.2 _ (List.mem_of_getElem? (l := wsL_lasts) (i := 1) (a := .classLink RL 21 "java/lang/IndexOutOfBoundsException") (by decide +kernel))), by decide, fun q => ?_⟩
      · intro z hz
        cases hz
      refine cq_astore F dL_lasts_15 (by decide) ?_
      refine cq_iconst F (v := 1) dL_lasts_17 rfl ?_
      refine cq_ret9 ?_
      exact cq_iret F hr (by decide) (by decide) dL_lasts_18 ⟨_, rfl, lw_w.x hx2 hk9 rfl⟩
    · refine ⟨[⟨0, 12, 15, 21⟩], [], ⟨0, 12, 19, 13⟩, _, htab.trans rfl, ?_, rfl, by decide, (F.1.2.2.2.2 _ (List.mem_of_getElem? (l := wsL_lasts) (i := 2) (a := .classLink RL 13 "java/lang/IllegalArgumentException") (by decide +kernel))), by decide, fun q => ?_⟩
      · intro z hz
        rcases List.mem_cons.mp hz with rfl | hz
        · exact ⟨by decide, _, (F.1.2.2.2.2 _ (List.mem_of_getElem? (l := wsL_lasts) (i := 1) (a := .classLink RL 21 "java/lang/IndexOutOfBoundsException") (by decide +kernel))), by decide⟩
        · cases hz
      refine cq_astore F dL_lasts_19 (by decide) ?_
      refine cq_iconst F (v := 2) dL_lasts_21 rfl ?_
      refine cq_ret9 ?_
      exact cq_iret F hr (by decide) (by decide) dL_lasts_22 ⟨_, rfl, lw_w.x hx2 hk9 rfl⟩
  · refine cq_i2l F dL_lasts_10 ?_
    refine cq_lastore F ho hn (by decide) dL_lasts_11 (fun M_11 h_11 => ?_)
    refine cq_goto F (tgt := 23) dL_lasts_12 (by decide) ?_
    refine cq_iconst F (v := 0) dL_lasts_23 rfl ?_
    refine cq_ret9 ?_
    obtain ⟨g1, g2, g3, g4⟩ := h_7
    obtain ⟨B1, hB1⟩ := hkq g1
    refine cq_iret F hr (by decide) (by decide) dL_lasts_24 ⟨_, rfl, by rw [g1]; rfl, fun _ => by rw [h_11, cq_up_s]; exact g2, g3.far hB1 (fun x h1 h2 => by rw [h_11, cq_up_row (by omega)]), fun x h1 h2 => by rw [h_11, cq_up_row h2]; exact g4 x h1⟩
abbrev rmL_tellable : Room := ({ frames := 11, cells := 1, slots := 6, locals := 266 })
set_option maxHeartbeats 4000000 in
theorem kL_tellable (l : Launch) (hl : l.stackTraces = false) (D : va_G) (cA : Nat → ClassId) (X : cq_X) (Bs : Nat) (b B : Nat) (S : as_T) (u v : Int32) (ol : Nat) (M : cq_M) (hb : cq_isClock X b) (h : ck M b S) (hk : as_ok S B) (ho : X.1 ol = 17) (hn : X.2.1 ol = 1) (hbo : ol < b ∨ b + 249 ≤ ol) (hkq : (op_tell S u v).1 = 0 → ∃ B1, as_ok (op_tell S u v).2.2 B1) : cq_T l yL_tellable wsL_tellable rmL_tellable D cA X Bs [.ref b, .int u, .int v, .ref ol] M (cq_PI (fun r M1 => lw_w (op_tell S u v) r M M1 b ol)) (fun _ _ => False) 1 6 := by
  refine cq_metH (cc := cL_tellable) (maxL := 5) (ret := some .int) (hh := [(0, 10, 13, 13)]) (by decide) rfl (Nat.le_of_ble_eq_true rfl) [(0, .ref b), (1, .int u), (2, .int v), (3, .ref ol)] rfl rfl ?_
  intro p9 e9 s9 m9 b9 t9 c9 F hr htab
  refine cq_aload_n F (i := 3) dL_tellable_0 rfl rfl ?_
  refine cq_iconst F (v := 0) dL_tellable_1 rfl ?_
  refine cq_aload_n F (i := 0) dL_tellable_2 rfl rfl ?_
  refine cq_iload_n F (i := 1) dL_tellable_3 rfl rfl ?_
  refine cq_iload_n F (i := 2) dL_tellable_4 rfl rfl ?_
  refine cq_catchV F (C := RX6) (ci := 7) (kX6_tellable l hl D cA X Bs b B S u v M hb h hk) (cwV 2 F.1.2.2.2.2 gL_tellable_X6_tellable rfl rfl rfl hdVX6_tellable ⟨Nat.le_of_ble_eq_true rfl, Nat.le_of_ble_eq_true rfl⟩) hb.kind ⟨by decide, by decide⟩ rfl rfl rfl (Nat.le_of_ble_eq_true rfl) dL_tellable_5 ⟨Nat.le_of_ble_eq_true rfl, Nat.le_of_ble_eq_true rfl⟩ (fun E M1 hx => ?_) (cq_kI fun r_5 M_5 h_5 => ?_)
  · have hx2 : lw_x (op_tell S u v) [xA] E M M1 b := lw_x.of h hx
    obtain ⟨k9, hk9, hE9⟩ := hx2.2.2
    obtain ⟨rfl, rfl⟩ : (k9 = 0 ∧ E = xA) := by
      match k9, hE9 with
      | 0, hE9 => exact ⟨rfl, (Option.some.inj hE9).symm⟩
      | _ + 1, hE9 => cases hE9
    · refine ⟨[], [], ⟨0, 10, 13, 13⟩, _, htab.trans rfl, ?_, rfl, by decide, (F.1.2.2.2.2 _ (List.mem_of_getElem? (l := wsL_tellable) (i := 1) (a := .classLink RL 13 "java/lang/IllegalArgumentException") (by decide +kernel))), by decide, fun q => ?_⟩
      · intro z hz
        cases hz
      refine cq_astore F dL_tellable_13 (by decide) ?_
      refine cq_iconst F (v := 1) dL_tellable_15 rfl ?_
      refine cq_ret9 ?_
      exact cq_iret F hr (by decide) (by decide) dL_tellable_16 ⟨_, rfl, lw_w.x hx2 hk9 rfl⟩
  · refine cq_i2l F dL_tellable_8 ?_
    refine cq_lastore F ho hn (by decide) dL_tellable_9 (fun M_9 h_9 => ?_)
    refine cq_goto F (tgt := 17) dL_tellable_10 (by decide) ?_
    refine cq_iconst F (v := 0) dL_tellable_17 rfl ?_
    refine cq_ret9 ?_
    obtain ⟨g1, g2, g3, g4⟩ := h_5
    obtain ⟨B1, hB1⟩ := hkq g1
    refine cq_iret F hr (by decide) (by decide) dL_tellable_18 ⟨_, rfl, by rw [g1]; rfl, fun _ => by rw [h_9, cq_up_s]; exact g2, g3.far hB1 (fun x h1 h2 => by rw [h_9, cq_up_row (by omega)]), fun x h1 h2 => by rw [h_9, cq_up_row h2]; exact g4 x h1⟩
abbrev rmL_fewestFlames : Room := ({ frames := 11, cells := 1, slots := 6, locals := 266 })
set_option maxHeartbeats 4000000 in
theorem kL_fewestFlames (l : Launch) (hl : l.stackTraces = false) (D : va_G) (cA : Nat → ClassId) (X : cq_X) (Bs : Nat) (b B : Nat) (S : as_T) (u v : Int32) (ol : Nat) (M : cq_M) (hb : cq_isClock X b) (h : ck M b S) (hk : as_ok S B) (ho : X.1 ol = 17) (hn : X.2.1 ol = 1) (hbo : ol < b ∨ b + 249 ≤ ol) (hkq : (op_few S u v).1 = 0 → ∃ B1, as_ok (op_few S u v).2.2 B1) : cq_T l yL_fewestFlames wsL_fewestFlames rmL_fewestFlames D cA X Bs [.ref b, .int u, .int v, .ref ol] M (cq_PI (fun r M1 => lw_w (op_few S u v) r M M1 b ol)) (fun _ _ => False) 1 6 := by
  refine cq_metH (cc := cL_fewestFlames) (maxL := 5) (ret := some .int) (hh := [(0, 10, 13, 13)]) (by decide) rfl (Nat.le_of_ble_eq_true rfl) [(0, .ref b), (1, .int u), (2, .int v), (3, .ref ol)] rfl rfl ?_
  intro p9 e9 s9 m9 b9 t9 c9 F hr htab
  refine cq_aload_n F (i := 3) dL_fewestFlames_0 rfl rfl ?_
  refine cq_iconst F (v := 0) dL_fewestFlames_1 rfl ?_
  refine cq_aload_n F (i := 0) dL_fewestFlames_2 rfl rfl ?_
  refine cq_iload_n F (i := 1) dL_fewestFlames_3 rfl rfl ?_
  refine cq_iload_n F (i := 2) dL_fewestFlames_4 rfl rfl ?_
  refine cq_catchV F (C := RX6) (ci := 7) (kX6_fewestFlames l hl D cA X Bs b B S u v M hb h hk) (cwV 2 F.1.2.2.2.2 gL_fewestFlames_X6_fewestFlames rfl rfl rfl hdVX6_fewestFlames ⟨Nat.le_of_ble_eq_true rfl, Nat.le_of_ble_eq_true rfl⟩) hb.kind ⟨by decide, by decide⟩ rfl rfl rfl (Nat.le_of_ble_eq_true rfl) dL_fewestFlames_5 ⟨Nat.le_of_ble_eq_true rfl, Nat.le_of_ble_eq_true rfl⟩ (fun E M1 hx => ?_) (cq_kI fun r_5 M_5 h_5 => ?_)
  · have hx2 : lw_x (op_few S u v) [xA] E M M1 b := lw_x.of h hx
    obtain ⟨k9, hk9, hE9⟩ := hx2.2.2
    obtain ⟨rfl, rfl⟩ : (k9 = 0 ∧ E = xA) := by
      match k9, hE9 with
      | 0, hE9 => exact ⟨rfl, (Option.some.inj hE9).symm⟩
      | _ + 1, hE9 => cases hE9
    · refine ⟨[], [], ⟨0, 10, 13, 13⟩, _, htab.trans rfl, ?_, rfl, by decide, (F.1.2.2.2.2 _ (List.mem_of_getElem? (l := wsL_fewestFlames) (i := 1) (a := .classLink RL 13 "java/lang/IllegalArgumentException") (by decide +kernel))), by decide, fun q => ?_⟩
      · intro z hz
        cases hz
      refine cq_astore F dL_fewestFlames_13 (by decide) ?_
      refine cq_iconst F (v := 1) dL_fewestFlames_15 rfl ?_
      refine cq_ret9 ?_
      exact cq_iret F hr (by decide) (by decide) dL_fewestFlames_16 ⟨_, rfl, lw_w.x hx2 hk9 rfl⟩
  · refine cq_i2l F dL_fewestFlames_8 ?_
    refine cq_lastore F ho hn (by decide) dL_fewestFlames_9 (fun M_9 h_9 => ?_)
    refine cq_goto F (tgt := 17) dL_fewestFlames_10 (by decide) ?_
    refine cq_iconst F (v := 0) dL_fewestFlames_17 rfl ?_
    refine cq_ret9 ?_
    obtain ⟨g1, g2, g3, g4⟩ := h_5
    obtain ⟨B1, hB1⟩ := hkq g1
    refine cq_iret F hr (by decide) (by decide) dL_fewestFlames_18 ⟨_, rfl, by rw [g1]; rfl, fun _ => by rw [h_9, cq_up_s]; exact g2, g3.far hB1 (fun x h1 h2 => by rw [h_9, cq_up_row (by omega)]), fun x h1 h2 => by rw [h_9, cq_up_row h2]; exact g4 x h1⟩
