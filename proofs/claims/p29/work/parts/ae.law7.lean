/-! the law looks at the plans -/
theorem op_set_n {S : as_T} {B w : Nat} (hk : as_ok S B) (hw : w < 2 ^ S_g S 6) (hpm : pb_m w 4 ≤ 3) : op_set (S_g S) (nI w) ∧ op_beg (S_g S) (nI w) = pb (S_g S) w (S_g S 6) := by
  have h6 := hk.1.1
  have hp16 : 2 ^ S_g S 6 ≤ 16 := Nat.pow_le_pow_right (n := 2) (by decide) h6
  have e : (nI w).toNatClampNeg = w := nI_clamp (by omega)
  refine ⟨⟨nI_cd2 (by omega) hw, by rw [e]; exact hpm⟩, ?_⟩
  unfold op_beg
  rw [e]
theorem nq_tell {l : Launch} {D : va_G} {cA : Nat → ClassId} {X : cq_X} {Bs : Nat} {M : cq_M} {S : as_T} {o B : Nat} (hl : l.stackTraces = false) (hb : cq_isClock X o) (h : ck M o S) (hk : as_ok S B) (w : Nat) (hw : w < 2 ^ S_g S 6) (hpm : pb_m w 4 ≤ 3) (v : Int32) (hv : -1 ≤ v) : cq_C l yX6_tellable wsX6_tellable rmX6_tellable D cA X Bs [.ref o, .int (nI w), .int v] M (cq_PI (fun r M1 => r = op_rank (pl_F (pb (S_g S) w (S_g S 6))) v ∧ ck M1 o S ∧ cr_fr M M1 o 249)) 1 6 :=
  (kX6_tellable l hl D cA X Bs o B S (nI w) v M hb h hk).chg (by
    obtain ⟨a1, a2⟩ := op_set_n hk hw hpm
    unfold op_tell
    rw [if_pos ⟨a1, hv⟩, a2])
theorem nq_few {l : Launch} {D : va_G} {cA : Nat → ClassId} {X : cq_X} {Bs : Nat} {M : cq_M} {S : as_T} {o B : Nat} (hl : l.stackTraces = false) (hb : cq_isClock X o) (h : ck M o S) (hk : as_ok S B) (w : Nat) (hw : w < 2 ^ S_g S 6) (hpm : pb_m w 4 ≤ 3) (x : Nat) (hx : 1 ≤ x ∧ x ≤ 1080) : cq_C l yX6_fewestFlames wsX6_fewestFlames rmX6_fewestFlames D cA X Bs [.ref o, .int (nI w), .int (nI x)] M (cq_PI (fun r M1 => r = (if pl_F (pb (S_g S) w (S_g S 6)) x = 0 then -1 else nI (pl_F (pb (S_g S) w (S_g S 6)) x)) ∧ ck M1 o S ∧ cr_fr M M1 o 249)) 1 6 :=
  (kX6_fewestFlames l hl D cA X Bs o B S (nI w) (nI x) M hb h hk).chg (by
    obtain ⟨a1, a2⟩ := op_set_n hk hw hpm
    unfold op_few
    rw [if_pos ⟨a1, show 1 ≤ nI x ∧ nI x ≤ 1080 from ⟨nI_le (a := 1) hx.1 (by omega), nI_le (b := 1080) hx.2 (by omega)⟩⟩, a2, nI_clamp (by omega)])
theorem pb_row {g : Nat → Nat} {w i mn k : Nat} (hb : w / 2 ^ i % 2 = 1) (hm : mn = pb_m w i) : ns_up (fun k => pb g w i (1 + k)) mn (ns_time g i) k = pb g w (i + 1) (1 + k) := by
  show _ = (if w / 2 ^ i % 2 = 1 then ns_up (pb g w i) (1 + pb_m w i) (ns_time g i) else pb g w i) (1 + k)
  rw [if_pos hb, ← hm]
  unfold ns_up
  by_cases e : k = mn
  · rw [if_pos e, if_pos (by omega)]
  · rw [if_neg e, if_neg (by omega)]
theorem lp_next {Y G : Nat → Nat} {code : Nat} (hb : pl_beg G) (h : pl_P Y (fun t x => ∃ c, c < code ∧ lc_ok c ∧ lp_P (lc c) G 3 t x)) : (lc_ok code → pl_P (lp_F (lc code) Y G 3) (fun t x => ∃ c, c < code + 1 ∧ lc_ok c ∧ lp_P (lc c) G 3 t x)) ∧ (¬ lc_ok code → pl_P Y (fun t x => ∃ c, c < code + 1 ∧ lc_ok c ∧ lp_P (lc c) G 3 t x)) := by
  refine ⟨fun ho => (lp_F_P hb (fun k _ n hn => lc_u n hn) h 3 (Nat.le_refl _)).ext (fun t x => ?_), fun hn => h.ext (fun t x => ?_)⟩
  · constructor
    · rintro (⟨c, c1, c2⟩ | hp)
      · exact ⟨c, by omega, c2⟩
      · exact ⟨code, by omega, ho, hp⟩
    · rintro ⟨c, c1, c2, c3⟩
      by_cases e : c = code
      · subst e; exact Or.inr c3
      · exact Or.inl ⟨c, by omega, c2, c3⟩
  · constructor
    · rintro ⟨c, c1, c2⟩
      exact ⟨c, by omega, c2⟩
    · rintro ⟨c, c1, c2, c3⟩
      by_cases e : c = code
      · subst e; exact absurd c2 hn
      · exact ⟨c, by omega, c2, c3⟩
theorem op_rank_at {Y : Nat → Nat} {T : Nat} (hT : Y T ≠ 0) (h1 : 1 ≤ T) (h2 : T ≤ 1080) : op_rank Y (nI (pl_cnt Y (T - 1))) = nI T := by
  have hc := pl_cnt_le (F := Y) (T - 1)
  unfold op_rank
  rw [if_neg (nI_m1 (by omega))]
  exact pl_rank_at hT (by omega) 1080 1 0 (by omega) h1 (by omega) (by show 0 + _ = _ + pl_cnt Y 0; rw [show pl_cnt Y 0 = 0 from rfl]; omega)
theorem op_rank_no {Y : Nat → Nat} : op_rank Y (nI (pl_cnt Y 1080)) = -1 := by
  have hc := pl_cnt_le (F := Y) 1080
  unfold op_rank
  rw [if_neg (nI_m1 (by omega))]
  exact pl_rank_no (by omega) 1080 1 0 (by omega) (by show 0 + pl_cnt Y 1080 ≤ pl_cnt Y 1080 + pl_cnt Y 0; omega)
abbrev rmL_arePlans : Room := ({ frames := 11, cells := 12000, slots := 50000, locals := 266 })
set_option maxHeartbeats 4000000 in
set_option maxRecDepth 100000 in
theorem kL_arePlans (l : Launch) (D : va_G) (cA : Nat → ClassId) (X : cq_X) (Bs : Nat) (hl : l.stackTraces = false) (o ta na w xq B : Nat) (t c r n b : Nat → Nat) (S : as_T) (M : cq_M) (ht : lq_row X ta 24) (hn0 : lq_row X na 9) (hvt : cq_nv M ta 24 t) (hvn : cq_nv M na 9 n) (hb : cq_isClock X o) (h : ck M o S) (hk : as_ok S B) (hrel : lr t c r n b (S_g S 1) (S_g S)) (ho : o + 249 ≤ ta) (hta : ta < na) (hw : w < 2 ^ S_g S 6) (hpm : pb_m w 4 ≤ 3) (hxq : xq < 1024) : cq_C l yL_arePlans wsL_arePlans rmL_arePlans D cA X Bs [.ref o, .ref ta, .ref na, .int (nI w), .int (nI xq)] M (cq_PI (fun rv M1 => rv = 1 ∧ ck M1 o S ∧ ∀ x, X.1 x ≠ 0 → (x < o ∨ o + 249 ≤ x) → M1 x = M x)) 12000 50000 := by
  refine cq_met (cc := cL_arePlans) (maxL := 12) (ret := (some .boolean)) (by decide) rfl (Nat.le_of_ble_eq_true rfl) [(0, .ref o), (1, .ref ta), (2, .ref na), (3, .int (nI w)), (4, .int (nI xq))] rfl rfl ?_
  intro p9 e9 s9 m9 b9 t9 c9 F hr
  have h6 := hk.1.1
  obtain ⟨n0, n1, n2, n3, n4, n5, n6, n7, n8⟩ := id hrel.1
  have hp16 : 2 ^ S_g S 6 ≤ 16 := Nat.pow_le_pow_right (n := 2) (by decide) h6
  have hw16 : w < 16 := by omega
  have hbeg : pl_beg (pb (S_g S) w (S_g S 6)) := pb_beg (fun c hc => (hk.1.2.2.2.1 c hc).time) (Nat.le_trans (pb_m_mono h6) hpm)
  have loop_167 : ∀ (n_167 : Nat) (X1 : cq_X) (fa ga told tm : Nat) (M2 : cq_M), lq_row X1 fa 55 → lq_row X1 ga 55 → cq_ge X X1 → (∀ x, X.1 x ≠ 0 → x < fa) → fa < ga → 1 ≤ tm → tm ≤ 1081 → told = pl_cnt (pl_F (pb (S_g S) w (S_g S 6))) (tm - 1) → lk M2 fa ga (pl_F (pb (S_g S) w (S_g S 6))) → ck M2 o S → (∀ x, X.1 x ≠ 0 → (x < o ∨ o + 249 ≤ x) → M2 x = M x) → 1081 - tm < n_167 → cq_V p9 l e9 rmL_arePlans s9 m9 ([.ref o, .ref ta, .ref na, .int (nI w), .int (nI xq)] : List Value).toArray b9 t9 c9 D cA X1 Bs 12 ((8300 + 2 * tm)) ((24900 + 12 * tm)) (MQ b9 (cq_Q D cA X Bs (cq_PI (fun rv M1 => rv = 1 ∧ ck M1 o S ∧ ∀ x, X.1 x ≠ 0 → (x < o ∨ o + 249 ≤ x) → M1 x = M x))) ([.ref o, .ref ta, .ref na, .int (nI w), .int (nI xq)] : List Value).toArray s9 12000 50000 (cq_A Bs)) 167 [(0, .ref o), (1, .ref ta), (2, .ref na), (3, .int (nI w)), (4, .int (nI xq)), (7, .ref fa), (8, .ref ga), (9, .int (nI told)), (10, .int 1), (11, .int (nI tm))] [] M2 := by
    intro n_167
    induction n_167 with
    | zero =>
      intros
      omega
    | succ n_167 ih_167 =>
      intro X1 fa ga told tm M2 hfX hgX2 hgX hltX hfg ht1 ht2 htd hlk hck2 hf2 hn167
      have htX := ht.ge hgX
      have hnX := hn0.ge hgX
      have hbX := hb.ge hgX
      have hof : o + 249 ≤ fa := by have := hltX ta (by rw [ht.1]; decide); omega
      have htb : told ≤ 1080 := by rw [htd]; exact Nat.le_trans (pl_cnt_le _) (by omega)
      refine cq_iload F dL_arePlans_167 rfl ?_
      refine cq_sipush F (v := 1080) dL_arePlans_169 (by decide) ?_
      refine cq_icmp_gt F (tgt := 252) dL_arePlans_172 (by decide) (fun c_172 => ?_) (fun c_172 => ?_)
      · have c_172 : 1080 < tm := (nI_b (a := 1080) (b := tm) (by omega) (by omega)).2.1.mp c_172
        obtain rfl : tm = 1081 := by omega
        have htd : told = pl_cnt (pl_F (pb (S_g S) w (S_g S 6))) 1080 := htd
        refine cq_iconst F (v := 1) dL_arePlans_252 rfl ?_
        refine cq_iload F dL_arePlans_253 rfl ?_
        refine cq_iconst F (v := 3) dL_arePlans_255 rfl ?_
        refine cq_ishr F dL_arePlans_256 ?_
        refine cq_sipush F (v := 200) dL_arePlans_257 (by decide) ?_
        refine cq_callS F (kL_low l D cA X1 Bs _ 200 M2 (by omega) (by omega)) (va_cwS 2 F.1.2.2.2.2 gL_arePlans_L_low rfl rfl rfl hdVL_low.2 ⟨Nat.le_of_ble_eq_true rfl, Nat.le_of_ble_eq_true rfl⟩) rfl (Nat.le_of_ble_eq_true rfl) dL_arePlans_260 ⟨by show _ ≤ 12000; omega, by show _ ≤ 50000; omega⟩ (cq_kIp fun r_260 h_260 => ?_)
        obtain ⟨jo, hjo, rfl⟩ := h_260
        refine cq_iadd F dL_arePlans_263 ?_
        rw [show (1 + nI jo : Int32) = nI (1 + jo) from nI_add _ _]
        refine cq_istore F dL_arePlans_264 (by decide) ?_
        refine cq_iload F dL_arePlans_266 rfl ?_
        refine cq_if_eq F (tgt := 332) dL_arePlans_268 (by decide) (fun c_268 => ?_) (fun c_268 => ?_)
        · have c_268 : 1 = 0 := (nI_b (a := 1) (b := 0) (by omega) (by omega)).2.2.mp c_268
          omega
        · have c_268 : ¬ 1 = 0 := fun z => c_268 ((nI_b (a := 1) (b := 0) (by omega) (by omega)).2.2.mpr z)
          refine cq_aload_n F (i := 0) dL_arePlans_271 rfl rfl ?_
          refine cq_iload_n F (i := 3) dL_arePlans_272 rfl rfl ?_
          refine cq_iconst F (v := (-1)) dL_arePlans_273 rfl ?_
          refine cq_callV F (C := RX6) (ci := 7) (nq_tell (l := l) (D := D) (cA := cA) (Bs := Bs) hl hbX hck2 hk w hw hpm (-1) (by decide)) (cwV 2 F.1.2.2.2.2 gL_arePlans_X6_tellable rfl rfl rfl hdVX6_tellable ⟨Nat.le_of_ble_eq_true rfl, Nat.le_of_ble_eq_true rfl⟩) hbX.kind ⟨by decide, by decide⟩ rfl rfl rfl (Nat.le_of_ble_eq_true rfl) dL_arePlans_274 ⟨by show _ ≤ 12000; omega, by show _ ≤ 50000; omega⟩ (cq_kI fun r_274 M_274 h_274 => ?_)
          have hck_274 := h_274.2.1
          have hlk_274 : lk M_274 fa ga (pl_F (pb (S_g S) w (S_g S 6))) := hlk.same (h_274.2.2 _ (by omega)) (h_274.2.2 _ (by omega))
          have hf_274 : (∀ x, X.1 x ≠ 0 → (x < o ∨ o + 249 ≤ x) → M_274 x = M x) := fun x x1 x2 => by rw [h_274.2.2 x x2]; exact hf2 x x1 x2
          obtain rfl : r_274 = nI told := by rw [h_274.1]; rw [htd]; exact if_pos rfl
          refine cq_iload F dL_arePlans_277 rfl ?_
          refine cq_icmp_ne F (tgt := 332) dL_arePlans_279 (by decide) (fun c_279 => ?_) (fun c_279 => ?_)
          · exact absurd rfl c_279
          · refine cq_aload_n F (i := 0) dL_arePlans_282 rfl rfl ?_
            refine cq_iload_n F (i := 3) dL_arePlans_283 rfl rfl ?_
            refine cq_iload F dL_arePlans_284 rfl ?_
            refine cq_callV F (C := RX6) (ci := 7) (nq_tell (l := l) (D := D) (cA := cA) (Bs := Bs) hl hbX hck_274 hk w hw hpm (nI told) (Int32.le_trans (by decide) (nI_pos' (by omega)))) (cwV 2 F.1.2.2.2.2 gL_arePlans_X6_tellable rfl rfl rfl hdVX6_tellable ⟨Nat.le_of_ble_eq_true rfl, Nat.le_of_ble_eq_true rfl⟩) hbX.kind ⟨by decide, by decide⟩ rfl rfl rfl (Nat.le_of_ble_eq_true rfl) dL_arePlans_286 ⟨by show _ ≤ 12000; omega, by show _ ≤ 50000; omega⟩ (cq_kI fun r_286 M_286 h_286 => ?_)
            have hck_286 := h_286.2.1
            have hlk_286 : lk M_286 fa ga (pl_F (pb (S_g S) w (S_g S 6))) := hlk_274.same (h_286.2.2 _ (by omega)) (h_286.2.2 _ (by omega))
            have hf_286 : (∀ x, X.1 x ≠ 0 → (x < o ∨ o + 249 ≤ x) → M_286 x = M x) := fun x x1 x2 => by rw [h_286.2.2 x x2]; exact hf_274 x x1 x2
            have hr_286 := h_286.1
            refine cq_iconst F (v := (-1)) dL_arePlans_289 rfl ?_
            refine cq_icmp_ne F (tgt := 332) dL_arePlans_290 (by decide) (fun c_290 => ?_) (fun c_290 => ?_)
            · exact absurd c_290 (fun z => z (by rw [hr_286, htd]; exact op_rank_no))
            · refine cq_aload_n F (i := 0) dL_arePlans_293 rfl rfl ?_
              refine cq_iload_n F (i := 3) dL_arePlans_294 rfl rfl ?_
              refine cq_iload F dL_arePlans_295 rfl ?_
              refine cq_callV F (C := RX6) (ci := 7) (nq_few (l := l) (D := D) (cA := cA) (Bs := Bs) hl hbX hck_286 hk w hw hpm (1 + jo) ⟨by omega, by omega⟩) (cwV 2 F.1.2.2.2.2 gL_arePlans_X6_fewestFlames rfl rfl rfl hdVX6_fewestFlames ⟨Nat.le_of_ble_eq_true rfl, Nat.le_of_ble_eq_true rfl⟩) hbX.kind ⟨by decide, by decide⟩ rfl rfl rfl (Nat.le_of_ble_eq_true rfl) dL_arePlans_297 ⟨by show _ ≤ 12000; omega, by show _ ≤ 50000; omega⟩ (cq_kI fun r_297 M_297 h_297 => ?_)
              have hck_297 := h_297.2.1
              have hlk_297 : lk M_297 fa ga (pl_F (pb (S_g S) w (S_g S 6))) := hlk_286.same (h_297.2.2 _ (by omega)) (h_297.2.2 _ (by omega))
              have hf_297 : (∀ x, X.1 x ≠ 0 → (x < o ∨ o + 249 ≤ x) → M_297 x = M x) := fun x x1 x2 => by rw [h_297.2.2 x x2]; exact hf_286 x x1 x2
              have hr_297 := h_297.1
              refine cq_aload F dL_arePlans_300 rfl ?_
              refine cq_aload F dL_arePlans_302 rfl ?_
              refine cq_iload F dL_arePlans_304 rfl ?_
              refine cq_callS F (kL_fewest l D cA X1 Bs fa ga (1 + jo) (pl_F (pb (S_g S) w (S_g S 6))) M_297 hfX hgX2 hlk_297 (by omega)) (va_cwS 3 F.1.2.2.2.2 gL_arePlans_L_fewest rfl rfl rfl hdVL_fewest.2 ⟨Nat.le_of_ble_eq_true rfl, Nat.le_of_ble_eq_true rfl⟩) rfl (Nat.le_of_ble_eq_true rfl) dL_arePlans_306 ⟨by show _ ≤ 12000; omega, by show _ ≤ 50000; omega⟩ (cq_kIp fun r_306 h_306 => ?_)
              subst h_306
              have hy7o := (hlk (1 + jo) (by omega)).1
              refine cq_if_ne F (tgt := 316) dL_arePlans_309 (by decide) (fun c_309 => ?_) (fun c_309 => ?_)
              · have c_309 : ¬ ((pl_F (pb (S_g S) w (S_g S 6))) (1 + jo)) = 0 := fun z => c_309 ((nI_b (a := ((pl_F (pb (S_g S) w (S_g S 6))) (1 + jo))) (b := 0) (by omega) (by omega)).2.2.mpr z)
                refine cq_aload F dL_arePlans_316 rfl ?_
                refine cq_aload F dL_arePlans_318 rfl ?_
                refine cq_iload F dL_arePlans_320 rfl ?_
                refine cq_callS F (kL_fewest l D cA X1 Bs fa ga (1 + jo) (pl_F (pb (S_g S) w (S_g S 6))) M_297 hfX hgX2 hlk_297 (by omega)) (va_cwS 3 F.1.2.2.2.2 gL_arePlans_L_fewest rfl rfl rfl hdVL_fewest.2 ⟨Nat.le_of_ble_eq_true rfl, Nat.le_of_ble_eq_true rfl⟩) rfl (Nat.le_of_ble_eq_true rfl) dL_arePlans_322 ⟨by show _ ≤ 12000; omega, by show _ ≤ 50000; omega⟩ (cq_kIp fun r_322 h_322 => ?_)
                subst h_322
                refine cq_icmp_ne F (tgt := 332) dL_arePlans_325 (by decide) (fun c_325 => ?_) (fun c_325 => ?_)
                · exact absurd c_325 (fun z => z (by rw [hr_297]; exact if_neg c_309))
                · refine cq_iconst F (v := 1) dL_arePlans_328 rfl ?_
                  refine cq_goto F (tgt := 333) dL_arePlans_329 (by decide) ?_
                  refine cq_shrink (X0 := X) (M0 := M_297) hgX (fun _ _ => rfl) ?_
                  exact cq_zret F hr (by rfl) (by omega) (by omega) dL_arePlans_333 ⟨_, rfl, ⟨rfl, hck_297, hf_297⟩⟩
              · have c_309 : ((pl_F (pb (S_g S) w (S_g S 6))) (1 + jo)) = 0 := (nI_b (a := ((pl_F (pb (S_g S) w (S_g S 6))) (1 + jo))) (b := 0) (by omega) (by omega)).2.2.mp c_309
                refine cq_iconst F (v := (-1)) dL_arePlans_312 rfl ?_
                refine cq_goto F (tgt := 325) dL_arePlans_313 (by decide) ?_
                refine cq_icmp_ne F (tgt := 332) dL_arePlans_325 (by decide) (fun c_325 => ?_) (fun c_325 => ?_)
                · exact absurd c_325 (fun z => z (by rw [hr_297]; exact if_pos c_309))
                · refine cq_iconst F (v := 1) dL_arePlans_328 rfl ?_
                  refine cq_goto F (tgt := 333) dL_arePlans_329 (by decide) ?_
                  refine cq_shrink (X0 := X) (M0 := M_297) hgX (fun _ _ => rfl) ?_
                  exact cq_zret F hr (by rfl) (by omega) (by omega) dL_arePlans_333 ⟨_, rfl, ⟨rfl, hck_297, hf_297⟩⟩
      · have c_172 : ¬ 1080 < tm := fun z => c_172 ((nI_b (a := 1080) (b := tm) (by omega) (by omega)).2.1.mpr z)
        have hy7 := (hlk tm (by omega)).1
        refine cq_aload F dL_arePlans_175 rfl ?_
        refine cq_aload F dL_arePlans_177 rfl ?_
        refine cq_iload F dL_arePlans_179 rfl ?_
        refine cq_callS F (kL_fewest l D cA X1 Bs fa ga tm (pl_F (pb (S_g S) w (S_g S 6))) M2 hfX hgX2 hlk (by omega)) (va_cwS 3 F.1.2.2.2.2 gL_arePlans_L_fewest rfl rfl rfl hdVL_fewest.2 ⟨Nat.le_of_ble_eq_true rfl, Nat.le_of_ble_eq_true rfl⟩) rfl (Nat.le_of_ble_eq_true rfl) dL_arePlans_181 ⟨by show _ ≤ 12000; omega, by show _ ≤ 50000; omega⟩ (cq_kIp fun r_181 h_181 => ?_)
        subst h_181
        refine cq_if_le F (tgt := 246) dL_arePlans_184 (by decide) (fun c_184 => ?_) (fun c_184 => ?_)
        · have c_184 : ((pl_F (pb (S_g S) w (S_g S 6))) tm) ≤ 0 := (nI_b (a := ((pl_F (pb (S_g S) w (S_g S 6))) tm)) (b := 0) (by omega) (by omega)).1.mp c_184
          refine cq_iinc F dL_arePlans_246 rfl (by decide) (fun x_246 e_246 => ?_)
          obtain rfl : x_246 = nI (tm + 1) := by rw [e_246]; exact nI_1 _
          refine cq_goto F (tgt := 167) dL_arePlans_249 (by decide) ?_
          refine cq_widen (k := (8300 + 2 * (tm + 1))) (n := (24900 + 12 * (tm + 1))) (by omega) (by omega) ?_
          refine cq_loc (L2 := [(0, .ref o), (1, .ref ta), (2, .ref na), (3, .int (nI w)), (4, .int (nI xq)), (7, .ref fa), (8, .ref ga), (9, .int (nI told)), (10, .int 1), (11, .int (nI (tm + 1)))]) rfl ?_
          exact ih_167 X1 fa ga told (tm + 1) M2 hfX hgX2 hgX hltX hfg (by omega) (by omega) (by show _ = pl_cnt (pl_F (pb (S_g S) w (S_g S 6))) (tm + 1 - 1); rw [Nat.add_sub_cancel, pl_cnt_s ht1, if_pos (by omega), Nat.add_zero, htd]) hlk hck2 hf2 (by omega)
        · have c_184 : ¬ ((pl_F (pb (S_g S) w (S_g S 6))) tm) ≤ 0 := fun z => c_184 ((nI_b (a := ((pl_F (pb (S_g S) w (S_g S 6))) tm)) (b := 0) (by omega) (by omega)).1.mpr z)
          refine cq_iload F dL_arePlans_187 rfl ?_
          refine cq_if_eq F (tgt := 240) dL_arePlans_189 (by decide) (fun c_189 => ?_) (fun c_189 => ?_)
          · have c_189 : 1 = 0 := (nI_b (a := 1) (b := 0) (by omega) (by omega)).2.2.mp c_189
            omega
          · have c_189 : ¬ 1 = 0 := fun z => c_189 ((nI_b (a := 1) (b := 0) (by omega) (by omega)).2.2.mpr z)
            refine cq_iload F dL_arePlans_192 rfl ?_
            refine cq_bipush F (v := 7) dL_arePlans_194 (by decide) ?_
            refine cq_irem F dL_arePlans_196 (by decide) ?_
            rw [show (nI told - nI told / 7 * 7 : Int32) = nI (told % 7) from pk_rem (d := 7) (by omega) (by omega) (by omega)]
            refine cq_iload F dL_arePlans_197 rfl ?_
            refine cq_bipush F (v := 7) dL_arePlans_199 (by decide) ?_
            refine cq_irem F dL_arePlans_201 (by decide) ?_
            rw [show (nI xq - nI xq / 7 * 7 : Int32) = nI (xq % 7) from pk_rem (d := 7) (by omega) (by omega) (by omega)]
            refine cq_icmp_ne F (tgt := 236) dL_arePlans_202 (by decide) (fun c_202 => ?_) (fun c_202 => ?_)
            · have c_202 : ¬ (told % 7) = (xq % 7) := fun z => c_202 ((nI_b (a := (told % 7)) (b := (xq % 7)) (by omega) (by omega)).2.2.mpr z)
              refine cq_iconst F (v := 1) dL_arePlans_236 rfl ?_
              refine cq_goto F (tgt := 241) dL_arePlans_237 (by decide) ?_
              refine cq_istore F dL_arePlans_241 (by decide) ?_
              refine cq_iinc F dL_arePlans_243 rfl (by decide) (fun x_243 e_243 => ?_)
              obtain rfl : x_243 = nI (told + 1) := by rw [e_243]; exact nI_1 _
              refine cq_iinc F dL_arePlans_246 rfl (by decide) (fun x_246 e_246 => ?_)
              obtain rfl : x_246 = nI (tm + 1) := by rw [e_246]; exact nI_1 _
              refine cq_goto F (tgt := 167) dL_arePlans_249 (by decide) ?_
              refine cq_widen (k := (8300 + 2 * (tm + 1))) (n := (24900 + 12 * (tm + 1))) (by omega) (by omega) ?_
              refine cq_loc (L2 := [(0, .ref o), (1, .ref ta), (2, .ref na), (3, .int (nI w)), (4, .int (nI xq)), (7, .ref fa), (8, .ref ga), (9, .int (nI (told + 1))), (10, .int 1), (11, .int (nI (tm + 1)))]) rfl ?_
              exact ih_167 X1 fa ga (told + 1) (tm + 1) M2 hfX hgX2 hgX hltX hfg (by omega) (by omega) (by show _ = pl_cnt (pl_F (pb (S_g S) w (S_g S 6))) (tm + 1 - 1); rw [Nat.add_sub_cancel, pl_cnt_s ht1, if_neg (by omega), htd]) hlk hck2 hf2 (by omega)
            · have c_202 : (told % 7) = (xq % 7) := (nI_b (a := (told % 7)) (b := (xq % 7)) (by omega) (by omega)).2.2.mp c_202
              refine cq_aload_n F (i := 0) dL_arePlans_205 rfl rfl ?_
              refine cq_iload_n F (i := 3) dL_arePlans_206 rfl rfl ?_
              refine cq_iload F dL_arePlans_207 rfl ?_
              refine cq_callV F (C := RX6) (ci := 7) (nq_tell (l := l) (D := D) (cA := cA) (Bs := Bs) hl hbX hck2 hk w hw hpm (nI told) (Int32.le_trans (by decide) (nI_pos' (by omega)))) (cwV 2 F.1.2.2.2.2 gL_arePlans_X6_tellable rfl rfl rfl hdVX6_tellable ⟨Nat.le_of_ble_eq_true rfl, Nat.le_of_ble_eq_true rfl⟩) hbX.kind ⟨by decide, by decide⟩ rfl rfl rfl (Nat.le_of_ble_eq_true rfl) dL_arePlans_209 ⟨by show _ ≤ 12000; omega, by show _ ≤ 50000; omega⟩ (cq_kI fun r_209 M_209 h_209 => ?_)
              have hck_209 := h_209.2.1
              have hlk_209 : lk M_209 fa ga (pl_F (pb (S_g S) w (S_g S 6))) := hlk.same (h_209.2.2 _ (by omega)) (h_209.2.2 _ (by omega))
              have hf_209 : (∀ x, X.1 x ≠ 0 → (x < o ∨ o + 249 ≤ x) → M_209 x = M x) := fun x x1 x2 => by rw [h_209.2.2 x x2]; exact hf2 x x1 x2
              obtain rfl : r_209 = nI tm := by rw [h_209.1]; rw [htd]; exact op_rank_at (by omega) ht1 (by omega)
              refine cq_iload F dL_arePlans_212 rfl ?_
              refine cq_icmp_ne F (tgt := 240) dL_arePlans_214 (by decide) (fun c_214 => ?_) (fun c_214 => ?_)
              · exact absurd rfl c_214
              · refine cq_aload_n F (i := 0) dL_arePlans_217 rfl rfl ?_
                refine cq_iload_n F (i := 3) dL_arePlans_218 rfl rfl ?_
                refine cq_iload F dL_arePlans_219 rfl ?_
                refine cq_callV F (C := RX6) (ci := 7) (nq_few (l := l) (D := D) (cA := cA) (Bs := Bs) hl hbX hck_209 hk w hw hpm tm ⟨ht1, by omega⟩) (cwV 2 F.1.2.2.2.2 gL_arePlans_X6_fewestFlames rfl rfl rfl hdVX6_fewestFlames ⟨Nat.le_of_ble_eq_true rfl, Nat.le_of_ble_eq_true rfl⟩) hbX.kind ⟨by decide, by decide⟩ rfl rfl rfl (Nat.le_of_ble_eq_true rfl) dL_arePlans_221 ⟨by show _ ≤ 12000; omega, by show _ ≤ 50000; omega⟩ (cq_kI fun r_221 M_221 h_221 => ?_)
                have hck_221 := h_221.2.1
                have hlk_221 : lk M_221 fa ga (pl_F (pb (S_g S) w (S_g S 6))) := hlk_209.same (h_221.2.2 _ (by omega)) (h_221.2.2 _ (by omega))
                have hf_221 : (∀ x, X.1 x ≠ 0 → (x < o ∨ o + 249 ≤ x) → M_221 x = M x) := fun x x1 x2 => by rw [h_221.2.2 x x2]; exact hf_209 x x1 x2
                obtain rfl : r_221 = nI ((pl_F (pb (S_g S) w (S_g S 6))) tm) := by rw [h_221.1]; exact if_neg (by omega)
                refine cq_aload F dL_arePlans_224 rfl ?_
                refine cq_aload F dL_arePlans_226 rfl ?_
                refine cq_iload F dL_arePlans_228 rfl ?_
                refine cq_callS F (kL_fewest l D cA X1 Bs fa ga tm (pl_F (pb (S_g S) w (S_g S 6))) M_221 hfX hgX2 hlk_221 (by omega)) (va_cwS 3 F.1.2.2.2.2 gL_arePlans_L_fewest rfl rfl rfl hdVL_fewest.2 ⟨Nat.le_of_ble_eq_true rfl, Nat.le_of_ble_eq_true rfl⟩) rfl (Nat.le_of_ble_eq_true rfl) dL_arePlans_230 ⟨by show _ ≤ 12000; omega, by show _ ≤ 50000; omega⟩ (cq_kIp fun r_230 h_230 => ?_)
                subst h_230
                refine cq_icmp_ne F (tgt := 240) dL_arePlans_233 (by decide) (fun c_233 => ?_) (fun c_233 => ?_)
                · exact absurd rfl c_233
                · refine cq_iconst F (v := 1) dL_arePlans_236 rfl ?_
                  refine cq_goto F (tgt := 241) dL_arePlans_237 (by decide) ?_
                  refine cq_istore F dL_arePlans_241 (by decide) ?_
                  refine cq_iinc F dL_arePlans_243 rfl (by decide) (fun x_243 e_243 => ?_)
                  obtain rfl : x_243 = nI (told + 1) := by rw [e_243]; exact nI_1 _
                  refine cq_iinc F dL_arePlans_246 rfl (by decide) (fun x_246 e_246 => ?_)
                  obtain rfl : x_246 = nI (tm + 1) := by rw [e_246]; exact nI_1 _
                  refine cq_goto F (tgt := 167) dL_arePlans_249 (by decide) ?_
                  refine cq_widen (k := (8300 + 2 * (tm + 1))) (n := (24900 + 12 * (tm + 1))) (by omega) (by omega) ?_
                  refine cq_loc (L2 := [(0, .ref o), (1, .ref ta), (2, .ref na), (3, .int (nI w)), (4, .int (nI xq)), (7, .ref fa), (8, .ref ga), (9, .int (nI (told + 1))), (10, .int 1), (11, .int (nI (tm + 1)))]) rfl ?_
                  exact ih_167 X1 fa ga (told + 1) (tm + 1) M_221 hfX hgX2 hgX hltX hfg (by omega) (by omega) (by show _ = pl_cnt (pl_F (pb (S_g S) w (S_g S 6))) (tm + 1 - 1); rw [Nat.add_sub_cancel, pl_cnt_s ht1, if_neg (by omega), htd]) hlk_221 hck_221 hf_221 (by omega)
  have loop_65 : ∀ (n_65 : Nat) (X1 : cq_X) (qt fa ga code : Nat) (Y : Nat → Nat) (M2 : cq_M), lq_row X1 qt 3 → lq_row X1 fa 55 → lq_row X1 ga 55 → cq_ge X X1 → (∀ x, X.1 x ≠ 0 → x < qt) → qt < fa → fa < ga → code ≤ 4096 → cq_nv M2 qt 3 (fun k => (pb (S_g S) w (S_g S 6)) (1 + k)) → lk M2 fa ga Y → pl_P Y (fun t x => ∃ c, c < code ∧ lc_ok c ∧ lp_P (lc c) (pb (S_g S) w (S_g S 6)) 3 t x) → (∀ x, x < qt → M2 x = M x) → 4096 - code < n_65 → cq_V p9 l e9 rmL_arePlans s9 m9 ([.ref o, .ref ta, .ref na, .int (nI w), .int (nI xq)] : List Value).toArray b9 t9 c9 D cA X1 Bs 12 ((3 + 2 * code)) ((113 + 6 * code)) (MQ b9 (cq_Q D cA X Bs (cq_PI (fun rv M1 => rv = 1 ∧ ck M1 o S ∧ ∀ x, X.1 x ≠ 0 → (x < o ∨ o + 249 ≤ x) → M1 x = M x))) ([.ref o, .ref ta, .ref na, .int (nI w), .int (nI xq)] : List Value).toArray s9 12000 50000 (cq_A Bs)) 65 [(0, .ref o), (1, .ref ta), (2, .ref na), (3, .int (nI w)), (4, .int (nI xq)), (5, .ref qt), (7, .ref fa), (8, .ref ga), (9, .int (nI code))] [] M2 := by
    intro n_65
    induction n_65 with
    | zero =>
      intros
      omega
    | succ n_65 ih_65 =>
      intro X1 qt fa ga code Y M2 hqt hfX hgX2 hgX hltX hqf hfg hc9 hvq hlk hP hf2 hn65
      have htX := ht.ge hgX
      have hnX := hn0.ge hgX
      have hbX := hb.ge hgX
      refine cq_iload F dL_arePlans_65 rfl ?_
      refine cq_sipush F (v := 4096) dL_arePlans_67 (by decide) ?_
      refine cq_icmp_ge F (tgt := 158) dL_arePlans_70 (by decide) (fun c_70 => ?_) (fun c_70 => ?_)
      · have c_70 : 4096 ≤ code := (nI_b (a := 4096) (b := code) (by omega) (by omega)).1.mp c_70
        obtain rfl : code = 4096 := by omega
        have hY : Y = (pl_F (pb (S_g S) w (S_g S 6))) := lp_end hbeg hP
        subst hY
        refine cq_iconst F (v := 0) dL_arePlans_158 rfl ?_
        refine cq_istore F dL_arePlans_159 (by decide) ?_
        refine cq_iconst F (v := 1) dL_arePlans_161 rfl ?_
        refine cq_istore F dL_arePlans_162 (by decide) ?_
        refine cq_iconst F (v := 1) dL_arePlans_164 rfl ?_
        refine cq_istore F dL_arePlans_165 (by decide) ?_
        refine cq_widen (k := (8300 + 2 * 1)) (n := (24900 + 12 * 1)) (by omega) (by omega) ?_
        refine cq_loc (L2 := [(0, .ref o), (1, .ref ta), (2, .ref na), (3, .int (nI w)), (4, .int (nI xq)), (7, .ref fa), (8, .ref ga), (9, .int (nI 0)), (10, .int 1), (11, .int (nI 1))]) rfl ?_
        exact loop_167 1081 X1 fa ga 0 1 M2 hfX hgX2 hgX (fun x hx => by have := hltX x hx; omega) hfg (by omega) (by omega) rfl hlk (ck.far h hk (fun x x1 x2 => hf2 x (by have := hltX ta (by rw [ht.1]; decide); omega))) (fun x x1 x2 => hf2 x (hltX x x1)) (by omega)
      · have c_70 : ¬ 4096 ≤ code := fun z => c_70 ((nI_b (a := 4096) (b := code) (by omega) (by omega)).1.mpr z)
        refine cq_iload F dL_arePlans_73 rfl ?_
        refine cq_iconst F (v := 3) dL_arePlans_75 rfl ?_
        refine cq_iand F dL_arePlans_76 ?_
        rw [nI_and3]
        refine cq_iload F dL_arePlans_77 rfl ?_
        refine cq_iconst F (v := 2) dL_arePlans_79 rfl ?_
        refine cq_ishr F dL_arePlans_80 ?_
        refine cq_iconst F (v := 3) dL_arePlans_81 rfl ?_
        refine cq_iand F dL_arePlans_82 ?_
        rw [show ((nI code >>> ((2 : Int32) &&& 31)) &&& 3) = nI (code / 4 % 4) from sh_3 (j := 2) (by omega) (by omega)]
        refine cq_icmp_gt F (tgt := 123) dL_arePlans_83 (by decide) (fun c_83 => ?_) (fun c_83 => ?_)
        · have c_83 : (code / 4 % 4) < (code % 4) := (nI_b (a := (code / 4 % 4)) (b := (code % 4)) (by omega) (by omega)).2.1.mp c_83
          refine cq_iconst F (v := 0) dL_arePlans_123 rfl ?_
          refine cq_istore F dL_arePlans_124 (by decide) ?_
          refine cq_iload F dL_arePlans_126 rfl ?_
          refine cq_if_eq F (tgt := 152) dL_arePlans_128 (by decide) (fun c_128 => ?_) (fun c_128 => ?_)
          · have c_128 : 0 = 0 := (nI_b (a := 0) (b := 0) (by omega) (by omega)).2.2.mp c_128
            refine cq_iinc F dL_arePlans_152 rfl (by decide) (fun x_152 e_152 => ?_)
            obtain rfl : x_152 = nI (code + 1) := by rw [e_152]; exact nI_1 _
            refine cq_goto F (tgt := 65) dL_arePlans_155 (by decide) ?_
            refine cq_widen (k := (3 + 2 * (code + 1))) (n := (113 + 6 * (code + 1))) (by omega) (by omega) ?_
            refine cq_loc (L2 := [(0, .ref o), (1, .ref ta), (2, .ref na), (3, .int (nI w)), (4, .int (nI xq)), (5, .ref qt), (7, .ref fa), (8, .ref ga), (9, .int (nI (code + 1)))]) rfl ?_
            exact ih_65 X1 qt fa ga (code + 1) Y M2 hqt hfX hgX2 hgX hltX hqf hfg (by omega) hvq hlk ((lp_next hbeg hP).2 (fun z => by obtain ⟨z1, z2, z3⟩ := z; omega)) hf2 (by omega)
          · have c_128 : ¬ 0 = 0 := fun z => c_128 ((nI_b (a := 0) (b := 0) (by omega) (by omega)).2.2.mpr z)
            omega
        · have c_83 : ¬ (code / 4 % 4) < (code % 4) := fun z => c_83 ((nI_b (a := (code / 4 % 4)) (b := (code % 4)) (by omega) (by omega)).2.1.mpr z)
          refine cq_iload F dL_arePlans_86 rfl ?_
          refine cq_iconst F (v := 4) dL_arePlans_88 rfl ?_
          refine cq_ishr F dL_arePlans_89 ?_
          refine cq_iconst F (v := 3) dL_arePlans_90 rfl ?_
          refine cq_iand F dL_arePlans_91 ?_
          rw [show ((nI code >>> ((4 : Int32) &&& 31)) &&& 3) = nI (code / 16 % 4) from sh_3 (j := 4) (by omega) (by omega)]
          refine cq_iload F dL_arePlans_92 rfl ?_
          refine cq_bipush F (v := 6) dL_arePlans_94 (by decide) ?_
          refine cq_ishr F dL_arePlans_96 ?_
          refine cq_iconst F (v := 3) dL_arePlans_97 rfl ?_
          refine cq_iand F dL_arePlans_98 ?_
          rw [show ((nI code >>> ((6 : Int32) &&& 31)) &&& 3) = nI (code / 64 % 4) from sh_3 (j := 6) (by omega) (by omega)]
          refine cq_icmp_gt F (tgt := 123) dL_arePlans_99 (by decide) (fun c_99 => ?_) (fun c_99 => ?_)
          · have c_99 : (code / 64 % 4) < (code / 16 % 4) := (nI_b (a := (code / 64 % 4)) (b := (code / 16 % 4)) (by omega) (by omega)).2.1.mp c_99
            refine cq_iconst F (v := 0) dL_arePlans_123 rfl ?_
            refine cq_istore F dL_arePlans_124 (by decide) ?_
            refine cq_iload F dL_arePlans_126 rfl ?_
            refine cq_if_eq F (tgt := 152) dL_arePlans_128 (by decide) (fun c_128 => ?_) (fun c_128 => ?_)
            · have c_128 : 0 = 0 := (nI_b (a := 0) (b := 0) (by omega) (by omega)).2.2.mp c_128
              refine cq_iinc F dL_arePlans_152 rfl (by decide) (fun x_152 e_152 => ?_)
              obtain rfl : x_152 = nI (code + 1) := by rw [e_152]; exact nI_1 _
              refine cq_goto F (tgt := 65) dL_arePlans_155 (by decide) ?_
              refine cq_widen (k := (3 + 2 * (code + 1))) (n := (113 + 6 * (code + 1))) (by omega) (by omega) ?_
              refine cq_loc (L2 := [(0, .ref o), (1, .ref ta), (2, .ref na), (3, .int (nI w)), (4, .int (nI xq)), (5, .ref qt), (7, .ref fa), (8, .ref ga), (9, .int (nI (code + 1)))]) rfl ?_
              exact ih_65 X1 qt fa ga (code + 1) Y M2 hqt hfX hgX2 hgX hltX hqf hfg (by omega) hvq hlk ((lp_next hbeg hP).2 (fun z => by obtain ⟨z1, z2, z3⟩ := z; omega)) hf2 (by omega)
            · have c_128 : ¬ 0 = 0 := fun z => c_128 ((nI_b (a := 0) (b := 0) (by omega) (by omega)).2.2.mpr z)
              omega
          · have c_99 : ¬ (code / 64 % 4) < (code / 16 % 4) := fun z => c_99 ((nI_b (a := (code / 64 % 4)) (b := (code / 16 % 4)) (by omega) (by omega)).2.1.mpr z)
            refine cq_iload F dL_arePlans_102 rfl ?_
            refine cq_bipush F (v := 8) dL_arePlans_104 (by decide) ?_
            refine cq_ishr F dL_arePlans_106 ?_
            refine cq_iconst F (v := 3) dL_arePlans_107 rfl ?_
            refine cq_iand F dL_arePlans_108 ?_
            rw [show ((nI code >>> ((8 : Int32) &&& 31)) &&& 3) = nI (code / 256 % 4) from sh_3 (j := 8) (by omega) (by omega)]
            refine cq_iload F dL_arePlans_109 rfl ?_
            refine cq_bipush F (v := 10) dL_arePlans_111 (by decide) ?_
            refine cq_ishr F dL_arePlans_113 ?_
            refine cq_iconst F (v := 3) dL_arePlans_114 rfl ?_
            refine cq_iand F dL_arePlans_115 ?_
            rw [show ((nI code >>> ((10 : Int32) &&& 31)) &&& 3) = nI (code / 1024 % 4) from sh_3 (j := 10) (by omega) (by omega)]
            refine cq_icmp_gt F (tgt := 123) dL_arePlans_116 (by decide) (fun c_116 => ?_) (fun c_116 => ?_)
            · have c_116 : (code / 1024 % 4) < (code / 256 % 4) := (nI_b (a := (code / 1024 % 4)) (b := (code / 256 % 4)) (by omega) (by omega)).2.1.mp c_116
              refine cq_iconst F (v := 0) dL_arePlans_123 rfl ?_
              refine cq_istore F dL_arePlans_124 (by decide) ?_
              refine cq_iload F dL_arePlans_126 rfl ?_
              refine cq_if_eq F (tgt := 152) dL_arePlans_128 (by decide) (fun c_128 => ?_) (fun c_128 => ?_)
              · have c_128 : 0 = 0 := (nI_b (a := 0) (b := 0) (by omega) (by omega)).2.2.mp c_128
                refine cq_iinc F dL_arePlans_152 rfl (by decide) (fun x_152 e_152 => ?_)
                obtain rfl : x_152 = nI (code + 1) := by rw [e_152]; exact nI_1 _
                refine cq_goto F (tgt := 65) dL_arePlans_155 (by decide) ?_
                refine cq_widen (k := (3 + 2 * (code + 1))) (n := (113 + 6 * (code + 1))) (by omega) (by omega) ?_
                refine cq_loc (L2 := [(0, .ref o), (1, .ref ta), (2, .ref na), (3, .int (nI w)), (4, .int (nI xq)), (5, .ref qt), (7, .ref fa), (8, .ref ga), (9, .int (nI (code + 1)))]) rfl ?_
                exact ih_65 X1 qt fa ga (code + 1) Y M2 hqt hfX hgX2 hgX hltX hqf hfg (by omega) hvq hlk ((lp_next hbeg hP).2 (fun z => by obtain ⟨z1, z2, z3⟩ := z; omega)) hf2 (by omega)
              · have c_128 : ¬ 0 = 0 := fun z => c_128 ((nI_b (a := 0) (b := 0) (by omega) (by omega)).2.2.mpr z)
                omega
            · have c_116 : ¬ (code / 1024 % 4) < (code / 256 % 4) := fun z => c_116 ((nI_b (a := (code / 1024 % 4)) (b := (code / 256 % 4)) (by omega) (by omega)).2.1.mpr z)
              refine cq_iconst F (v := 1) dL_arePlans_119 rfl ?_
              refine cq_goto F (tgt := 124) dL_arePlans_120 (by decide) ?_
              refine cq_istore F dL_arePlans_124 (by decide) ?_
              refine cq_iload F dL_arePlans_126 rfl ?_
              refine cq_if_eq F (tgt := 152) dL_arePlans_128 (by decide) (fun c_128 => ?_) (fun c_128 => ?_)
              · have c_128 : 1 = 0 := (nI_b (a := 1) (b := 0) (by omega) (by omega)).2.2.mp c_128
                omega
              · have c_128 : ¬ 1 = 0 := fun z => c_128 ((nI_b (a := 1) (b := 0) (by omega) (by omega)).2.2.mpr z)
                refine cq_aload F dL_arePlans_131 rfl ?_
                refine cq_iconst F (v := 0) dL_arePlans_133 rfl ?_
                refine cq_iald_j F (j := 0) hqt.1 hqt.2 rfl ⟨(by omega), by decide⟩ dL_arePlans_134 ?_
                rw [(show M2 qt 0 = nI ((pb (S_g S) w (S_g S 6)) 1) from hvq 0 (by omega))]
                refine cq_aload F dL_arePlans_135 rfl ?_
                refine cq_iconst F (v := 1) dL_arePlans_137 rfl ?_
                refine cq_iald_j F (j := 1) hqt.1 hqt.2 rfl ⟨(by omega), by decide⟩ dL_arePlans_138 ?_
                rw [(show M2 qt 1 = nI ((pb (S_g S) w (S_g S 6)) 2) from hvq 1 (by omega))]
                refine cq_aload F dL_arePlans_139 rfl ?_
                refine cq_iconst F (v := 2) dL_arePlans_141 rfl ?_
                refine cq_iald_j F (j := 2) hqt.1 hqt.2 rfl ⟨(by omega), by decide⟩ dL_arePlans_142 ?_
                rw [(show M2 qt 2 = nI ((pb (S_g S) w (S_g S 6)) 3) from hvq 2 (by omega))]
                refine cq_iload F dL_arePlans_143 rfl ?_
                refine cq_aload F dL_arePlans_145 rfl ?_
                refine cq_aload F dL_arePlans_147 rfl ?_
                refine cq_callS F (kL_plan l D cA X1 Bs code fa ga Y (pb (S_g S) w (S_g S 6)) M2 hfX hgX2 hlk hfg hbeg (by omega)) (va_cwS 6 F.1.2.2.2.2 gL_arePlans_L_plan rfl rfl rfl hdVL_plan.2 ⟨Nat.le_of_ble_eq_true rfl, Nat.le_of_ble_eq_true rfl⟩) rfl (Nat.le_of_ble_eq_true rfl) dL_arePlans_149 ⟨by show _ ≤ 12000; omega, by show _ ≤ 50000; omega⟩ (cq_kV fun M_149 h_149 => ?_)
                refine cq_iinc F dL_arePlans_152 rfl (by decide) (fun x_152 e_152 => ?_)
                obtain rfl : x_152 = nI (code + 1) := by rw [e_152]; exact nI_1 _
                refine cq_goto F (tgt := 65) dL_arePlans_155 (by decide) ?_
                refine cq_widen (k := (3 + 2 * (code + 1))) (n := (113 + 6 * (code + 1))) (by omega) (by omega) ?_
                refine cq_loc (L2 := [(0, .ref o), (1, .ref ta), (2, .ref na), (3, .int (nI w)), (4, .int (nI xq)), (5, .ref qt), (7, .ref fa), (8, .ref ga), (9, .int (nI (code + 1)))]) rfl ?_
                exact ih_65 X1 qt fa ga (code + 1) _ M_149 hqt hfX hgX2 hgX hltX hqf hfg (by omega) (hvq.same (fun j => congrFun (h_149.2 _ (by omega) (by omega)) j)) h_149.1 ((lp_next hbeg hP).1 ⟨by omega, by omega, by omega⟩) (fun x hx => by rw [h_149.2 x (by omega) (by omega)]; exact hf2 x hx) (by omega)
  have loop_11 : ∀ (n_11 : Nat) (X1 : cq_X) (qt i mn : Nat) (M2 : cq_M), lq_row X1 qt 3 → cq_ge X X1 → (∀ x, X.1 x ≠ 0 → x < qt) → i ≤ S_g S 6 → mn = pb_m w i → cq_nv M2 qt 3 (fun k => pb (S_g S) w i (1 + k)) → (∀ x, x < qt → M2 x = M x) → S_g S 6 - i < n_11 → cq_V p9 l e9 rmL_arePlans s9 m9 ([.ref o, .ref ta, .ref na, .int (nI w), .int (nI xq)] : List Value).toArray b9 t9 c9 D cA X1 Bs 12 (1) (3) (MQ b9 (cq_Q D cA X Bs (cq_PI (fun rv M1 => rv = 1 ∧ ck M1 o S ∧ ∀ x, X.1 x ≠ 0 → (x < o ∨ o + 249 ≤ x) → M1 x = M x))) ([.ref o, .ref ta, .ref na, .int (nI w), .int (nI xq)] : List Value).toArray s9 12000 50000 (cq_A Bs)) 11 [(0, .ref o), (1, .ref ta), (2, .ref na), (3, .int (nI w)), (4, .int (nI xq)), (5, .ref qt), (6, .int (nI mn)), (7, .int (nI i))] [] M2 := by
    intro n_11
    induction n_11 with
    | zero =>
      intros
      omega
    | succ n_11 ih_11 =>
      intro X1 qt i mn M2 hqt hgX hltX hi hmn hvq hf2 hn11
      have htX := ht.ge hgX
      have hnX := hn0.ge hgX
      have hbX := hb.ge hgX
      have hvt2 : cq_nv M2 ta 24 t := hvt.same (fun j => congrFun (hf2 _ (hltX ta (by rw [ht.1]; decide))) j)
      have hmn4 : mn ≤ 4 := by rw [hmn]; exact Nat.le_trans (pb_m_mono (show i ≤ 4 by omega)) (pb_4 w hw16)
      refine cq_iload F dL_arePlans_11 rfl ?_
      refine cq_aload_n F (i := 2) dL_arePlans_13 rfl rfl ?_
      refine cq_bipush F (v := 6) dL_arePlans_14 (by decide) ?_
      refine cq_iald_j F (j := 6) hnX.1 hnX.2 rfl ⟨(by omega), by decide⟩ dL_arePlans_16 ?_
      rw [(show M2 na 6 = nI (S_g S 6) by rw [hf2 na (hltX na (by rw [hn0.1]; decide)), hvn _ (by omega), n6])]
      refine cq_icmp_ge F (tgt := 50) dL_arePlans_17 (by decide) (fun c_17 => ?_) (fun c_17 => ?_)
      · have c_17 : (S_g S 6) ≤ i := (nI_b (a := (S_g S 6)) (b := i) (by omega) (by omega)).1.mp c_17
        obtain rfl : i = S_g S 6 := by omega
        refine cq_bipush F (v := 55) dL_arePlans_50 (by decide) ?_
        refine cq_newI F (N := 55) (F.1.2.2.2.2 _ (List.mem_of_getElem? (l := wsL_arePlans) (i := 1) (a := .arrayClass .int) (by decide +kernel))) rfl (by decide) ⟨by show _ ≤ 12000; omega, by show _ ≤ 50000; omega⟩ dL_arePlans_52 (fun q_52 X_52 M_52 hlt_52 hge_52 hrw_52 hM_52 hz_52 hlt2_52 => ?_)
        have l52 : qt < q_52 := hlt_52 _ (by rw [hqt.1]; decide)
        have hgX := hgX.trans hge_52
        have hqt := hqt.ge hge_52
        have v_52_qt := hvq.same (fun j => congrFun (hM_52 _ (by omega)) j)
        refine cq_astore F dL_arePlans_54 (by decide) ?_
        refine cq_bipush F (v := 55) dL_arePlans_56 (by decide) ?_
        refine cq_newI F (N := 55) (F.1.2.2.2.2 _ (List.mem_of_getElem? (l := wsL_arePlans) (i := 1) (a := .arrayClass .int) (by decide +kernel))) rfl (by decide) ⟨by show _ ≤ 12000; omega, by show _ ≤ 50000; omega⟩ dL_arePlans_58 (fun q_58 X_58 M_58 hlt_58 hge_58 hrw_58 hM_58 hz_58 hlt2_58 => ?_)
        have l58 : q_52 < q_58 := hlt_58 _ (by rw [hrw_52.1]; decide)
        have hgX := hgX.trans hge_58
        have hqt := hqt.ge hge_58
        have hrw_52 := lq_row.ge hrw_52 hge_58
        have v_58_qt := v_52_qt.same (fun j => congrFun (hM_58 _ (by omega)) j)
        have v_58_q_52 := hz_52.same (fun j => congrFun (hM_58 _ (by omega)) j)
        refine cq_astore F dL_arePlans_60 (by decide) ?_
        refine cq_iconst F (v := 0) dL_arePlans_62 rfl ?_
        refine cq_istore F dL_arePlans_63 (by decide) ?_
        refine cq_widen (k := (3 + 2 * 0)) (n := (113 + 6 * 0)) (by omega) (by omega) ?_
        refine cq_loc (L2 := [(0, .ref o), (1, .ref ta), (2, .ref na), (3, .int (nI w)), (4, .int (nI xq)), (5, .ref qt), (7, .ref q_52), (8, .ref q_58), (9, .int (nI 0))]) rfl ?_
        exact loop_65 4097 X_58 qt q_52 q_58 0 (fun _ => 0) M_58 hqt hrw_52 hrw_58 hgX hltX l52 l58 (by omega) (hvq.same (fun j => congrFun ((hM_58 _ (by omega)).trans (hM_52 _ (by omega))) j)) (lk.zero (hz_52.same (fun j => congrFun (hM_58 _ (by omega)) j)) hz_58) (fun t => Or.inl ⟨rfl, fun x ⟨c, hc, _⟩ => absurd hc (by omega)⟩) (fun x hx => by rw [hM_58 x (by omega), hM_52 x (by omega)]; exact hf2 x hx) (by omega)
      · have c_17 : ¬ (S_g S 6) ≤ i := fun z => c_17 ((nI_b (a := (S_g S 6)) (b := i) (by omega) (by omega)).1.mpr z)
        have hi9 : i < S_g S 6 := by omega
        have hTm := hrel.time hk.1 hi9
        have hTt := (hk.1.2.2.2.1 i hi9).time
        refine cq_iload_n F (i := 3) dL_arePlans_20 rfl rfl ?_
        refine cq_iload F dL_arePlans_21 rfl ?_
        refine cq_ishr F dL_arePlans_23 ?_
        refine cq_iconst F (v := 1) dL_arePlans_24 rfl ?_
        refine cq_iand F dL_arePlans_25 ?_
        rw [(nI_set i (by omega) w hw16).2]
        refine cq_iconst F (v := 1) dL_arePlans_26 rfl ?_
        refine cq_icmp_ne F (tgt := 44) dL_arePlans_27 (by decide) (fun c_27 => ?_) (fun c_27 => ?_)
        · have c_27 : ¬ (w / 2 ^ i % 2) = 1 := fun z => c_27 ((nI_b (a := (w / 2 ^ i % 2)) (b := 1) (by omega) (by omega)).2.2.mpr z)
          refine cq_iinc F dL_arePlans_44 rfl (by decide) (fun x_44 e_44 => ?_)
          obtain rfl : x_44 = nI (i + 1) := by rw [e_44]; exact nI_1 _
          refine cq_goto F (tgt := 11) dL_arePlans_47 (by decide) ?_
          refine cq_widen (k := 1) (n := 3) (by omega) (by omega) ?_
          refine cq_loc (L2 := [(0, .ref o), (1, .ref ta), (2, .ref na), (3, .int (nI w)), (4, .int (nI xq)), (5, .ref qt), (6, .int (nI mn)), (7, .int (nI (i + 1)))]) rfl ?_
          exact ih_11 X1 qt (i + 1) mn M2 hqt hgX hltX (by omega) (by rw [hmn]; show _ = pb_m w i + w / 2 ^ i % 2; omega) (hvq.ext (fun j hj => by show _ = (if w / 2 ^ i % 2 = 1 then ns_up (pb (S_g S) w i) (1 + pb_m w i) (ns_time (S_g S) i) else pb (S_g S) w i) (1 + j); rw [if_neg (by omega)])) hf2 (by omega)
        · have c_27 : (w / 2 ^ i % 2) = 1 := (nI_b (a := (w / 2 ^ i % 2)) (b := 1) (by omega) (by omega)).2.2.mp c_27
          have hmn9 : mn ≤ 2 := by
            have z := pb_m_mono (w := w) (show i + 1 ≤ 4 by omega)
            have z2 : pb_m w (i + 1) = pb_m w i + w / 2 ^ i % 2 := rfl
            omega
          refine cq_aload F dL_arePlans_30 rfl ?_
          refine cq_iload F dL_arePlans_32 rfl ?_
          refine cq_aload_n F (i := 1) dL_arePlans_34 rfl rfl ?_
          refine cq_iload F dL_arePlans_35 rfl ?_
          refine cq_callS F (kL_time l D cA X1 Bs ta i t M2 htX hvt2 (by omega)) (va_cwS 2 F.1.2.2.2.2 gL_arePlans_L_time rfl rfl rfl hdVL_time.2 ⟨Nat.le_of_ble_eq_true rfl, Nat.le_of_ble_eq_true rfl⟩) rfl (Nat.le_of_ble_eq_true rfl) dL_arePlans_37 ⟨by show _ ≤ 12000; omega, by show _ ≤ 50000; omega⟩ (cq_kIp fun r_37 h_37 => ?_)
          rw [hTm] at h_37
          subst h_37
          refine cq_iast_j F (j := mn) hqt.1 hqt.2 rfl ⟨(by omega), by decide⟩ dL_arePlans_40 (fun M_40 h_40 => ?_)
          obtain ⟨g_40, eg_40⟩ : ∃ z, z = ns_up (fun k => pb (S_g S) w i (1 + k)) (mn) ((ns_time (S_g S) i)) := ⟨_, rfl⟩
          have v_40_qt : cq_nv M_40 qt 3 g_40 := by rw [eg_40]; exact hvq.up h_40
          refine cq_iinc F dL_arePlans_41 rfl (by decide) (fun x_41 e_41 => ?_)
          obtain rfl : x_41 = nI (mn + 1) := by rw [e_41]; exact nI_1 _
          refine cq_iinc F dL_arePlans_44 rfl (by decide) (fun x_44 e_44 => ?_)
          obtain rfl : x_44 = nI (i + 1) := by rw [e_44]; exact nI_1 _
          refine cq_goto F (tgt := 11) dL_arePlans_47 (by decide) ?_
          refine cq_widen (k := 1) (n := 3) (by omega) (by omega) ?_
          refine cq_loc (L2 := [(0, .ref o), (1, .ref ta), (2, .ref na), (3, .int (nI w)), (4, .int (nI xq)), (5, .ref qt), (6, .int (nI (mn + 1))), (7, .int (nI (i + 1)))]) rfl ?_
          exact ih_11 X1 qt (i + 1) (mn + 1) M_40 hqt hgX hltX (by omega) (by rw [hmn]; show _ = pb_m w i + w / 2 ^ i % 2; omega) (v_40_qt.ext (fun j hj => by rw [eg_40]; exact pb_row (by omega) hmn)) (fun x hx => by rw [h_40, cq_up_row (by omega)]; exact hf2 x hx) (by omega)
  refine cq_iconst F (v := 3) dL_arePlans_0 rfl ?_
  refine cq_newI F (N := 3) (F.1.2.2.2.2 _ (List.mem_of_getElem? (l := wsL_arePlans) (i := 1) (a := .arrayClass .int) (by decide +kernel))) rfl (by decide) ⟨by show _ ≤ 12000; omega, by show _ ≤ 50000; omega⟩ dL_arePlans_1 (fun q_1 X_1 M_1 hlt_1 hge_1 hrw_1 hM_1 hz_1 hlt2_1 => ?_)
  have l1 : na < q_1 := hlt_1 _ (by rw [hn0.1]; decide)
  refine cq_astore F dL_arePlans_3 (by decide) ?_
  refine cq_iconst F (v := 0) dL_arePlans_5 rfl ?_
  refine cq_istore F dL_arePlans_6 (by decide) ?_
  refine cq_iconst F (v := 0) dL_arePlans_8 rfl ?_
  refine cq_istore F dL_arePlans_9 (by decide) ?_
  refine cq_widen (k := 1) (n := 3) (by omega) (by omega) ?_
  refine cq_loc (L2 := [(0, .ref o), (1, .ref ta), (2, .ref na), (3, .int (nI w)), (4, .int (nI xq)), (5, .ref q_1), (6, .int (nI 0)), (7, .int (nI 0))]) rfl ?_
  exact loop_11 5 X_1 q_1 0 0 M_1 hrw_1 hge_1 hlt_1 (by omega) rfl (hz_1.ext (fun j hj => rfl)) (fun x hx => hM_1 x hx) (by omega)
theorem hdVL_arePlans : yL_arePlans.cls = RL ∧ yL_arePlans.cls ≠ "java/lang/invoke/MethodHandle" ∧ yL_arePlans.cls ≠ "java/lang/invoke/VarHandle" ∧ (parseMethodDescriptor yL_arePlans.desc).map (fun d => d.parameters.length) = some 5 := by decide +kernel
