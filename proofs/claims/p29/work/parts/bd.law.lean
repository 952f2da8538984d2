/-! the law's walk -/
theorem pl_all0 : pl_all (fun _ => 0) = [] := List.eq_nil_of_length_eq_zero (by decide +kernel)
theorem pl_F0 : pl_F (fun _ => 0) = fun _ => 0 := by
  have h1 : pl_1 (fun _ => 0) = [] := pl_all0
  have h2 : pl_2 (fun _ => 0) = [] := by unfold pl_2; rw [h1]; rfl
  have h3 : pl_3 (fun _ => 0) = [] := by unfold pl_3; rw [h2]; rfl
  unfold pl_F
  rw [h1, h2, h3]
  rfl
theorem pl_cnt0 : ∀ n, pl_cnt (fun _ => 0) n = 0
  | 0 => rfl
  | n + 1 => by
    show pl_cnt (fun _ => 0) n + (if (0 : Nat) = 0 then 0 else 1) = 0
    rw [pl_cnt0 n]
    rfl
theorem w9_tell0 : op_rank (pl_F (pb (S_g w9_S) 0 (S_g w9_S 6))) (-1) = 0 := by
  have h1 : pb (S_g w9_S) 0 (S_g w9_S 6) = fun _ => 0 := rfl
  rw [h1, pl_F0]
  unfold op_rank
  rw [if_pos rfl, pl_cnt0]
  rfl
theorem w9_1023 (x : Int32) : ∃ k : Nat, k < 1024 ∧ (x &&& 1023) = nI k := by
  refine ⟨(x &&& 1023).toBitVec.toNat, ?_, ?_⟩
  · have e9 : (x &&& 1023).toBitVec = x.toBitVec &&& 1023#32 := by simp
    rw [e9, BitVec.toNat_and]
    exact Nat.lt_of_le_of_lt Nat.and_le_right (by decide)
  · apply Int32.toBitVec_inj.mp
    show _ = BitVec.ofNat 32 _
    simp
theorem w9_pm : ∀ w, w < 15 → pb_m w 4 ≤ 3 := by decide +kernel
section CQL
variable {p : Program} {l : Launch} {e : Env} {s : State} {m : MethodId} {args : Array Value} {below : List Frame} {meth : Method} {c : Code} {D : va_G} {cA : Nat → ClassId} {X : cq_X} {Bs cells slots : Nat} {Q : State → Prop} {M : cq_M}
/-- the relation of the law's rows to the clock -/
def w9_J (M : cq_M) (o ta ca ra na ba B : Nat) : Prop := ∃ S : as_T, ck M o S ∧ as_ok S B ∧ lst M ta ca ra na ba (S_g S 1) (S_g S) ∧ 1 ≤ S_g S 6
set_option maxRecDepth 100000 in
set_option maxHeartbeats 8000000 in
theorem w9_first (hl : l.stackTraces = false) {b0 N0 o ta ca ra na ba : Nat} {xs : Nat → Int32} (F : cq_F p s m args meth c D cA Bs 10 cL_law RL wsL_law) (hX : va_X b0 N0 xs s s.heap) (hbs : b0 < s.heap.size ∧ b0 < Bs) (hN0 : N0 ≤ 260) (hb : cq_isClock X o) (ha : la X ta ca ra na ba) (ho : o + 249 ≤ ta) (h : ck M o w9_S) (hm : lm M ta ca ra na ba (fun _ => 0) (fun _ => 0) (fun _ => 0) (fun _ => 0) (fun _ => 0))
    (k : ∀ M1 : cq_M, w9_J M1 o ta ca ra na ba 200 → cq_V p l e room_1 s m args below meth c D cA X Bs 10 1000 9000 Q 95 [(0, .ref b0), (1, .ref o), (2, .ref ta), (3, .ref ca), (4, .ref ra), (5, .ref na), (6, .ref ba), (7, .int 1), (8, .int (nI 0))] [] M1) : cq_V p l e room_1 s m args below meth c D cA X Bs 10 300 2800 Q 36 [(0, .ref b0), (1, .ref o), (2, .ref ta), (3, .ref ca), (4, .ref ra), (5, .ref na), (6, .ref ba)] [] M := by
  have hlr := w9_lr0
  refine cq_aload_n F (i := 1) dL_law_36 rfl rfl ?_
  refine cq_aload_n F (i := 2) dL_law_37 rfl rfl ?_
  refine cq_aload_n F (i := 3) dL_law_38 rfl rfl ?_
  refine cq_aload F (i := 5) dL_law_39 rfl ?_
  refine cq_callS F (kL_areCords l D cA X Bs hl o ta ca na 0 _ _ _ _ _ w9_S M ha.1 ha.2.1 ha.2.2.2.1 hm.1 hm.2.1 hm.2.2.2.1 hb h w9_as hlr (by decide)) (va_cwS 4 F.1.2.2.2.2 gL_law_L_areCords rfl rfl rfl hdVL_areCords.2 ⟨Nat.le_of_ble_eq_true rfl, Nat.le_of_ble_eq_true rfl⟩) rfl (Nat.le_of_ble_eq_true rfl) dL_law_41 ⟨Nat.le_of_ble_eq_true rfl, Nat.le_of_ble_eq_true rfl⟩ (cq_kI fun r_41 M_41 h_41 => ?_)
  obtain ⟨rfl, rfl⟩ := h_41
  refine cq_if_eq F (tgt := 89) dL_law_44 (by decide) (fun z => absurd z (by decide)) (fun _ => ?_)
  refine cq_aload_n F (i := 1) dL_law_47 rfl rfl ?_
  refine cq_aload F (i := 4) dL_law_48 rfl ?_
  refine cq_aload F (i := 5) dL_law_50 rfl ?_
  refine cq_aload F (i := 6) dL_law_52 rfl ?_
  refine cq_callS F (kL_isBook l D cA X Bs hl o ra na ba 0 _ _ _ _ _ w9_S _ ha.2.2.1 ha.2.2.2.1 ha.2.2.2.2.1 hm.2.2.1 hm.2.2.2.1 hm.2.2.2.2 hb h w9_as hlr (by decide)) (va_cwS 4 F.1.2.2.2.2 gL_law_L_isBook rfl rfl rfl hdVL_isBook.2 ⟨Nat.le_of_ble_eq_true rfl, Nat.le_of_ble_eq_true rfl⟩) rfl (Nat.le_of_ble_eq_true rfl) dL_law_54 ⟨Nat.le_of_ble_eq_true rfl, Nat.le_of_ble_eq_true rfl⟩ (cq_kI fun r_54 M_54 h_54 => ?_)
  obtain ⟨rfl, rfl⟩ := h_54
  refine cq_if_eq F (tgt := 89) dL_law_57 (by decide) (fun z => absurd z (by decide)) (fun _ => ?_)
  refine cq_aload_n F (i := 1) dL_law_60 rfl rfl ?_
  refine cq_iconst F (v := 0) dL_law_61 rfl ?_
  refine cq_iconst F (v := -1) dL_law_62 rfl ?_
  refine cq_callV F (C := RX6) (ci := 7) (st := []) (As := [.int (nI 0), .int (-1)]) (nq_tell (l := l) (D := D) (cA := cA) (Bs := Bs) hl hb h w9_as 0 (by decide) (by decide) (-1) (by decide)) (cwV 2 F.1.2.2.2.2 gL_law_X6_tellable rfl rfl rfl hdVX6_tellable ⟨Nat.le_of_ble_eq_true rfl, Nat.le_of_ble_eq_true rfl⟩) hb.kind ⟨by decide, by decide⟩ rfl rfl rfl (Nat.le_of_ble_eq_true rfl) dL_law_63 ⟨Nat.le_of_ble_eq_true rfl, Nat.le_of_ble_eq_true rfl⟩ (cq_kI fun r_63 M_63 h_63 => ?_)
  obtain ⟨rfl, hck, hfr⟩ := h_63
  rw [w9_tell0]
  refine cq_if_ne F (tgt := 89) dL_law_66 (by decide) (fun z => absurd rfl z) (fun _ => ?_)
  have hm2 : lm M_63 ta ca ra na ba (fun _ => 0) (fun _ => 0) (fun _ => 0) (fun _ => 0) (fun _ => 0) := hm.same (fun x hx => hfr x (by obtain ⟨-, -, -, -, -, d1, d2, d3, d4⟩ := ha; omega))
  refine cq_aload_n F (i := 1) dL_law_69 rfl rfl ?_
  refine cq_aload_n F (i := 2) dL_law_70 rfl rfl ?_
  refine cq_aload_n F (i := 3) dL_law_71 rfl rfl ?_
  refine cq_aload F (i := 5) dL_law_72 rfl ?_
  refine cq_aload_n F (i := 0) dL_law_74 rfl rfl ?_
  refine cq_iconst F (v := 0) dL_law_75 rfl ?_
  refine cq_callC F (j := 0) hX hbs (by decide) (by omega) (va_cwS 2 F.1.2.2.2.2 gL_law_L_cell rfl rfl rfl hdVL_cell.2 ⟨Nat.le_of_ble_eq_true rfl, Nat.le_of_ble_eq_true rfl⟩) (Nat.le_of_ble_eq_true rfl) dL_law_76 ⟨Nat.le_of_ble_eq_true rfl, Nat.le_of_ble_eq_true rfl⟩ (fun x => ?_)
  refine cq_callS F (kL_adds l D cA X Bs hl o ta ca ra na ba 0 x _ _ _ _ _ w9_S M_63 ha hm2 hb hck w9_as hlr (by decide) ho) (va_cwS 5 F.1.2.2.2.2 gL_law_L_adds rfl rfl rfl hdVL_adds.2 ⟨Nat.le_of_ble_eq_true rfl, Nat.le_of_ble_eq_true rfl⟩) rfl (Nat.le_of_ble_eq_true rfl) dL_law_79 ⟨Nat.le_of_ble_eq_true rfl, Nat.le_of_ble_eq_true rfl⟩ (cq_kI fun r_79 M_79 h_79 => ?_)
  obtain ⟨rfl, hP⟩ := h_79
  refine cq_if_eq F (tgt := 89) dL_law_82 (by decide) (fun z => absurd z (by decide)) (fun _ => ?_)
  refine cq_iconst F (v := 1) dL_law_85 rfl ?_
  refine cq_goto F (tgt := 90) dL_law_86 (by decide) ?_
  refine cq_istore F dL_law_90 (by decide) ?_
  refine cq_iconst F (v := 0) dL_law_92 rfl ?_
  refine cq_istore F dL_law_93 (by decide) ?_
  refine cq_loc (L2 := [(0, .ref b0), (1, .ref o), (2, .ref ta), (3, .ref ca), (4, .ref ra), (5, .ref na), (6, .ref ba), (7, .int 1), (8, .int (nI 0))]) rfl ?_
  refine cq_widen (k := 1000) (n := 9000) (Nat.le_of_ble_eq_true rfl) (Nat.le_of_ble_eq_true rfl) ?_
  exact k M_79 hP
/-- behind a turn's acts: all is held against all -/
theorem w9_turn (hl : l.stackTraces = false) {b0 o ta ca ra na ba B tu : Nat} {x : Int32} (F : cq_F p s m args meth c D cA Bs 10 cL_law RL wsL_law) (hb : cq_isClock X o) (ha : la X ta ca ra na ba) (ho : o + 249 ≤ ta) (hB : B ≤ 9999) (hcs : cells ≤ 600000 ∧ slots ≤ 4000000) (hJ : w9_J M o ta ca ra na ba B)
    (k : ∀ M1 : cq_M, w9_J M1 o ta ca ra na ba B → cq_V p l e room_1 s m args below meth c D cA X Bs 10 (cells + 12640) (slots + 55700) Q 256 [(0, .ref b0), (1, .ref o), (2, .ref ta), (3, .ref ca), (4, .ref ra), (5, .ref na), (6, .ref ba), (7, .int 1), (8, .int (nI tu)), (9, .int x)] [.int 1] M1) : cq_V p l e room_1 s m args below meth c D cA X Bs 10 cells slots Q 154 [(0, .ref b0), (1, .ref o), (2, .ref ta), (3, .ref ca), (4, .ref ra), (5, .ref na), (6, .ref ba), (7, .int 1), (8, .int (nI tu)), (9, .int x)] [] M := by
  obtain ⟨S, h, hk, ⟨t, c9, r, n, b, hm, hlr⟩, h61⟩ := hJ
  have h6 := hk.1.1
  refine cq_aload_n F (i := 1) dL_law_154 rfl rfl ?_
  refine cq_aload_n F (i := 2) dL_law_155 rfl rfl ?_
  refine cq_aload_n F (i := 3) dL_law_156 rfl rfl ?_
  refine cq_aload F (i := 5) dL_law_157 rfl ?_
  refine cq_callS F (kL_areCords l D cA X Bs hl o ta ca na B t c9 r n b S M ha.1 ha.2.1 ha.2.2.2.1 hm.1 hm.2.1 hm.2.2.2.1 hb h hk hlr (by omega)) (va_cwS 4 F.1.2.2.2.2 gL_law_L_areCords rfl rfl rfl hdVL_areCords.2 ⟨Nat.le_of_ble_eq_true rfl, Nat.le_of_ble_eq_true rfl⟩) rfl (Nat.le_of_ble_eq_true rfl) dL_law_159 ⟨by show _ ≤ 1048577; omega, by show _ ≤ 5955736; omega⟩ (cq_kI fun r_41 M_41 h_41 => ?_)
  obtain ⟨rfl, rfl⟩ := h_41
  refine cq_if_eq F (tgt := 255) dL_law_162 (by decide) (fun z => absurd z (by decide)) (fun _ => ?_)
  refine cq_aload_n F (i := 1) dL_law_165 rfl rfl ?_
  refine cq_aload F (i := 4) dL_law_166 rfl ?_
  refine cq_aload F (i := 5) dL_law_168 rfl ?_
  refine cq_aload F (i := 6) dL_law_170 rfl ?_
  refine cq_callS F (kL_isBook l D cA X Bs hl o ra na ba B t c9 r n b S _ ha.2.2.1 ha.2.2.2.1 ha.2.2.2.2.1 hm.2.2.1 hm.2.2.2.1 hm.2.2.2.2 hb h hk hlr hB) (va_cwS 4 F.1.2.2.2.2 gL_law_L_isBook rfl rfl rfl hdVL_isBook.2 ⟨Nat.le_of_ble_eq_true rfl, Nat.le_of_ble_eq_true rfl⟩) rfl (Nat.le_of_ble_eq_true rfl) dL_law_172 ⟨by show _ ≤ 1048577; omega, by show _ ≤ 5955736; omega⟩ (cq_kI fun r_54 M_54 h_54 => ?_)
  obtain ⟨rfl, rfl⟩ := h_54
  refine cq_if_eq F (tgt := 255) dL_law_175 (by decide) (fun z => absurd z (by decide)) (fun _ => ?_)
  refine cq_aload_n F (i := 1) dL_law_178 rfl rfl ?_
  refine cq_aload_n F (i := 2) dL_law_179 rfl rfl ?_
  refine cq_aload_n F (i := 3) dL_law_180 rfl rfl ?_
  refine cq_aload F (i := 4) dL_law_181 rfl ?_
  refine cq_aload F (i := 5) dL_law_183 rfl ?_
  refine cq_aload F (i := 6) dL_law_185 rfl ?_
  refine cq_callS F (kL_would l D cA X Bs hl o ta ca ra na ba B t c9 r n b S _ ha hm hb h hk hlr hB ho) (va_cwS 6 F.1.2.2.2.2 gL_law_L_would rfl rfl rfl hdVL_would.2 ⟨Nat.le_of_ble_eq_true rfl, Nat.le_of_ble_eq_true rfl⟩) rfl (Nat.le_of_ble_eq_true rfl) dL_law_187 ⟨by show _ ≤ 1048577; omega, by show _ ≤ 5955736; omega⟩ (cq_kI fun r_87 M_87 h_87 => ?_)
  obtain ⟨rfl, hck, hm2⟩ := h_87
  refine cq_if_eq F (tgt := 255) dL_law_190 (by decide) (fun z => absurd z (by decide)) (fun _ => ?_)
  refine cq_iload F dL_law_193 rfl ?_
  refine cq_bipush F (v := 14) dL_law_195 (by decide) ?_
  refine cq_irem F dL_law_197 (by decide) ?_
  refine cq_bipush F (v := 13) dL_law_198 (by decide) ?_
  refine cq_icmp_ne F (tgt := 251) dL_law_200 (by decide) (fun _ => ?_) (fun _ => ?_)
  · refine cq_iconst F (v := 1) dL_law_251 rfl ?_
    refine cq_goto F (tgt := 256) dL_law_252 (by decide) ?_
    refine cq_widen (k := cells + 12640) (n := slots + 55700) (by omega) (by omega) ?_
    exact k M_87 ⟨S, hck, hk, ⟨t, c9, r, n, b, hm2, hlr⟩, h61⟩
  have n6 : n 6 = S_g S 6 := by
    obtain ⟨n0, n1, n2, n3, n4, n5, n6, n7, n8⟩ := id hlr.1
    exact n6
  have e6 : M_87 na 6 = nI (S_g S 6) := by rw [hm2.2.2.2.1 6 (by decide), n6]
  have hp16 : 2 ^ S_g S 6 ≤ 16 := Nat.pow_le_pow_right (n := 2) (by decide) h6
  have hp2 : 2 ≤ 2 ^ S_g S 6 := Nat.pow_le_pow_right (n := 2) (i := 1) (by decide) h61
  have low : ∀ d : Nat, d ≤ 1 → (S_g S 6 = 4 → d = 1) → cq_V p l e room_1 s m args below meth c D cA X Bs 10 (cells + 200 + 400 + 30) (slots + 1200 + 4000 + 400) Q 233 [(0, .ref b0), (1, .ref o), (2, .ref ta), (3, .ref ca), (4, .ref ra), (5, .ref na), (6, .ref ba), (7, .int 1), (8, .int (nI tu)), (9, .int x)] [.int (nI d), .int (nI (2 ^ S_g S 6)), .int (x >>> ((6 : Int32) &&& 31)), .ref na, .ref ta, .ref o] M_87 := by
    intro d hd hd4
    refine cq_isub F dL_law_233 ?_
    rw [show nI (2 ^ S_g S 6) - nI d = nI (2 ^ S_g S 6 - d) from pk_sub (by omega)]
    refine cq_callS F (kL_low l D cA X Bs (x >>> ((6 : Int32) &&& 31)) (2 ^ S_g S 6 - d) M_87 (by omega) (by omega)) (va_cwS 2 F.1.2.2.2.2 gL_law_L_low rfl rfl rfl hdVL_low.2 ⟨Nat.le_of_ble_eq_true rfl, Nat.le_of_ble_eq_true rfl⟩) rfl (Nat.le_of_ble_eq_true rfl) dL_law_234 ⟨by show _ ≤ 1048577; omega, by show _ ≤ 5955736; omega⟩ (cq_kIp fun r_34 h_34 => ?_)
    obtain ⟨w, hw, rfl⟩ := h_34
    have hpm : pb_m w 4 ≤ 3 := w9_pm w (by
      by_cases e4 : S_g S 6 = 4
      · have := hd4 e4
        omega
      · have : 2 ^ S_g S 6 ≤ 2 ^ 3 := Nat.pow_le_pow_right (n := 2) (by decide) (by omega)
        omega)
    refine cq_iload F dL_law_237 rfl ?_
    refine cq_iconst F (v := 5) dL_law_239 rfl ?_
    refine cq_ishr F dL_law_240 ?_
    refine cq_sipush F (v := 1023) dL_law_241 (by decide) ?_
    refine cq_iand F dL_law_244 ?_
    obtain ⟨q, hq, eq⟩ := w9_1023 (x >>> ((5 : Int32) &&& 31))
    rw [eq]
    refine cq_callS F (kL_arePlans l D cA X Bs hl o ta na w q B t c9 r n b S M_87 ha.1 ha.2.2.2.1 hm2.1 hm2.2.2.2.1 hb hck hk hlr ho (by obtain ⟨-, -, -, -, -, d1, d2, d3, d4⟩ := ha; omega) (by omega) hpm hq) (va_cwS 5 F.1.2.2.2.2 gL_law_L_arePlans rfl rfl rfl hdVL_arePlans.2 ⟨Nat.le_of_ble_eq_true rfl, Nat.le_of_ble_eq_true rfl⟩) rfl (Nat.le_of_ble_eq_true rfl) dL_law_245 ⟨by show _ ≤ 1048577; omega, by show _ ≤ 5955736; omega⟩ (cq_kI fun r_45 M_45 h_45 => ?_)
    obtain ⟨rfl, hck2, hfr⟩ := h_45
    refine cq_if_eq F (tgt := 255) dL_law_248 (by decide) (fun z => absurd z (by decide)) (fun _ => ?_)
    refine cq_iconst F (v := 1) dL_law_251 rfl ?_
    refine cq_goto F (tgt := 256) dL_law_252 (by decide) ?_
    refine cq_widen (k := cells + 12640) (n := slots + 55700) (by omega) (by omega) ?_
    have hm3 : lm M_45 ta ca ra na ba t c9 r n b := hm2.same (fun y hy => by
      obtain ⟨⟨k1, -⟩, ⟨k2, -⟩, ⟨k3, -⟩, ⟨k4, -⟩, ⟨k5, -⟩, d1, d2, d3, d4⟩ := ha
      rcases hy with rfl | rfl | rfl | rfl | rfl
      · exact hfr _ (by rw [k1]; decide) (Or.inr (by omega))
      · exact hfr _ (by rw [k2]; decide) (Or.inr (by omega))
      · exact hfr _ (by rw [k3]; decide) (Or.inr (by omega))
      · exact hfr _ (by rw [k4]; decide) (Or.inr (by omega))
      · exact hfr _ (by rw [k5]; decide) (Or.inr (by omega)))
    exact k M_45 ⟨S, hck2, hk, ⟨t, c9, r, n, b, hm3, hlr⟩, h61⟩
  refine cq_aload_n F (i := 1) dL_law_203 rfl rfl ?_
  refine cq_aload_n F (i := 2) dL_law_204 rfl rfl ?_
  refine cq_aload F (i := 5) dL_law_205 rfl ?_
  refine cq_iload F dL_law_207 rfl ?_
  refine cq_bipush F (v := 6) dL_law_209 (by decide) ?_
  refine cq_ishr F dL_law_211 ?_
  refine cq_iconst F (v := 1) dL_law_212 rfl ?_
  refine cq_aload F (i := 5) dL_law_213 rfl ?_
  refine cq_bipush F (v := 6) dL_law_215 (by decide) ?_
  refine cq_iald_j F (n := 9) (j := 6) ha.2.2.2.1.1 ha.2.2.2.1.2 rfl ⟨by decide, by decide⟩ dL_law_217 ?_
  rw [e6]
  refine cq_ishl F dL_law_218 ?_
  rw [pb_shl _ h6]
  refine cq_aload F (i := 5) dL_law_219 rfl ?_
  refine cq_bipush F (v := 6) dL_law_221 (by decide) ?_
  refine cq_iald_j F (n := 9) (j := 6) ha.2.2.2.1.1 ha.2.2.2.1.2 rfl ⟨by decide, by decide⟩ dL_law_223 ?_
  rw [e6]
  refine cq_iconst F (v := 4) dL_law_224 rfl ?_
  refine cq_icmp_ne F (tgt := 232) dL_law_225 (by decide) (fun hE => ?_) (fun _ => ?_)
  · refine cq_iconst F (v := 0) dL_law_232 rfl ?_
    exact low 0 (by decide) (fun z => absurd (congrArg nI z) hE)
  · refine cq_iconst F (v := 1) dL_law_228 rfl ?_
    refine cq_goto F (tgt := 233) dL_law_229 (by decide) ?_
    exact low 1 (by decide) (fun _ => rfl)
set_option maxRecDepth 100000 in
set_option maxHeartbeats 8000000 in
theorem w9_loop (hl : l.stackTraces = false) {b0 N0 o ta ca ra na ba : Nat} {xs : Nat → Int32} (F : cq_F p s m args meth c D cA Bs 10 cL_law RL wsL_law) (hX : va_X b0 N0 xs s s.heap) (hbs : b0 < s.heap.size ∧ b0 < Bs) (hN0 : N0 ≤ 260) (hb : cq_isClock X o) (ha : la X ta ca ra na ba) (ho : o + 249 ≤ ta) (kx : ∀ (M1 : cq_M) (c1 s1 : Nat), c1 ≤ 700000 → s1 ≤ 5000000 → cq_V p l e room_1 s m args below meth c D cA X Bs 10 c1 s1 Q 264 [(7, .int 1)] [] M1) :
    ∀ (k tu : Nat) (M : cq_M), tu + k = 42 → w9_J M o ta ca ra na ba (200 * (tu + 1)) → cq_V p l e room_1 s m args below meth c D cA X Bs 10 (1000 + 12700 * tu) (9000 + 56000 * tu) Q 95 [(0, .ref b0), (1, .ref o), (2, .ref ta), (3, .ref ca), (4, .ref ra), (5, .ref na), (6, .ref ba), (7, .int 1), (8, .int (nI tu))] [] M := by
  intro k
  induction k with
  | zero =>
    intro tu M ht hJ
    refine cq_iload F dL_law_95 rfl ?_
    refine cq_bipush F (v := 42) dL_law_97 (by decide) ?_
    refine cq_icmp_ge F (tgt := 264) dL_law_99 (by decide) (fun _ => ?_) (fun hE => absurd (nI_le (a := 42) (b := tu) (by omega) (by omega)) hE)
    refine cq_loc (L2 := [(7, .int 1)]) rfl ?_
    exact kx M _ _ (by omega) (by omega)
  | succ k ih =>
    intro tu M ht hJ
    refine cq_iload F dL_law_95 rfl ?_
    refine cq_bipush F (v := 42) dL_law_97 (by decide) ?_
    refine cq_icmp_ge F (tgt := 264) dL_law_99 (by decide) (fun hE => absurd ((nI_leI (a := 42) (b := tu) (by omega) (by omega)).mp hE) (by omega)) (fun _ => ?_)
    refine cq_iload F dL_law_102 rfl ?_
    refine cq_if_eq F (tgt := 264) dL_law_104 (by decide) (fun z => absurd z (by decide)) (fun _ => ?_)
    refine cq_aload_n F (i := 0) dL_law_107 rfl rfl ?_
    refine cq_iconst F (v := 1) dL_law_108 rfl ?_
    refine cq_iload F dL_law_109 rfl ?_
    refine cq_iadd F dL_law_111 ?_
    rw [show (1 : Int32) + nI tu = nI (1 + tu) from nI_add 1 tu]
    refine cq_callC F (j := 1 + tu) hX hbs (by omega) (by omega) (va_cwS 2 F.1.2.2.2.2 gL_law_L_cell rfl rfl rfl hdVL_cell.2 ⟨Nat.le_of_ble_eq_true rfl, Nat.le_of_ble_eq_true rfl⟩) (Nat.le_of_ble_eq_true rfl) dL_law_112 ⟨by show _ ≤ 1048577; omega, by show _ ≤ 5955736; omega⟩ (fun x => ?_)
    refine cq_istore F dL_law_115 (by decide) ?_
    refine cq_loc (L2 := [(0, .ref b0), (1, .ref o), (2, .ref ta), (3, .ref ca), (4, .ref ra), (5, .ref na), (6, .ref ba), (7, .int 1), (8, .int (nI tu)), (9, .int x)]) rfl ?_
    refine cq_aload_n F (i := 1) dL_law_117 rfl rfl ?_
    refine cq_aload_n F (i := 2) dL_law_118 rfl rfl ?_
    refine cq_aload_n F (i := 3) dL_law_119 rfl rfl ?_
    refine cq_aload F (i := 4) dL_law_120 rfl ?_
    refine cq_aload F (i := 5) dL_law_122 rfl ?_
    refine cq_aload F (i := 6) dL_law_124 rfl ?_
    obtain ⟨S, h, hk, ⟨t, c9, r, n, b, hm, hlr⟩, h61⟩ := hJ
    have acts : ∀ kd : Nat, kd ≤ 16 → cq_V p l e room_1 s m args below meth c D cA X Bs 10 (1000 + 12700 * tu) (9000 + 56000 * tu) Q 146 [(0, .ref b0), (1, .ref o), (2, .ref ta), (3, .ref ca), (4, .ref ra), (5, .ref na), (6, .ref ba), (7, .int 1), (8, .int (nI tu)), (9, .int x)] [.int (nI kd), .ref ba, .ref na, .ref ra, .ref ca, .ref ta, .ref o] M := by
      intro kd hkd
      refine cq_iload F dL_law_146 rfl ?_
      refine cq_callS F (kL_acts l D cA X Bs hl o ta ca ra na ba (200 * (tu + 1)) kd x t c9 r n b S M ha hm hb h hk hlr (by omega) ho h61 hkd) (va_cwS 8 F.1.2.2.2.2 gL_law_L_acts rfl rfl rfl hdVL_acts.2 ⟨Nat.le_of_ble_eq_true rfl, Nat.le_of_ble_eq_true rfl⟩) rfl (Nat.le_of_ble_eq_true rfl) dL_law_148 ⟨by show _ ≤ 1048577; omega, by show _ ≤ 5955736; omega⟩ (cq_kI fun r_48 M_48 h_48 => ?_)
      obtain ⟨rfl, hP⟩ := h_48
      refine cq_if_eq F (tgt := 255) dL_law_151 (by decide) (fun z => absurd z (by decide)) (fun _ => ?_)
      refine w9_turn hl F hb ha ho (B := 200 * (tu + 1) + 200) (by omega) ⟨by omega, by omega⟩ hP (fun M1 hJ1 => ?_)
      refine cq_istore F dL_law_256 (by decide) ?_
      refine cq_iinc F dL_law_258 rfl (by decide) (fun y ey => ?_)
      have ey2 : y = nI (tu + 1) := by rw [ey]; exact nI_add tu 1
      subst ey2
      refine cq_goto F (tgt := 95) dL_law_261 (by decide) ?_
      refine cq_loc (L2 := [(0, .ref b0), (1, .ref o), (2, .ref ta), (3, .ref ca), (4, .ref ra), (5, .ref na), (6, .ref ba), (7, .int 1), (8, .int (nI (tu + 1)))]) rfl ?_
      refine cq_widen (k := 1000 + 12700 * (tu + 1)) (n := 9000 + 56000 * (tu + 1)) (by omega) (by omega) ?_
      exact ih (tu + 1) M1 (by omega) (by rw [show 200 * (tu + 1 + 1) = 200 * (tu + 1) + 200 by omega]; exact hJ1)
    refine cq_iload F dL_law_126 rfl ?_
    refine cq_iconst F (v := 3) dL_law_128 rfl ?_
    refine cq_icmp_ge F (tgt := 136) dL_law_129 (by decide) (fun _ => ?_) (fun _ => ?_)
    · refine cq_iload F dL_law_136 rfl ?_
      refine cq_bipush F (v := 18) dL_law_138 (by decide) ?_
      refine cq_ishr F dL_law_140 ?_
      refine cq_bipush F (v := 17) dL_law_141 (by decide) ?_
      refine cq_callS F (As := [.int (x >>> ((18 : Int32) &&& 31)), .int (nI 17)]) (kL_low l D cA X Bs (x >>> ((18 : Int32) &&& 31)) 17 M (by decide) (by decide)) (va_cwS 2 F.1.2.2.2.2 gL_law_L_low rfl rfl rfl hdVL_low.2 ⟨Nat.le_of_ble_eq_true rfl, Nat.le_of_ble_eq_true rfl⟩) rfl (Nat.le_of_ble_eq_true rfl) dL_law_143 ⟨by show _ ≤ 1048577; omega, by show _ ≤ 5955736; omega⟩ (cq_kIp fun r_43 h_43 => ?_)
      obtain ⟨kd, hkd, rfl⟩ := h_43
      exact acts kd (by omega)
    · refine cq_iconst F (v := 0) dL_law_132 rfl ?_
      refine cq_goto F (tgt := 146) dL_law_133 (by decide) ?_
      exact acts 0 (by decide)
end CQL
