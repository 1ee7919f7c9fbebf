set_option maxRecDepth 20000 in
theorem law_pass {Z : gZ} {B : gB} {b L : Nat} {xs : Nat → Int32} (X : gX Z B cL_law RL) (T : gTL Z B) (hR : gRm Z = room_1) (hnL : gnL Z = 9) (SC : gSC Z B b L xs) (h0 : B.2.2.2.2 = 0) {t : Nat} (ht : 7 * t + 7 ≤ L) (hL : L ≤ 3584) {n : Nat × Nat} (hn1 : n.1 + 12 ≤ 601024) (hn2 : n.2 + 130 ≤ 7293034) {V : gMem} {w : gWd} (hv : vOk w) (hQ : COk V w) (hM : MOk V w) (hN : N15 V) (ht20 : w.1.1 0 < 2 ^ 20) (kk : lawK Z B n b t w) : gG Z B n V 1043 [(0, .ref b), (1, .ref (B.2.1 0 0 0)), (2, .ref (B.2.1 20 0 0)), (3, .ref (B.2.1 28 0 0)), (4, .int (nI (7 * t)))] [] := by
  have hI := gX_I X
  refine g_aload_n X 1 rfl dL_law_1043 ?_
  refine g_aload_n X 0 rfl dL_law_1044 ?_
  refine g_iload X 4 rfl dL_law_1045 ?_
  refine g_iconst X 1 (by decide) dL_law_1047 ?_
  refine g_iadd X dL_law_1048 ?_
  refine gG_top (nI ((7 * t) + 1)) (nI_1 _) ?_
  refine g_sld X SC ((7 * t) + 1) rfl (by omega) (by omega) dL_law_1049 ?_
  refine g_aload_n X 3 rfl dL_law_1050 ?_
  refine g_callH X T hR (k := 3) (As := [.ref (B.2.1 0 0 0), .int (xs ((7 * t) + 1)), .ref (B.2.1 28 0 0)]) (rest := []) qT_yL_pass qC_yL_pass qN_L (by decide +kernel) (by decide +kernel) qL_L_125 (h_pass T.st hI V w (xs (7 * t + 1)) hQ hv.1 hN) rfl rfl (Nat.le_of_ble_eq_true rfl) ⟨Nat.le_of_ble_eq_true rfl, Nat.le_of_ble_eq_true rfl, by show n.1 + 1 ≤ 601024; omega, by show n.2 + 6 ≤ 7293034; omega⟩ dL_law_1051 (fun v9 V9 z9 h9 => ?_)
  obtain ⟨e9, hz9, hq9, hn9, hc9⟩ := h9
  subst e9
  refine gG_st [.int (nI (oPass w (xs (7 * t + 1))).1)] rfl ?_
  have X := gX_out (z := z9) X
  have hI := gX_I X
  have SC := gSC_out (z := z9) SC
  have hMa := hM.cm hc9
  refine gG_n (n.1 + 1, n.2 + 6) rfl ?_
  refine g_istore X dL_law_1054 [(5, .int (nI (oPass w (xs (7 * t + 1))).1)), (0, .ref b), (1, .ref (B.2.1 0 0 0)), (2, .ref (B.2.1 20 0 0)), (3, .ref (B.2.1 28 0 0)), (4, .int (nI (7 * t)))] rfl (gnl_lt hnL (by decide)) ?_
  refine g_aload_n X 3 rfl dL_law_1056 ?_
  refine g_aload_n X 1 rfl dL_law_1057 ?_
  refine g_iload X 5 rfl dL_law_1058 ?_
  refine g_iconst X 1 (by decide) dL_law_1060 ?_
  refine g_iadd X dL_law_1061 ?_
  refine gG_top (nI ((7 * t) + 1)) (nI_1 _) ?_
  refine g_sld X SC ((7 * t) + 1) rfl (by omega) (by omega) dL_law_1062 ?_
  refine g_callV X hR (rest := []) mX8_pass lL_127 (k_Mpass hI V9 w (xs (7 * t + 1)) hMa hv.1) rfl rfl (Nat.le_of_ble_eq_true rfl) ⟨by decide, by decide⟩ rfl rfl rfl ⟨Nat.le_of_ble_eq_true rfl, Nat.le_of_ble_eq_true rfl, by show n.1 + 1 + 0 ≤ 601024; omega, by show n.2 + 6 + 0 ≤ 7293034; omega⟩ dL_law_1063 (fun r1 V2 hz_3 => ?_)
  refine gG_rv hz_3.1 ?_
  obtain ⟨-, hth9, hM9, hmm9⟩ := hz_3
  refine gG_st [.int ((oPass w (xs (7 * t + 1))).2.1)] rfl ?_
  refine gG_n (n.1 + 1, n.2 + 6) rfl ?_
  refine g_istore X dL_law_1066 [(6, .int ((oPass w (xs (7 * t + 1))).2.1)), (5, .int (nI (oPass w (xs (7 * t + 1))).1)), (0, .ref b), (1, .ref (B.2.1 0 0 0)), (2, .ref (B.2.1 20 0 0)), (3, .ref (B.2.1 28 0 0)), (4, .int (nI (7 * t)))] rfl (gnl_lt hnL (by decide)) ?_
  refine g_aload_n X 4 rfl dL_law_1068 ?_
  refine g_callV X hR (rest := []) mX8_thrown lL_79 (k_thrown hI V2 ) rfl rfl (Nat.le_of_ble_eq_true rfl) ⟨by decide, by decide⟩ rfl rfl rfl ⟨Nat.le_of_ble_eq_true rfl, Nat.le_of_ble_eq_true rfl, by show n.1 + 1 + 0 ≤ 601024; omega, by show n.2 + 6 + 0 ≤ 7293034; omega⟩ dL_law_1069 (fun r4 V5 hz_6 => ?_)
  refine gG_ret hz_6.1 hz_6.2 ?_
  refine gG_st [.int (V2 20 0 0 0)] rfl ?_
  refine gG_n (n.1 + 1, n.2 + 6) rfl ?_
  refine gG_top (nI (oPass w (xs (7 * t + 1))).1) (hth9) ?_
  refine g_iload X 1 rfl dL_law_1072 ?_
  refine g_icmp_eq X 1079 (by decide) dL_law_1074 (fun c7 => ?_) (fun c7 => ?_)
  · refine g_iload X 1 rfl dL_law_1079 ?_
    by_cases ho9 : (oPass w (xs (7 * t + 1))).1 = 0
    · skip
      refine g_if_ne X 1096 (by decide) dL_law_1081 (fun c8 => ?_) (fun c8 => ?_)
      · first | exact absurd (fun z => z (by rw [ho9]; rfl)) c8 | exact absurd c8 (fun z => z (by rw [ho9]; rfl))
      · refine g_aload_n X 5 rfl dL_law_1084 ?_
        refine g_iconst X 0 (by decide) dL_law_1085 ?_
        refine g_laldO X rfl dL_law_1086 ?_
        refine gG_st [.long z9] rfl ?_
        refine g_iload X 0 rfl dL_law_1087 ?_
        refine g_i2l X dL_law_1089 ?_
        refine g_lcmp X dL_law_1090 ?_
        refine g_if_eq X 1096 (by decide) dL_law_1091 (fun c9 => ?_) (fun c9 => ?_)
        · refine g_goto X 1347 (by decide) dL_law_1096 ?_
          refine gG_L [2, 3, 4, 5, 6] (L' := [(0, .ref b), (1, .ref (B.2.1 0 0 0)), (2, .ref (B.2.1 20 0 0)), (3, .ref (B.2.1 28 0 0)), (4, .int (nI (7 * t)))]) rfl ?_
          refine g_widen (n.1 + 12, n.2 + 130) (by show n.1 + 1 ≤ n.1 + 12; omega) (by show n.2 + 6 ≤ n.2 + 130; omega) ?_
          exact kk _ _ z9 (hv.pass (xs (7 * t + 1))) (hq9.mm hmm9) hM9 (hn9.mm hmm9) (oPass_t hv.1 (xs (7 * t + 1)))
        · first | exact absurd ((lg_cmp_eq _ _).mpr (hz9 ho9)) c9 | exact absurd c9 ((lg_cmp_eq _ _).mpr (hz9 ho9))
    · skip
      refine g_if_ne X 1096 (by decide) dL_law_1081 (fun c10 => ?_) (fun c10 => ?_)
      · refine g_goto X 1347 (by decide) dL_law_1096 ?_
        refine gG_L [2, 3, 4, 5, 6] (L' := [(0, .ref b), (1, .ref (B.2.1 0 0 0)), (2, .ref (B.2.1 20 0 0)), (3, .ref (B.2.1 28 0 0)), (4, .int (nI (7 * t)))]) rfl ?_
        refine g_widen (n.1 + 12, n.2 + 130) (by show n.1 + 1 ≤ n.1 + 12; omega) (by show n.2 + 6 ≤ n.2 + 130; omega) ?_
        exact kk _ _ z9 (hv.pass (xs (7 * t + 1))) (hq9.mm hmm9) hM9 (hn9.mm hmm9) (oPass_t hv.1 (xs (7 * t + 1)))
      · first | exact absurd (nI_ne0 (Nat.pos_of_ne_zero ho9) (by have := oPass_2 w (xs (7 * t + 1)); omega)) c10 | exact absurd c10 (nI_ne0 (Nat.pos_of_ne_zero ho9) (by have := oPass_2 w (xs (7 * t + 1)); omega))
  · first | exact absurd (rfl) c7 | exact absurd c7 (rfl)

set_option maxRecDepth 20000 in
theorem law_count {Z : gZ} {B : gB} {b L : Nat} {xs : Nat → Int32} (X : gX Z B cL_law RL) (T : gTL Z B) (hR : gRm Z = room_1) (hnL : gnL Z = 9) (SC : gSC Z B b L xs) (h0 : B.2.2.2.2 = 0) {t : Nat} (ht : 7 * t + 7 ≤ L) (hL : L ≤ 3584) {n : Nat × Nat} (hn1 : n.1 + 12 ≤ 601024) (hn2 : n.2 + 130 ≤ 7293034) {V : gMem} {w : gWd} (hv : vOk w) (hQ : COk V w) (hM : MOk V w) (hN : N15 V) (ht20 : w.1.1 0 < 2 ^ 20) (kk : lawK Z B n b t w) : gG Z B n V 1099 [(0, .ref b), (1, .ref (B.2.1 0 0 0)), (2, .ref (B.2.1 20 0 0)), (3, .ref (B.2.1 28 0 0)), (4, .int (nI (7 * t)))] [] := by
  have hI := gX_I X
  refine g_aload_n X 1 rfl dL_law_1099 ?_
  refine g_aload_n X 0 rfl dL_law_1100 ?_
  refine g_iload X 4 rfl dL_law_1101 ?_
  refine g_iconst X 1 (by decide) dL_law_1103 ?_
  refine g_iadd X dL_law_1104 ?_
  refine gG_top (nI ((7 * t) + 1)) (nI_1 _) ?_
  refine g_sld X SC ((7 * t) + 1) rfl (by omega) (by omega) dL_law_1105 ?_
  refine g_aload_n X 3 rfl dL_law_1106 ?_
  refine g_callH X T hR (k := 3) (As := [.ref (B.2.1 0 0 0), .int (xs ((7 * t) + 1)), .ref (B.2.1 28 0 0)]) (rest := []) qT_yL_count qC_yL_count qN_L (by decide +kernel) (by decide +kernel) qL_L_128 (h_count T.st hI V w (xs (7 * t + 1)) hQ hv.1 hN) rfl rfl (Nat.le_of_ble_eq_true rfl) ⟨Nat.le_of_ble_eq_true rfl, Nat.le_of_ble_eq_true rfl, by show n.1 + 1 ≤ 601024; omega, by show n.2 + 6 ≤ 7293034; omega⟩ dL_law_1107 (fun v9 V9 z9 h9 => ?_)
  obtain ⟨e9, hz9, hq9, hn9, hc9⟩ := h9
  subst e9
  refine gG_st [.int (nI (oCount w (xs (7 * t + 1))).1)] rfl ?_
  have X := gX_out (z := z9) X
  have hI := gX_I X
  have SC := gSC_out (z := z9) SC
  have hMa := hM.cm hc9
  refine gG_n (n.1 + 1, n.2 + 6) rfl ?_
  refine g_istore X dL_law_1110 [(5, .int (nI (oCount w (xs (7 * t + 1))).1)), (0, .ref b), (1, .ref (B.2.1 0 0 0)), (2, .ref (B.2.1 20 0 0)), (3, .ref (B.2.1 28 0 0)), (4, .int (nI (7 * t)))] rfl (gnl_lt hnL (by decide)) ?_
  refine g_aload_n X 3 rfl dL_law_1112 ?_
  refine g_aload_n X 1 rfl dL_law_1113 ?_
  refine g_iload X 5 rfl dL_law_1114 ?_
  refine g_iconst X 1 (by decide) dL_law_1116 ?_
  refine g_iadd X dL_law_1117 ?_
  refine gG_top (nI ((7 * t) + 1)) (nI_1 _) ?_
  refine g_sld X SC ((7 * t) + 1) rfl (by omega) (by omega) dL_law_1118 ?_
  refine g_callV X hR (rest := []) mX8_count lL_130 (k_Mcount hI V9 w (xs (7 * t + 1)) hMa hv.1 h0) rfl rfl (Nat.le_of_ble_eq_true rfl) ⟨by decide, by decide⟩ rfl rfl rfl ⟨Nat.le_of_ble_eq_true rfl, Nat.le_of_ble_eq_true rfl, by show n.1 + 1 + 1 ≤ 601024; omega, by show n.2 + 6 + 11 ≤ 7293034; omega⟩ dL_law_1119 (fun r1 V2 hz_3 => ?_)
  refine gG_rv hz_3.1 ?_
  obtain ⟨-, hth9, hM9, hmm9⟩ := hz_3
  refine gG_st [.int ((oCount w (xs (7 * t + 1))).2.1)] rfl ?_
  refine gG_n (n.1 + 2, n.2 + 17) rfl ?_
  refine gG_n (n.1 + 2, n.2 + 17) rfl ?_
  refine g_istore X dL_law_1122 [(6, .int ((oCount w (xs (7 * t + 1))).2.1)), (5, .int (nI (oCount w (xs (7 * t + 1))).1)), (0, .ref b), (1, .ref (B.2.1 0 0 0)), (2, .ref (B.2.1 20 0 0)), (3, .ref (B.2.1 28 0 0)), (4, .int (nI (7 * t)))] rfl (gnl_lt hnL (by decide)) ?_
  refine g_aload_n X 4 rfl dL_law_1124 ?_
  refine g_callV X hR (rest := []) mX8_thrown lL_79 (k_thrown hI V2 ) rfl rfl (Nat.le_of_ble_eq_true rfl) ⟨by decide, by decide⟩ rfl rfl rfl ⟨Nat.le_of_ble_eq_true rfl, Nat.le_of_ble_eq_true rfl, by show n.1 + 2 + 0 ≤ 601024; omega, by show n.2 + 17 + 0 ≤ 7293034; omega⟩ dL_law_1125 (fun r4 V5 hz_6 => ?_)
  refine gG_ret hz_6.1 hz_6.2 ?_
  refine gG_st [.int (V2 20 0 0 0)] rfl ?_
  refine gG_n (n.1 + 2, n.2 + 17) rfl ?_
  refine gG_top (nI (oCount w (xs (7 * t + 1))).1) (hth9) ?_
  refine g_iload X 1 rfl dL_law_1128 ?_
  refine g_icmp_eq X 1135 (by decide) dL_law_1130 (fun c7 => ?_) (fun c7 => ?_)
  · refine g_iload X 1 rfl dL_law_1135 ?_
    by_cases ho9 : (oCount w (xs (7 * t + 1))).1 = 0
    · skip
      refine g_if_ne X 1152 (by decide) dL_law_1137 (fun c8 => ?_) (fun c8 => ?_)
      · first | exact absurd (fun z => z (by rw [ho9]; rfl)) c8 | exact absurd c8 (fun z => z (by rw [ho9]; rfl))
      · refine g_aload_n X 5 rfl dL_law_1140 ?_
        refine g_iconst X 0 (by decide) dL_law_1141 ?_
        refine g_laldO X rfl dL_law_1142 ?_
        refine gG_st [.long z9] rfl ?_
        refine g_iload X 0 rfl dL_law_1143 ?_
        refine g_i2l X dL_law_1145 ?_
        refine g_lcmp X dL_law_1146 ?_
        refine g_if_eq X 1152 (by decide) dL_law_1147 (fun c9 => ?_) (fun c9 => ?_)
        · refine g_goto X 1347 (by decide) dL_law_1152 ?_
          refine gG_L [2, 3, 4, 5, 6] (L' := [(0, .ref b), (1, .ref (B.2.1 0 0 0)), (2, .ref (B.2.1 20 0 0)), (3, .ref (B.2.1 28 0 0)), (4, .int (nI (7 * t)))]) rfl ?_
          refine g_widen (n.1 + 12, n.2 + 130) (by show n.1 + 2 ≤ n.1 + 12; omega) (by show n.2 + 17 ≤ n.2 + 130; omega) ?_
          exact kk _ _ z9 (hv.count (xs (7 * t + 1))) (hq9.mm hmm9) hM9 (hn9.mm hmm9) (oCount_t w (xs (7 * t + 1)))
        · first | exact absurd ((lg_cmp_eq _ _).mpr (hz9 ho9)) c9 | exact absurd c9 ((lg_cmp_eq _ _).mpr (hz9 ho9))
    · skip
      refine g_if_ne X 1152 (by decide) dL_law_1137 (fun c10 => ?_) (fun c10 => ?_)
      · refine g_goto X 1347 (by decide) dL_law_1152 ?_
        refine gG_L [2, 3, 4, 5, 6] (L' := [(0, .ref b), (1, .ref (B.2.1 0 0 0)), (2, .ref (B.2.1 20 0 0)), (3, .ref (B.2.1 28 0 0)), (4, .int (nI (7 * t)))]) rfl ?_
        refine g_widen (n.1 + 12, n.2 + 130) (by show n.1 + 2 ≤ n.1 + 12; omega) (by show n.2 + 17 ≤ n.2 + 130; omega) ?_
        exact kk _ _ z9 (hv.count (xs (7 * t + 1))) (hq9.mm hmm9) hM9 (hn9.mm hmm9) (oCount_t w (xs (7 * t + 1)))
      · first | exact absurd (nI_ne0 (Nat.pos_of_ne_zero ho9) (by have := oCount_2 w (xs (7 * t + 1)); omega)) c10 | exact absurd c10 (nI_ne0 (Nat.pos_of_ne_zero ho9) (by have := oCount_2 w (xs (7 * t + 1)); omega))
  · first | exact absurd (rfl) c7 | exact absurd c7 (rfl)

set_option maxRecDepth 20000 in
theorem law_over {Z : gZ} {B : gB} {b L : Nat} {xs : Nat → Int32} (X : gX Z B cL_law RL) (T : gTL Z B) (hR : gRm Z = room_1) (hnL : gnL Z = 9) (SC : gSC Z B b L xs) (h0 : B.2.2.2.2 = 0) {t : Nat} (ht : 7 * t + 7 ≤ L) (hL : L ≤ 3584) {n : Nat × Nat} (hn1 : n.1 + 12 ≤ 601024) (hn2 : n.2 + 130 ≤ 7293034) {V : gMem} {w : gWd} (hv : vOk w) (hQ : COk V w) (hM : MOk V w) (hN : N15 V) (ht20 : w.1.1 0 < 2 ^ 20) (kk : lawK Z B n b t w) : gG Z B n V 1155 [(0, .ref b), (1, .ref (B.2.1 0 0 0)), (2, .ref (B.2.1 20 0 0)), (3, .ref (B.2.1 28 0 0)), (4, .int (nI (7 * t)))] [] := by
  have hI := gX_I X
  refine g_aload_n X 1 rfl dL_law_1155 ?_
  refine g_aload_n X 0 rfl dL_law_1156 ?_
  refine g_iload X 4 rfl dL_law_1157 ?_
  refine g_iconst X 1 (by decide) dL_law_1159 ?_
  refine g_iadd X dL_law_1160 ?_
  refine gG_top (nI ((7 * t) + 1)) (nI_1 _) ?_
  refine g_sld X SC ((7 * t) + 1) rfl (by omega) (by omega) dL_law_1161 ?_
  refine g_aload_n X 3 rfl dL_law_1162 ?_
  refine g_callH X T hR (k := 3) (As := [.ref (B.2.1 0 0 0), .int (xs ((7 * t) + 1)), .ref (B.2.1 28 0 0)]) (rest := []) qT_yL_over qC_yL_over qN_L (by decide +kernel) (by decide +kernel) qL_L_131 (h_over T.st hI V w (xs (7 * t + 1)) hQ hv.1 hN) rfl rfl (Nat.le_of_ble_eq_true rfl) ⟨Nat.le_of_ble_eq_true rfl, Nat.le_of_ble_eq_true rfl, by show n.1 + 1 ≤ 601024; omega, by show n.2 + 6 ≤ 7293034; omega⟩ dL_law_1163 (fun v9 V9 z9 h9 => ?_)
  obtain ⟨e9, hz9, hq9, hn9, hc9⟩ := h9
  subst e9
  refine gG_st [.int (nI (oOver w (xs (7 * t + 1))).1)] rfl ?_
  have X := gX_out (z := z9) X
  have hI := gX_I X
  have SC := gSC_out (z := z9) SC
  have hMa := hM.cm hc9
  refine gG_n (n.1 + 1, n.2 + 6) rfl ?_
  refine g_istore X dL_law_1166 [(5, .int (nI (oOver w (xs (7 * t + 1))).1)), (0, .ref b), (1, .ref (B.2.1 0 0 0)), (2, .ref (B.2.1 20 0 0)), (3, .ref (B.2.1 28 0 0)), (4, .int (nI (7 * t)))] rfl (gnl_lt hnL (by decide)) ?_
  refine g_aload_n X 3 rfl dL_law_1168 ?_
  refine g_aload_n X 1 rfl dL_law_1169 ?_
  refine g_iload X 5 rfl dL_law_1170 ?_
  refine g_iconst X 1 (by decide) dL_law_1172 ?_
  refine g_iadd X dL_law_1173 ?_
  refine gG_top (nI ((7 * t) + 1)) (nI_1 _) ?_
  refine g_sld X SC ((7 * t) + 1) rfl (by omega) (by omega) dL_law_1174 ?_
  refine g_callV X hR (rest := []) mX8_over lL_133 (k_Mover hI V9 w (xs (7 * t + 1)) hMa hv.1) rfl rfl (Nat.le_of_ble_eq_true rfl) ⟨by decide, by decide⟩ rfl rfl rfl ⟨Nat.le_of_ble_eq_true rfl, Nat.le_of_ble_eq_true rfl, by show n.1 + 1 + 0 ≤ 601024; omega, by show n.2 + 6 + 0 ≤ 7293034; omega⟩ dL_law_1175 (fun r1 V2 hz_3 => ?_)
  refine gG_rv hz_3.1 ?_
  obtain ⟨-, hth9, hM9, hmm9⟩ := hz_3
  refine gG_st [.int ((oOver w (xs (7 * t + 1))).2.1)] rfl ?_
  refine gG_n (n.1 + 1, n.2 + 6) rfl ?_
  refine g_istore X dL_law_1178 [(6, .int ((oOver w (xs (7 * t + 1))).2.1)), (5, .int (nI (oOver w (xs (7 * t + 1))).1)), (0, .ref b), (1, .ref (B.2.1 0 0 0)), (2, .ref (B.2.1 20 0 0)), (3, .ref (B.2.1 28 0 0)), (4, .int (nI (7 * t)))] rfl (gnl_lt hnL (by decide)) ?_
  refine g_aload_n X 4 rfl dL_law_1180 ?_
  refine g_callV X hR (rest := []) mX8_thrown lL_79 (k_thrown hI V2 ) rfl rfl (Nat.le_of_ble_eq_true rfl) ⟨by decide, by decide⟩ rfl rfl rfl ⟨Nat.le_of_ble_eq_true rfl, Nat.le_of_ble_eq_true rfl, by show n.1 + 1 + 0 ≤ 601024; omega, by show n.2 + 6 + 0 ≤ 7293034; omega⟩ dL_law_1181 (fun r4 V5 hz_6 => ?_)
  refine gG_ret hz_6.1 hz_6.2 ?_
  refine gG_st [.int (V2 20 0 0 0)] rfl ?_
  refine gG_n (n.1 + 1, n.2 + 6) rfl ?_
  refine gG_top (nI (oOver w (xs (7 * t + 1))).1) (hth9) ?_
  refine g_iload X 1 rfl dL_law_1184 ?_
  refine g_icmp_eq X 1191 (by decide) dL_law_1186 (fun c7 => ?_) (fun c7 => ?_)
  · refine g_iload X 1 rfl dL_law_1191 ?_
    by_cases ho9 : (oOver w (xs (7 * t + 1))).1 = 0
    · skip
      refine g_if_ne X 1208 (by decide) dL_law_1193 (fun c8 => ?_) (fun c8 => ?_)
      · first | exact absurd (fun z => z (by rw [ho9]; rfl)) c8 | exact absurd c8 (fun z => z (by rw [ho9]; rfl))
      · refine g_aload_n X 5 rfl dL_law_1196 ?_
        refine g_iconst X 0 (by decide) dL_law_1197 ?_
        refine g_laldO X rfl dL_law_1198 ?_
        refine gG_st [.long z9] rfl ?_
        refine g_iload X 0 rfl dL_law_1199 ?_
        refine g_i2l X dL_law_1201 ?_
        refine g_lcmp X dL_law_1202 ?_
        refine g_if_eq X 1208 (by decide) dL_law_1203 (fun c9 => ?_) (fun c9 => ?_)
        · refine g_goto X 1347 (by decide) dL_law_1208 ?_
          refine gG_L [2, 3, 4, 5, 6] (L' := [(0, .ref b), (1, .ref (B.2.1 0 0 0)), (2, .ref (B.2.1 20 0 0)), (3, .ref (B.2.1 28 0 0)), (4, .int (nI (7 * t)))]) rfl ?_
          refine g_widen (n.1 + 12, n.2 + 130) (by show n.1 + 1 ≤ n.1 + 12; omega) (by show n.2 + 6 ≤ n.2 + 130; omega) ?_
          exact kk _ _ z9 (hv.over (xs (7 * t + 1))) (hq9.mm hmm9) hM9 (hn9.mm hmm9) (oOver_t w (xs (7 * t + 1)))
        · first | exact absurd ((lg_cmp_eq _ _).mpr (hz9 ho9)) c9 | exact absurd c9 ((lg_cmp_eq _ _).mpr (hz9 ho9))
    · skip
      refine g_if_ne X 1208 (by decide) dL_law_1193 (fun c10 => ?_) (fun c10 => ?_)
      · refine g_goto X 1347 (by decide) dL_law_1208 ?_
        refine gG_L [2, 3, 4, 5, 6] (L' := [(0, .ref b), (1, .ref (B.2.1 0 0 0)), (2, .ref (B.2.1 20 0 0)), (3, .ref (B.2.1 28 0 0)), (4, .int (nI (7 * t)))]) rfl ?_
        refine g_widen (n.1 + 12, n.2 + 130) (by show n.1 + 1 ≤ n.1 + 12; omega) (by show n.2 + 6 ≤ n.2 + 130; omega) ?_
        exact kk _ _ z9 (hv.over (xs (7 * t + 1))) (hq9.mm hmm9) hM9 (hn9.mm hmm9) (oOver_t w (xs (7 * t + 1)))
      · first | exact absurd (nI_ne0 (Nat.pos_of_ne_zero ho9) (by have := oOver_2 w (xs (7 * t + 1)); omega)) c10 | exact absurd c10 (nI_ne0 (Nat.pos_of_ne_zero ho9) (by have := oOver_2 w (xs (7 * t + 1)); omega))
  · first | exact absurd (rfl) c7 | exact absurd c7 (rfl)

set_option maxRecDepth 20000 in
theorem law_keep {Z : gZ} {B : gB} {b L : Nat} {xs : Nat → Int32} (X : gX Z B cL_law RL) (T : gTL Z B) (hR : gRm Z = room_1) (hnL : gnL Z = 9) (SC : gSC Z B b L xs) (h0 : B.2.2.2.2 = 0) {t : Nat} (ht : 7 * t + 7 ≤ L) (hL : L ≤ 3584) {n : Nat × Nat} (hn1 : n.1 + 12 ≤ 601024) (hn2 : n.2 + 130 ≤ 7293034) {V : gMem} {w : gWd} (hv : vOk w) (hQ : COk V w) (hM : MOk V w) (hN : N15 V) (ht20 : w.1.1 0 < 2 ^ 20) (kk : lawK Z B n b t w) : gG Z B n V 1211 [(0, .ref b), (1, .ref (B.2.1 0 0 0)), (2, .ref (B.2.1 20 0 0)), (3, .ref (B.2.1 28 0 0)), (4, .int (nI (7 * t)))] [] := by
  have hI := gX_I X
  refine g_aload_n X 1 rfl dL_law_1211 ?_
  refine g_callV X hR (rest := []) mX6_keep lL_134 (k_Ckeep hI V w hQ hv.1 hN) rfl rfl (Nat.le_of_ble_eq_true rfl) ⟨by decide, by decide⟩ rfl rfl rfl ⟨Nat.le_of_ble_eq_true rfl, Nat.le_of_ble_eq_true rfl, by show n.1 + 0 ≤ 601024; omega, by show n.2 + 0 ≤ 7293034; omega⟩ dL_law_1212 (fun r1 V2 hz_3 => ?_)
  refine gG_rv hz_3.1 ?_
  obtain ⟨-, hq9, hn9, hc9⟩ := hz_3
  have hMa := hM.cm hc9
  refine gG_st [.int (oKeep w)] rfl ?_
  refine gG_n n rfl ?_
  refine g_aload_n X 2 rfl dL_law_1215 ?_
  refine g_callV X hR (rest := [.int (oKeep w)]) mX8_keep lL_137 (k_Mkeep hI V2 w hMa hv.1) rfl rfl (Nat.le_of_ble_eq_true rfl) ⟨by decide, by decide⟩ rfl rfl rfl ⟨Nat.le_of_ble_eq_true rfl, Nat.le_of_ble_eq_true rfl, by show n.1 + 0 ≤ 601024; omega, by show n.2 + 0 ≤ 7293034; omega⟩ dL_law_1216 (fun r4 V5 hz_6 => ?_)
  refine gG_rv hz_6.1 ?_
  obtain ⟨-, hM9, hmm9⟩ := hz_6
  refine gG_st [.int (oKeep w), .int (oKeep w)] rfl ?_
  refine gG_n n rfl ?_
  refine g_icmp_eq X 1347 (by decide) dL_law_1219 (fun c7 => ?_) (fun c7 => ?_)
  · refine g_widen (n.1 + 12, n.2 + 130) (by show n.1 + 0 ≤ n.1 + 12; omega) (by show n.2 + 0 ≤ n.2 + 130; omega) ?_
    exact kk _ w B.2.2.2.1 hv (hq9.mm hmm9) hM9 (hn9.mm hmm9) (Nat.le_add_right _ _)
  · first | exact absurd (rfl) c7 | exact absurd c7 (rfl)

set_option maxRecDepth 20000 in
theorem law_foresee {Z : gZ} {B : gB} {b L : Nat} {xs : Nat → Int32} (X : gX Z B cL_law RL) (T : gTL Z B) (hR : gRm Z = room_1) (hnL : gnL Z = 9) (SC : gSC Z B b L xs) (h0 : B.2.2.2.2 = 0) {t : Nat} (ht : 7 * t + 7 ≤ L) (hL : L ≤ 3584) {n : Nat × Nat} (hn1 : n.1 + 12 ≤ 601024) (hn2 : n.2 + 130 ≤ 7293034) {V : gMem} {w : gWd} (hv : vOk w) (hQ : COk V w) (hM : MOk V w) (hN : N15 V) (ht20 : w.1.1 0 < 2 ^ 20) (kk : lawK Z B n b t w) : gG Z B n V 1224 [(0, .ref b), (1, .ref (B.2.1 0 0 0)), (2, .ref (B.2.1 20 0 0)), (3, .ref (B.2.1 28 0 0)), (4, .int (nI (7 * t)))] [] := by
  have hI := gX_I X
  refine g_aload_n X 1 rfl dL_law_1224 ?_
  refine g_aload_n X 0 rfl dL_law_1225 ?_
  refine g_iload X 4 rfl dL_law_1226 ?_
  refine g_iconst X 1 (by decide) dL_law_1228 ?_
  refine g_iadd X dL_law_1229 ?_
  refine gG_top (nI ((7 * t) + 1)) (nI_1 _) ?_
  refine g_sld X SC ((7 * t) + 1) rfl (by omega) (by omega) dL_law_1230 ?_
  refine g_aload_n X 0 rfl dL_law_1231 ?_
  refine g_iload X 4 rfl dL_law_1232 ?_
  refine g_iconst X 2 (by decide) dL_law_1234 ?_
  refine g_iadd X dL_law_1235 ?_
  refine gG_top (nI ((7 * t) + 2)) (nI_add (7 * t) 2) ?_
  refine g_sld X SC ((7 * t) + 2) rfl (by omega) (by omega) dL_law_1236 ?_
  refine g_aload_n X 3 rfl dL_law_1237 ?_
  refine g_callH X T hR (k := 4) (As := [.ref (B.2.1 0 0 0), .int (xs ((7 * t) + 1)), .int (xs ((7 * t) + 2)), .ref (B.2.1 28 0 0)]) (rest := []) qT_yL_foresee qC_yL_foresee qN_L (by decide +kernel) (by decide +kernel) qL_L_138 (h_foresee T.st hI V w (xs (7 * t + 1)) (xs (7 * t + 2)) hQ hv.1 hN) rfl rfl (Nat.le_of_ble_eq_true rfl) ⟨Nat.le_of_ble_eq_true rfl, Nat.le_of_ble_eq_true rfl, by show n.1 + 1 ≤ 601024; omega, by show n.2 + 6 ≤ 7293034; omega⟩ dL_law_1238 (fun v9 V9 z9 h9 => ?_)
  obtain ⟨e9, hz9, hq9, hn9, hc9⟩ := h9
  subst e9
  refine gG_st [.int (nI (oSee w (xs (7 * t + 1)) (xs (7 * t + 2))).1)] rfl ?_
  have X := gX_out (z := z9) X
  have hI := gX_I X
  have SC := gSC_out (z := z9) SC
  have hMa := hM.cm hc9
  refine gG_n (n.1 + 1, n.2 + 6) rfl ?_
  refine g_istore X dL_law_1241 [(5, .int (nI (oSee w (xs (7 * t + 1)) (xs (7 * t + 2))).1)), (0, .ref b), (1, .ref (B.2.1 0 0 0)), (2, .ref (B.2.1 20 0 0)), (3, .ref (B.2.1 28 0 0)), (4, .int (nI (7 * t)))] rfl (gnl_lt hnL (by decide)) ?_
  refine g_aload_n X 3 rfl dL_law_1243 ?_
  refine g_aload_n X 1 rfl dL_law_1244 ?_
  refine g_iload X 5 rfl dL_law_1245 ?_
  refine g_iconst X 1 (by decide) dL_law_1247 ?_
  refine g_iadd X dL_law_1248 ?_
  refine gG_top (nI ((7 * t) + 1)) (nI_1 _) ?_
  refine g_sld X SC ((7 * t) + 1) rfl (by omega) (by omega) dL_law_1249 ?_
  refine g_aload_n X 1 rfl dL_law_1250 ?_
  refine g_iload X 5 rfl dL_law_1251 ?_
  refine g_iconst X 2 (by decide) dL_law_1253 ?_
  refine g_iadd X dL_law_1254 ?_
  refine gG_top (nI ((7 * t) + 2)) (nI_add (7 * t) 2) ?_
  refine g_sld X SC ((7 * t) + 2) rfl (by omega) (by omega) dL_law_1255 ?_
  refine g_callV X hR (rest := []) mX8_foresee lL_140 (k_Mforesee hI V9 w (xs (7 * t + 1)) (xs (7 * t + 2)) hMa hv.1) rfl rfl (Nat.le_of_ble_eq_true rfl) ⟨by decide, by decide⟩ rfl rfl rfl ⟨Nat.le_of_ble_eq_true rfl, Nat.le_of_ble_eq_true rfl, by show n.1 + 1 + 0 ≤ 601024; omega, by show n.2 + 6 + 0 ≤ 7293034; omega⟩ dL_law_1256 (fun r1 V2 hz_3 => ?_)
  refine gG_rv hz_3.1 ?_
  obtain ⟨-, hth9, hM9, hmm9⟩ := hz_3
  refine gG_st [.int ((oSee w (xs (7 * t + 1)) (xs (7 * t + 2))).2.1)] rfl ?_
  refine gG_n (n.1 + 1, n.2 + 6) rfl ?_
  refine g_istore X dL_law_1259 [(6, .int ((oSee w (xs (7 * t + 1)) (xs (7 * t + 2))).2.1)), (5, .int (nI (oSee w (xs (7 * t + 1)) (xs (7 * t + 2))).1)), (0, .ref b), (1, .ref (B.2.1 0 0 0)), (2, .ref (B.2.1 20 0 0)), (3, .ref (B.2.1 28 0 0)), (4, .int (nI (7 * t)))] rfl (gnl_lt hnL (by decide)) ?_
  refine g_aload_n X 4 rfl dL_law_1261 ?_
  refine g_callV X hR (rest := []) mX8_thrown lL_79 (k_thrown hI V2 ) rfl rfl (Nat.le_of_ble_eq_true rfl) ⟨by decide, by decide⟩ rfl rfl rfl ⟨Nat.le_of_ble_eq_true rfl, Nat.le_of_ble_eq_true rfl, by show n.1 + 1 + 0 ≤ 601024; omega, by show n.2 + 6 + 0 ≤ 7293034; omega⟩ dL_law_1262 (fun r4 V5 hz_6 => ?_)
  refine gG_ret hz_6.1 hz_6.2 ?_
  refine gG_st [.int (V2 20 0 0 0)] rfl ?_
  refine gG_n (n.1 + 1, n.2 + 6) rfl ?_
  refine gG_top (nI (oSee w (xs (7 * t + 1)) (xs (7 * t + 2))).1) (hth9) ?_
  refine g_iload X 1 rfl dL_law_1265 ?_
  refine g_icmp_eq X 1272 (by decide) dL_law_1267 (fun c7 => ?_) (fun c7 => ?_)
  · refine g_iload X 1 rfl dL_law_1272 ?_
    by_cases ho9 : (oSee w (xs (7 * t + 1)) (xs (7 * t + 2))).1 = 0
    · skip
      refine g_if_ne X 1289 (by decide) dL_law_1274 (fun c8 => ?_) (fun c8 => ?_)
      · first | exact absurd (fun z => z (by rw [ho9]; rfl)) c8 | exact absurd c8 (fun z => z (by rw [ho9]; rfl))
      · refine g_aload_n X 5 rfl dL_law_1277 ?_
        refine g_iconst X 0 (by decide) dL_law_1278 ?_
        refine g_laldO X rfl dL_law_1279 ?_
        refine gG_st [.long z9] rfl ?_
        refine g_iload X 0 rfl dL_law_1280 ?_
        refine g_i2l X dL_law_1282 ?_
        refine g_lcmp X dL_law_1283 ?_
        refine g_if_eq X 1289 (by decide) dL_law_1284 (fun c9 => ?_) (fun c9 => ?_)
        · refine g_goto X 1347 (by decide) dL_law_1289 ?_
          refine gG_L [2, 3, 4, 5, 6] (L' := [(0, .ref b), (1, .ref (B.2.1 0 0 0)), (2, .ref (B.2.1 20 0 0)), (3, .ref (B.2.1 28 0 0)), (4, .int (nI (7 * t)))]) rfl ?_
          refine g_widen (n.1 + 12, n.2 + 130) (by show n.1 + 1 ≤ n.1 + 12; omega) (by show n.2 + 6 ≤ n.2 + 130; omega) ?_
          exact kk _ _ z9 (hv.see (xs (7 * t + 1)) (xs (7 * t + 2))) (hq9.mm hmm9) hM9 (hn9.mm hmm9) (oSee_t w (xs (7 * t + 1)) (xs (7 * t + 2)))
        · first | exact absurd ((lg_cmp_eq _ _).mpr (hz9 ho9)) c9 | exact absurd c9 ((lg_cmp_eq _ _).mpr (hz9 ho9))
    · skip
      refine g_if_ne X 1289 (by decide) dL_law_1274 (fun c10 => ?_) (fun c10 => ?_)
      · refine g_goto X 1347 (by decide) dL_law_1289 ?_
        refine gG_L [2, 3, 4, 5, 6] (L' := [(0, .ref b), (1, .ref (B.2.1 0 0 0)), (2, .ref (B.2.1 20 0 0)), (3, .ref (B.2.1 28 0 0)), (4, .int (nI (7 * t)))]) rfl ?_
        refine g_widen (n.1 + 12, n.2 + 130) (by show n.1 + 1 ≤ n.1 + 12; omega) (by show n.2 + 6 ≤ n.2 + 130; omega) ?_
        exact kk _ _ z9 (hv.see (xs (7 * t + 1)) (xs (7 * t + 2))) (hq9.mm hmm9) hM9 (hn9.mm hmm9) (oSee_t w (xs (7 * t + 1)) (xs (7 * t + 2)))
      · first | exact absurd (nI_ne0 (Nat.pos_of_ne_zero ho9) (by have := oSee_2 w (xs (7 * t + 1)) (xs (7 * t + 2)); omega)) c10 | exact absurd c10 (nI_ne0 (Nat.pos_of_ne_zero ho9) (by have := oSee_2 w (xs (7 * t + 1)) (xs (7 * t + 2)); omega))
  · first | exact absurd (rfl) c7 | exact absurd c7 (rfl)

set_option maxRecDepth 20000 in
theorem law_mean {Z : gZ} {B : gB} {b L : Nat} {xs : Nat → Int32} (X : gX Z B cL_law RL) (T : gTL Z B) (hR : gRm Z = room_1) (hnL : gnL Z = 9) (SC : gSC Z B b L xs) (h0 : B.2.2.2.2 = 0) {t : Nat} (ht : 7 * t + 7 ≤ L) (hL : L ≤ 3584) {n : Nat × Nat} (hn1 : n.1 + 12 ≤ 601024) (hn2 : n.2 + 130 ≤ 7293034) {V : gMem} {w : gWd} (hv : vOk w) (hQ : COk V w) (hM : MOk V w) (hN : N15 V) (ht20 : w.1.1 0 < 2 ^ 20) (kk : lawK Z B n b t w) : gG Z B n V 1292 [(0, .ref b), (1, .ref (B.2.1 0 0 0)), (2, .ref (B.2.1 20 0 0)), (3, .ref (B.2.1 28 0 0)), (4, .int (nI (7 * t)))] [] := by
  have hI := gX_I X
  obtain ⟨v9, hv9⟩ : ∃ v, Op.cmpValue (FP.dcmp (oMean w.1) (oMean w.1)) CmpOp.l = v := ⟨_, rfl⟩
  refine g_aload_n X 1 rfl dL_law_1292 ?_
  refine g_callV X hR (rest := []) mX6_mean lL_141 (k_Cmean hI V w hQ hv.1 ht20) rfl rfl (Nat.le_of_ble_eq_true rfl) ⟨by decide, by decide⟩ rfl rfl rfl ⟨Nat.le_of_ble_eq_true rfl, Nat.le_of_ble_eq_true rfl, by show n.1 + 0 ≤ 601024; omega, by show n.2 + 0 ≤ 7293034; omega⟩ dL_law_1293 (fun r1 V2 hz_3 => ?_)
  refine gG_ret hz_3.1 hz_3.2 ?_
  refine gG_st [.double (oMean w.1)] rfl ?_
  refine gG_n n rfl ?_
  refine g_dstore X dL_law_1296 [(5, .double (oMean w.1)), (0, .ref b), (1, .ref (B.2.1 0 0 0)), (2, .ref (B.2.1 20 0 0)), (3, .ref (B.2.1 28 0 0)), (4, .int (nI (7 * t)))] rfl (gnl_lt hnL (by decide)) ?_
  refine g_aload_n X 3 rfl dL_law_1298 ?_
  refine g_callV X hR (rest := []) mX8_mean lL_145 (k_Mmean hI V w hM hv.1 ht20) rfl rfl (Nat.le_of_ble_eq_true rfl) ⟨by decide, by decide⟩ rfl rfl rfl ⟨Nat.le_of_ble_eq_true rfl, Nat.le_of_ble_eq_true rfl, by show n.1 + 0 ≤ 601024; omega, by show n.2 + 0 ≤ 7293034; omega⟩ dL_law_1299 (fun r4 V5 hz_6 => ?_)
  refine gG_rv hz_6.1 ?_
  obtain ⟨-, -, hM9, hmm9⟩ := hz_6
  refine gG_st [.double (oMean w.1)] rfl ?_
  refine gG_n n rfl ?_
  refine g_dstore X dL_law_1302 [(7, .double (oMean w.1)), (5, .double (oMean w.1)), (0, .ref b), (1, .ref (B.2.1 0 0 0)), (2, .ref (B.2.1 20 0 0)), (3, .ref (B.2.1 28 0 0)), (4, .int (nI (7 * t)))] rfl (gnl_lt hnL (by decide)) ?_
  refine g_dload X 1 rfl dL_law_1304 ?_
  refine g_dload X 0 rfl dL_law_1306 ?_
  refine g_dcmp X v9 hv9 dL_law_1308 ?_
  by_cases h9 : v9 = 0
  · skip
    refine g_if_eq X 1330 (by decide) dL_law_1309 (fun c7 => ?_) (fun c7 => ?_)
    · refine g_goto X 1347 (by decide) dL_law_1330 ?_
      refine gG_L [2, 3, 4, 5, 6] (L' := [(0, .ref b), (1, .ref (B.2.1 0 0 0)), (2, .ref (B.2.1 20 0 0)), (3, .ref (B.2.1 28 0 0)), (4, .int (nI (7 * t)))]) rfl ?_
      refine g_widen (n.1 + 12, n.2 + 130) (by show n.1 + 0 ≤ n.1 + 12; omega) (by show n.2 + 0 ≤ n.2 + 130; omega) ?_
      exact kk _ w B.2.2.2.1 hv (hQ.mm hmm9) hM9 (hN.mm hmm9) (Nat.le_add_right _ _)
    · first | exact absurd (h9) c7 | exact absurd c7 (h9)
  · skip
    refine g_if_eq X 1330 (by decide) dL_law_1309 (fun c8 => ?_) (fun c8 => ?_)
    · first | exact absurd (h9) c8 | exact absurd c8 (h9)
    · refine g_dload X 1 rfl dL_law_1312 ?_
      refine g_dload X 1 rfl dL_law_1314 ?_
      refine g_dcmp X v9 hv9 dL_law_1316 ?_
      refine g_if_eq X 1328 (by decide) dL_law_1317 (fun c9 => ?_) (fun c9 => ?_)
      · first | exact absurd (h9) c9 | exact absurd c9 (h9)
      · refine g_dload X 0 rfl dL_law_1320 ?_
        refine g_dload X 0 rfl dL_law_1322 ?_
        refine g_dcmp X v9 hv9 dL_law_1324 ?_
        refine g_if_ne X 1330 (by decide) dL_law_1325 (fun c10 => ?_) (fun c10 => ?_)
        · refine g_goto X 1347 (by decide) dL_law_1330 ?_
          refine gG_L [2, 3, 4, 5, 6] (L' := [(0, .ref b), (1, .ref (B.2.1 0 0 0)), (2, .ref (B.2.1 20 0 0)), (3, .ref (B.2.1 28 0 0)), (4, .int (nI (7 * t)))]) rfl ?_
          refine g_widen (n.1 + 12, n.2 + 130) (by show n.1 + 0 ≤ n.1 + 12; omega) (by show n.2 + 0 ≤ n.2 + 130; omega) ?_
          exact kk _ w B.2.2.2.1 hv (hQ.mm hmm9) hM9 (hN.mm hmm9) (Nat.le_add_right _ _)
        · first | exact absurd (h9) c10 | exact absurd c10 (h9)

set_option maxRecDepth 20000 in
theorem law_digest {Z : gZ} {B : gB} {b L : Nat} {xs : Nat → Int32} (X : gX Z B cL_law RL) (T : gTL Z B) (hR : gRm Z = room_1) (hnL : gnL Z = 9) (SC : gSC Z B b L xs) (h0 : B.2.2.2.2 = 0) {t : Nat} (ht : 7 * t + 7 ≤ L) (hL : L ≤ 3584) {n : Nat × Nat} (hn1 : n.1 + 12 ≤ 601024) (hn2 : n.2 + 130 ≤ 7293034) {V : gMem} {w : gWd} (hv : vOk w) (hQ : COk V w) (hM : MOk V w) (hN : N15 V) (ht20 : w.1.1 0 < 2 ^ 20) (kk : lawK Z B n b t w) : gG Z B n V 1333 [(0, .ref b), (1, .ref (B.2.1 0 0 0)), (2, .ref (B.2.1 20 0 0)), (3, .ref (B.2.1 28 0 0)), (4, .int (nI (7 * t)))] [] := by
  have hI := gX_I X
  refine g_aload_n X 1 rfl dL_law_1333 ?_
  refine g_callV X hR (rest := []) mX6_digest lL_146 (k_Cdigest hI V w hQ hv.1) rfl rfl (Nat.le_of_ble_eq_true rfl) ⟨by decide, by decide⟩ rfl rfl rfl ⟨Nat.le_of_ble_eq_true rfl, Nat.le_of_ble_eq_true rfl, by show n.1 + 0 ≤ 601024; omega, by show n.2 + 0 ≤ 7293034; omega⟩ dL_law_1334 (fun r1 V2 hz_3 => ?_)
  refine gG_ret hz_3.1 hz_3.2 ?_
  refine gG_st [.long (oDig w)] rfl ?_
  refine gG_n n rfl ?_
  refine g_aload_n X 2 rfl dL_law_1337 ?_
  refine g_callV X hR (rest := [.long (oDig w)]) mX8_digest lL_150 (k_Mdigest hI V w hM hv.1 h0) rfl rfl (Nat.le_of_ble_eq_true rfl) ⟨by decide, by decide⟩ rfl rfl rfl ⟨Nat.le_of_ble_eq_true rfl, Nat.le_of_ble_eq_true rfl, by show n.1 + 11 ≤ 601024; omega, by show n.2 + 121 ≤ 7293034; omega⟩ dL_law_1338 (fun r4 V5 hz_6 => ?_)
  refine gG_rv hz_6.1 ?_
  obtain ⟨-, -, hM9, hmm9⟩ := hz_6
  refine gG_st [.long (oDig w), .long (oDig w)] rfl ?_
  refine gG_n (n.1 + 11, n.2 + 121) rfl ?_
  refine gG_n (n.1 + 11, n.2 + 121) rfl ?_
  refine g_lcmp X dL_law_1341 ?_
  refine g_if_eq X 1347 (by decide) dL_law_1342 (fun c7 => ?_) (fun c7 => ?_)
  · refine g_widen (n.1 + 12, n.2 + 130) (by show n.1 + 11 ≤ n.1 + 12; omega) (by show n.2 + 121 ≤ n.2 + 130; omega) ?_
    exact kk _ w B.2.2.2.1 hv (hQ.mm hmm9) hM9 (hN.mm hmm9) (Nat.le_add_right _ _)
  · first | exact absurd ((lg_cmp_eq _ _).mpr rfl) c7 | exact absurd c7 ((lg_cmp_eq _ _).mpr rfl)

