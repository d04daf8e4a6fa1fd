theorem nI_lit20 : nI 20 = 20 := rfl
theorem nI_lit21 : nI 21 = 21 := rfl
theorem nI_lit22 : nI 22 = 22 := rfl
theorem nI_lit23 : nI 23 = 23 := rfl
set_option maxRecDepth 100000 in
set_option maxHeartbeats 4000000 in
theorem c_X12_reads (l : Launch) (E : EE) (b : Nat → Nat) (mf : Nat → Int32) (hf : Nat → Int32) (wf : Nat → Int32) (ik : Int32) (fd : Nat → Int32) (tch : Int32) (tp : Nat → Int32) (tk : Int32) (tb : Int32) (tv : Int32) (bad : Int32) (bo : Nat → Int32) (so : Nat → Int32) (ce : Nat → Int64) (n : Nat) (e : Nat) (hn : n ≤ 120) (he : e ≤ n) : Kd l yX12_reads cX12_reads 1 none 2 46 E (modW E b mf hf wf ik fd tch tp (nI n) tk tb (nI e) tv bad bo so ce) [.ref (b 0)] none (modW E b mf hf wf ik fd tch tp (nI n) (nI (mkS tp n (skS tp n e))) (nI (skS tp n e)) (nI (enS tp n (skS tp n e))) (tvS tp n (skS tp n e)) bad bo so ce) := by
  refine Kn.ofWv (by decide +kernel) (Nat.le_of_ble_eq_true rfl) ?_
  intro pg ev s0 mm below meth cd Q K X fin ls hl
  have hx := K.1
  have hb := K.2.1
  have hl : lv_has ls 1 [(0, .ref (b 0))] := hl
  have lp0 : ∀ (fu : Nat) (i : Nat) (hfu : n - i < fu) (hii : i ≤ n) (hR : runF isSp tp n i = runF isSp tp n e) (ls : Array Slot) (hl : lv_has ls 1 [(0, .ref (b 0))]) (H : Heap) (locs : List Loc) (X : Wd E (inW (modW E b mf hf wf ik fd tch tp (nI n) tk tb (nI e) tv bad bo so ce)) s0.heap (modW E b mf hf wf ik fd tch tp (nI n) tk tb (nI i) tv bad bo so ce) H locs), W pg l ev (rmK 2 46) s0 mm ([.ref (b 0)] : List Value).toArray below meth cd H locs 0 0 Q (F0 mm 0 ls []) := by
    intro fu
    induction fu with
    | zero => intro i hfu; exact absurd hfu (Nat.not_lt_zero _)
    | succ fu ih0 =>
      intro i hfu hii hR ls hl H locs X
      refine lv_aload_n hx hb dX12_reads_0 rfl (lv_at hl 0 rfl) ?_
      refine lv_aload_n hx hb dX12_reads_1 rfl (lv_at hl 0 rfl) ?_
      refine k_get K X 0 rfl fg_X12_171 (v := .int (nI i)) rfl dX12_reads_2 ?_
      refine lv_bipush (v := 32) hx hb dX12_reads_5 (by decide) ?_
      refine lv_bipush (v := 32) hx hb dX12_reads_7 (by decide) ?_
      refine k_callV K X gv_X12_177 (As := [.int (nI i), .int 32, .int 32]) (c_X12_isByte l E b mf hf wf ik fd tch tp tk tb (nI i) tv bad bo so ce n i 32 32 (by omega) (by omega)) [0, 1, 2, 3, 4, 5, 6, 7, 8] modW_idC (by decide +kernel) (fun _ => modW_fst) 0 12 rfl rfl (by decide) rfl hl.1 (rest := []) rfl (Nat.le_of_ble_eq_true rfl) dX12_reads_9 (st1 := fun _ => [.int (b2i (decide (i < n) && inR (tp i) 32 32))]) (fun _ => rfl) (fun _ H locs _ X => ?_)
      have X : Wd E _ _ (modW E b mf hf wf ik fd tch tp (nI n) tk tb (nI i) tv bad bo so ce) _ _ := X.eq modW_idP
      refine k_ifeqB (B := (decide (i < n) && inR (tp i) 32 32)) hx hb 28 dX12_reads_12 (by decide) (fun c12 => ?_) (fun c12 => ?_)
      · have hsp : i < n → isSp (tp i) = false := by simpa [isSp] using c12
        have hs : skS tp n e = i := by rw [skS, ← hR]; exact runF_end hsp
        refine lv_aload_n hx hb dX12_reads_28 rfl (lv_at hl 0 rfl) ?_
        refine lv_aload_n hx hb dX12_reads_29 rfl (lv_at hl 0 rfl) ?_
        refine k_get K X 0 rfl fg_X12_171 (v := .int (nI i)) rfl dX12_reads_30 ?_
        refine k_put K X 0 rfl fp_X12_168 (v := .int (nI i)) rfl rfl (Nat.le_of_ble_eq_true rfl) dX12_reads_33 (fun H locs X => ?_)
        have X : Wd E _ _ (modW E b mf hf wf ik fd tch tp (nI n) tk (nI i) (nI i) tv bad bo so ce) _ _ := X
        refine lv_aload_n hx hb dX12_reads_36 rfl (lv_at hl 0 rfl) ?_
        refine lv_iconst (v := 0) hx hb dX12_reads_37 (by decide) ?_
        refine k_put K X 0 rfl fp_X12_180 (v := .int 0) rfl rfl (Nat.le_of_ble_eq_true rfl) dX12_reads_38 (fun H locs X => ?_)
        have X : Wd E _ _ (modW E b mf hf wf ik fd tch tp (nI n) tk (nI i) (nI i) 0 bad bo so ce) _ _ := X
        refine lv_aload_n hx hb dX12_reads_41 rfl (lv_at hl 0 rfl) ?_
        refine k_get K X 0 rfl fg_X12_171 (v := .int (nI i)) rfl dX12_reads_42 ?_
        refine lv_aload_n hx hb dX12_reads_45 rfl (lv_at hl 0 rfl) ?_
        refine k_get K X 0 rfl fg_X12_162 (v := .int (nI n)) rfl dX12_reads_46 ?_
        refine kN_ne (x := i) (y := n) hx hb 61 dX12_reads_49 (by decide) (by omega) (by omega) (fun c49 => ?_) (fun c49 => ?_)
        · have hlt : i < n := by omega
          have hge : ¬ n ≤ i := by omega
          refine lv_aload_n hx hb dX12_reads_61 rfl (lv_at hl 0 rfl) ?_
          refine lv_aload_n hx hb dX12_reads_62 rfl (lv_at hl 0 rfl) ?_
          refine k_get K X 0 rfl fg_X12_171 (v := .int (nI i)) rfl dX12_reads_63 ?_
          refine lv_bipush (v := 97) hx hb dX12_reads_66 (by decide) ?_
          refine lv_bipush (v := 122) hx hb dX12_reads_68 (by decide) ?_
          refine k_callV K X gv_X12_177 (As := [.int (nI i), .int 97, .int 122]) (c_X12_isByte l E b mf hf wf ik fd tch tp tk (nI i) (nI i) 0 bad bo so ce n i 97 122 (by omega) (by omega)) [0, 1, 2, 3, 4, 5, 6, 7, 8] modW_idC (by decide +kernel) (fun _ => modW_fst) 0 12 rfl rfl (by decide) rfl hl.1 (rest := []) rfl (Nat.le_of_ble_eq_true rfl) dX12_reads_70 (st1 := fun _ => [.int (b2i (decide (i < n) && inR (tp i) 97 122))]) (fun _ => rfl) (fun _ H locs _ X => ?_)
          have X : Wd E _ _ (modW E b mf hf wf ik fd tch tp (nI n) tk (nI i) (nI i) 0 bad bo so ce) _ _ := X.eq modW_idP
          refine k_ifeqB (B := (decide (i < n) && inR (tp i) 97 122)) hx hb 115 dX12_reads_73 (by decide) (fun c73 => ?_) (fun c73 => ?_)
          · have hle : i < n → isLet (tp i) = false := by simpa [isLet] using c73
            have hle := hle hlt
            refine lv_aload_n hx hb dX12_reads_115 rfl (lv_at hl 0 rfl) ?_
            refine lv_aload_n hx hb dX12_reads_116 rfl (lv_at hl 0 rfl) ?_
            refine k_get K X 0 rfl fg_X12_171 (v := .int (nI i)) rfl dX12_reads_117 ?_
            refine lv_bipush (v := 48) hx hb dX12_reads_120 (by decide) ?_
            refine lv_bipush (v := 57) hx hb dX12_reads_122 (by decide) ?_
            refine k_callV K X gv_X12_177 (As := [.int (nI i), .int 48, .int 57]) (c_X12_isByte l E b mf hf wf ik fd tch tp tk (nI i) (nI i) 0 bad bo so ce n i 48 57 (by omega) (by omega)) [0, 1, 2, 3, 4, 5, 6, 7, 8] modW_idC (by decide +kernel) (fun _ => modW_fst) 0 12 rfl rfl (by decide) rfl hl.1 (rest := []) rfl (Nat.le_of_ble_eq_true rfl) dX12_reads_124 (st1 := fun _ => [.int (b2i (decide (i < n) && inR (tp i) 48 57))]) (fun _ => rfl) (fun _ H locs _ X => ?_)
            have X : Wd E _ _ (modW E b mf hf wf ik fd tch tp (nI n) tk (nI i) (nI i) 0 bad bo so ce) _ _ := X.eq modW_idP
            refine k_ifeqB (B := (decide (i < n) && inR (tp i) 48 57)) hx hb 208 dX12_reads_127 (by decide) (fun c127 => ?_) (fun c127 => ?_)
            · have hdi : i < n → isDig (tp i) = false := by simpa [isDig] using c127
              have hdi := hdi hlt
              refine lv_aload_n hx hb dX12_reads_208 rfl (lv_at hl 0 rfl) ?_
              refine lv_aload_n hx hb dX12_reads_209 rfl (lv_at hl 0 rfl) ?_
              refine lv_aload_n hx hb dX12_reads_210 rfl (lv_at hl 0 rfl) ?_
              refine k_get K X 0 rfl fg_X12_171 (v := .int (nI i)) rfl dX12_reads_211 ?_
              refine lv_bipush (v := 59) hx hb dX12_reads_214 (by decide) ?_
              refine lv_bipush (v := 59) hx hb dX12_reads_216 (by decide) ?_
              refine k_callV K X gv_X12_177 (As := [.int (nI i), .int 59, .int 59]) (c_X12_isByte l E b mf hf wf ik fd tch tp tk (nI i) (nI i) 0 bad bo so ce n i 59 59 (by omega) (by omega)) [0, 1, 2, 3, 4, 5, 6, 7, 8] modW_idC (by decide +kernel) (fun _ => modW_fst) 0 12 rfl rfl (by decide) rfl hl.1 (rest := [.ref (b 0)]) rfl (Nat.le_of_ble_eq_true rfl) dX12_reads_218 (st1 := fun _ => [.int (b2i (decide (i < n) && inR (tp i) 59 59)), .ref (b 0)]) (fun _ => rfl) (fun _ H locs _ X => ?_)
              have X : Wd E _ _ (modW E b mf hf wf ik fd tch tp (nI n) tk (nI i) (nI i) 0 bad bo so ce) _ _ := X.eq modW_idP
              refine k_ifeqB (B := (decide (i < n) && inR (tp i) 59 59)) hx hb 229 dX12_reads_221 (by decide) (fun c221 => ?_) (fun c221 => ?_)
              · have h59 : ¬ tp i = 59 := by have := c221; rw [inR_one] at this; simpa [hlt] using this
                refine lv_bipush (v := 23) hx hb dX12_reads_229 (by decide) ?_
                refine k_put K X 0 rfl fp_X12_183 (v := .int 23) rfl rfl (Nat.le_of_ble_eq_true rfl) dX12_reads_231 (fun H locs X => ?_)
                have X : Wd E _ _ (modW E b mf hf wf ik fd tch tp (nI n) 23 (nI i) (nI i) 0 bad bo so ce) _ _ := X
                refine lv_aload_n hx hb dX12_reads_234 rfl (lv_at hl 0 rfl) ?_
                refine lv_dup hx hb dX12_reads_235 rfl ?_
                refine k_get K X 0 rfl fg_X12_171 (v := .int (nI i)) rfl dX12_reads_236 ?_
                refine lv_iconst (v := 1) hx hb dX12_reads_239 (by decide) ?_
                refine lv_iadd hx hb dX12_reads_240 ?_
                refine k_topi (nI_add i 1) ?_
                refine k_put K X 0 rfl fp_X12_171 (v := .int (nI (i + 1))) rfl rfl (Nat.le_of_ble_eq_true rfl) dX12_reads_241 (fun H locs X => ?_)
                have X : Wd E _ _ (modW E b mf hf wf ik fd tch tp (nI n) 23 (nI i) (nI (i + 1)) 0 bad bo so ce) _ _ := X
                exact fin () 244 _ _ _ trivial (X.eq (by rw [hs]; simp [mkS, enS, tvS, nI_lit22, nI_lit20, nI_lit21, nI_lit23, show isLet 59 = false from by decide, show isDig 59 = false from by decide, hge, hlt, hle, hdi, h59])) dX12_reads_244
              · have h59 : tp i = 59 := by have := c221; rw [inR_one] at this; simpa [hlt] using this
                refine lv_bipush (v := 21) hx hb dX12_reads_224 (by decide) ?_
                refine lv_goto (tgt := 231) hx hb dX12_reads_226 (by decide) ?_
                refine k_put K X 0 rfl fp_X12_183 (v := .int 21) rfl rfl (Nat.le_of_ble_eq_true rfl) dX12_reads_231 (fun H locs X => ?_)
                have X : Wd E _ _ (modW E b mf hf wf ik fd tch tp (nI n) 21 (nI i) (nI i) 0 bad bo so ce) _ _ := X
                refine lv_aload_n hx hb dX12_reads_234 rfl (lv_at hl 0 rfl) ?_
                refine lv_dup hx hb dX12_reads_235 rfl ?_
                refine k_get K X 0 rfl fg_X12_171 (v := .int (nI i)) rfl dX12_reads_236 ?_
                refine lv_iconst (v := 1) hx hb dX12_reads_239 (by decide) ?_
                refine lv_iadd hx hb dX12_reads_240 ?_
                refine k_topi (nI_add i 1) ?_
                refine k_put K X 0 rfl fp_X12_171 (v := .int (nI (i + 1))) rfl rfl (Nat.le_of_ble_eq_true rfl) dX12_reads_241 (fun H locs X => ?_)
                have X : Wd E _ _ (modW E b mf hf wf ik fd tch tp (nI n) 21 (nI i) (nI (i + 1)) 0 bad bo so ce) _ _ := X
                exact fin () 244 _ _ _ trivial (X.eq (by rw [hs]; simp [mkS, enS, tvS, nI_lit22, nI_lit20, nI_lit21, nI_lit23, show isLet 59 = false from by decide, show isDig 59 = false from by decide, hge, hlt, hle, hdi, h59])) dX12_reads_244
            · obtain ⟨hdil, hdi⟩ : i < n ∧ isDig (tp i) = true := by simpa [isDig] using c127
              have lp130 : ∀ (fu : Nat) (j : Nat) (v : Nat) (hfu : n - j < fu) (hij : j ≤ n) (hRj : runF isDig tp n j = runF isDig tp n i) (hV : numG tp n j v = numF tp n i) (hv : v ≤ 10000) (ls : Array Slot) (hl : lv_has ls 1 [(0, .ref (b 0))]) (H : Heap) (locs : List Loc) (X : Wd E (inW (modW E b mf hf wf ik fd tch tp (nI n) tk tb (nI e) tv bad bo so ce)) s0.heap (modW E b mf hf wf ik fd tch tp (nI n) tk (nI i) (nI j) (nI v) bad bo so ce) H locs), W pg l ev (rmK 2 46) s0 mm ([.ref (b 0)] : List Value).toArray below meth cd H locs 0 0 Q (F0 mm 130 ls []) := by
                intro fu
                induction fu with
                | zero => intro j v hfu; exact absurd hfu (Nat.not_lt_zero _)
                | succ fu ih130 =>
                  intro j v hfu hij hRj hV hv ls hl H locs X
                  refine lv_aload_n hx hb dX12_reads_130 rfl (lv_at hl 0 rfl) ?_
                  refine lv_aload_n hx hb dX12_reads_131 rfl (lv_at hl 0 rfl) ?_
                  refine k_get K X 0 rfl fg_X12_171 (v := .int (nI j)) rfl dX12_reads_132 ?_
                  refine lv_bipush (v := 48) hx hb dX12_reads_135 (by decide) ?_
                  refine lv_bipush (v := 57) hx hb dX12_reads_137 (by decide) ?_
                  refine k_callV K X gv_X12_177 (As := [.int (nI j), .int 48, .int 57]) (c_X12_isByte l E b mf hf wf ik fd tch tp tk (nI i) (nI j) (nI v) bad bo so ce n j 48 57 (by omega) (by omega)) [0, 1, 2, 3, 4, 5, 6, 7, 8] modW_idC (by decide +kernel) (fun _ => modW_fst) 0 12 rfl rfl (by decide) rfl hl.1 (rest := []) rfl (Nat.le_of_ble_eq_true rfl) dX12_reads_139 (st1 := fun _ => [.int (b2i (decide (j < n) && inR (tp j) 48 57))]) (fun _ => rfl) (fun _ H locs _ X => ?_)
                  have X : Wd E _ _ (modW E b mf hf wf ik fd tch tp (nI n) tk (nI i) (nI j) (nI v) bad bo so ce) _ _ := X.eq modW_idP
                  refine k_ifeqB (B := (decide (j < n) && inR (tp j) 48 57)) hx hb 199 dX12_reads_142 (by decide) (fun c142 => ?_) (fun c142 => ?_)
                  · have hdn : j < n → isDig (tp j) = false := by simpa [isDig] using c142
                    have hw2 : runF isDig tp n i = j := by rw [← hRj]; exact runF_end hdn
                    have hv2 : numF tp n i = v := by rw [← hV]; exact numG_end hdn
                    refine lv_aload_n hx hb dX12_reads_199 rfl (lv_at hl 0 rfl) ?_
                    refine lv_bipush (v := 20) hx hb dX12_reads_200 (by decide) ?_
                    refine k_put K X 0 rfl fp_X12_183 (v := .int 20) rfl rfl (Nat.le_of_ble_eq_true rfl) dX12_reads_202 (fun H locs X => ?_)
                    have X : Wd E _ _ (modW E b mf hf wf ik fd tch tp (nI n) 20 (nI i) (nI j) (nI v) bad bo so ce) _ _ := X
                    refine lv_goto (tgt := 244) hx hb dX12_reads_205 (by decide) ?_
                    exact fin () 244 _ _ _ trivial (X.eq (by rw [hs]; simp [mkS, enS, tvS, nI_lit22, nI_lit20, nI_lit21, nI_lit23, show isLet 59 = false from by decide, show isDig 59 = false from by decide, hge, hlt, hle, hdi, hw2, hv2])) dX12_reads_244
                  · obtain ⟨hdl, hd⟩ : j < n ∧ isDig (tp j) = true := by simpa [isDig] using c142
                    have hd57 := dig_le hd
                    refine lv_aload_n hx hb dX12_reads_145 rfl (lv_at hl 0 rfl) ?_
                    refine lv_aload_n hx hb dX12_reads_146 rfl (lv_at hl 0 rfl) ?_
                    refine k_get K X 0 rfl fg_X12_180 (v := .int (nI v)) rfl dX12_reads_147 ?_
                    refine lv_sipush (v := 999) hx hb dX12_reads_150 (by decide) ?_
                    refine kN_le (x := v) (y := 999) hx hb 163 dX12_reads_153 (by decide) (by omega) (by omega) (fun c153 => ?_) (fun c153 => ?_)
                    · refine lv_bipush (v := 10) hx hb dX12_reads_163 (by decide) ?_
                      refine lv_aload_n hx hb dX12_reads_165 rfl (lv_at hl 0 rfl) ?_
                      refine k_get K X 0 rfl fg_X12_180 (v := .int (nI v)) rfl dX12_reads_166 ?_
                      refine lv_imul hx hb dX12_reads_169 ?_
                      refine k_topi (pk_mul 10 v) ?_
                      refine lv_aload_n hx hb dX12_reads_170 rfl (lv_at hl 0 rfl) ?_
                      refine k_get K X 0 rfl fg_X12_22 (v := .ref (b 5)) rfl dX12_reads_171 ?_
                      refine lv_aload_n hx hb dX12_reads_174 rfl (lv_at hl 0 rfl) ?_
                      refine k_get K X 0 rfl fg_X12_171 (v := .int (nI j)) rfl dX12_reads_175 ?_
                      refine k_ialdN K X 5 rfl (k := j) (by omega) (by decide) dX12_reads_178 (v := tp j) rfl ?_
                      refine lv_iadd hx hb dX12_reads_179 ?_
                      refine lv_bipush (v := 48) hx hb dX12_reads_180 (by decide) ?_
                      refine lv_isub hx hb dX12_reads_182 ?_
                      refine k_topi (x' := nI (10 * v + ((tp j).toNatClampNeg - 48))) (num_dig hd) ?_
                      refine k_put K X 0 rfl fp_X12_180 (v := .int (nI (10 * v + ((tp j).toNatClampNeg - 48)))) rfl rfl (Nat.le_of_ble_eq_true rfl) dX12_reads_183 (fun H locs X => ?_)
                      have X : Wd E _ _ (modW E b mf hf wf ik fd tch tp (nI n) tk (nI i) (nI j) (nI (10 * v + ((tp j).toNatClampNeg - 48))) bad bo so ce) _ _ := X
                      refine lv_aload_n hx hb dX12_reads_186 rfl (lv_at hl 0 rfl) ?_
                      refine lv_dup hx hb dX12_reads_187 rfl ?_
                      refine k_get K X 0 rfl fg_X12_171 (v := .int (nI j)) rfl dX12_reads_188 ?_
                      refine lv_iconst (v := 1) hx hb dX12_reads_191 (by decide) ?_
                      refine lv_iadd hx hb dX12_reads_192 ?_
                      refine k_topi (nI_add j 1) ?_
                      refine k_put K X 0 rfl fp_X12_171 (v := .int (nI (j + 1))) rfl rfl (Nat.le_of_ble_eq_true rfl) dX12_reads_193 (fun H locs X => ?_)
                      have X : Wd E _ _ (modW E b mf hf wf ik fd tch tp (nI n) tk (nI i) (nI (j + 1)) (nI (10 * v + ((tp j).toNatClampNeg - 48))) bad bo so ce) _ _ := X
                      refine lv_goto (tgt := 130) hx hb dX12_reads_196 (by decide) ?_
                      exact ih130 (j + 1) (10 * v + ((tp j).toNatClampNeg - 48)) (by omega) (by omega) ((runF_go (by omega) hd).trans hRj) (by rw [← hV, ← numG_go (by omega) hd, numA, if_neg (by omega)]) (by omega) _ hl _ _ X
                    · refine lv_aload_n hx hb dX12_reads_156 rfl (lv_at hl 0 rfl) ?_
                      refine k_get K X 0 rfl fg_X12_180 (v := .int (nI v)) rfl dX12_reads_157 ?_
                      refine lv_goto (tgt := 183) hx hb dX12_reads_160 (by decide) ?_
                      refine k_put K X 0 rfl fp_X12_180 (v := .int (nI v)) rfl rfl (Nat.le_of_ble_eq_true rfl) dX12_reads_183 (fun H locs X => ?_)
                      have X : Wd E _ _ (modW E b mf hf wf ik fd tch tp (nI n) tk (nI i) (nI j) (nI v) bad bo so ce) _ _ := X
                      refine lv_aload_n hx hb dX12_reads_186 rfl (lv_at hl 0 rfl) ?_
                      refine lv_dup hx hb dX12_reads_187 rfl ?_
                      refine k_get K X 0 rfl fg_X12_171 (v := .int (nI j)) rfl dX12_reads_188 ?_
                      refine lv_iconst (v := 1) hx hb dX12_reads_191 (by decide) ?_
                      refine lv_iadd hx hb dX12_reads_192 ?_
                      refine k_topi (nI_add j 1) ?_
                      refine k_put K X 0 rfl fp_X12_171 (v := .int (nI (j + 1))) rfl rfl (Nat.le_of_ble_eq_true rfl) dX12_reads_193 (fun H locs X => ?_)
                      have X : Wd E _ _ (modW E b mf hf wf ik fd tch tp (nI n) tk (nI i) (nI (j + 1)) (nI v) bad bo so ce) _ _ := X
                      refine lv_goto (tgt := 130) hx hb dX12_reads_196 (by decide) ?_
                      exact ih130 (j + 1) v (by omega) (by omega) ((runF_go (by omega) hd).trans hRj) (by rw [← hV, ← numG_go (by omega) hd, numA, if_pos (by omega)]) (by omega) _ hl _ _ X
              exact lp130 ((n - i) + 1) i 0 (by omega) (by omega) (rfl) (rfl) (by omega) _ hl _ _ X
          · obtain ⟨hlel, hle⟩ : i < n ∧ isLet (tp i) = true := by simpa [isLet] using c73
            have lp76 : ∀ (fu : Nat) (j : Nat) (hfu : n - j < fu) (hij : j ≤ n) (hRj : runF isLet tp n j = runF isLet tp n i) (ls : Array Slot) (hl : lv_has ls 1 [(0, .ref (b 0))]) (H : Heap) (locs : List Loc) (X : Wd E (inW (modW E b mf hf wf ik fd tch tp (nI n) tk tb (nI e) tv bad bo so ce)) s0.heap (modW E b mf hf wf ik fd tch tp (nI n) tk (nI i) (nI j) 0 bad bo so ce) H locs), W pg l ev (rmK 2 46) s0 mm ([.ref (b 0)] : List Value).toArray below meth cd H locs 0 0 Q (F0 mm 76 ls []) := by
              intro fu
              induction fu with
              | zero => intro j hfu; exact absurd hfu (Nat.not_lt_zero _)
              | succ fu ih76 =>
                intro j hfu hij hRj ls hl H locs X
                refine lv_aload_n hx hb dX12_reads_76 rfl (lv_at hl 0 rfl) ?_
                refine lv_aload_n hx hb dX12_reads_77 rfl (lv_at hl 0 rfl) ?_
                refine k_get K X 0 rfl fg_X12_171 (v := .int (nI j)) rfl dX12_reads_78 ?_
                refine lv_bipush (v := 97) hx hb dX12_reads_81 (by decide) ?_
                refine lv_bipush (v := 122) hx hb dX12_reads_83 (by decide) ?_
                refine k_callV K X gv_X12_177 (As := [.int (nI j), .int 97, .int 122]) (c_X12_isByte l E b mf hf wf ik fd tch tp tk (nI i) (nI j) 0 bad bo so ce n j 97 122 (by omega) (by omega)) [0, 1, 2, 3, 4, 5, 6, 7, 8] modW_idC (by decide +kernel) (fun _ => modW_fst) 0 12 rfl rfl (by decide) rfl hl.1 (rest := []) rfl (Nat.le_of_ble_eq_true rfl) dX12_reads_85 (st1 := fun _ => [.int (b2i (decide (j < n) && inR (tp j) 97 122))]) (fun _ => rfl) (fun _ H locs _ X => ?_)
                have X : Wd E _ _ (modW E b mf hf wf ik fd tch tp (nI n) tk (nI i) (nI j) 0 bad bo so ce) _ _ := X.eq modW_idP
                refine k_ifeqB (B := (decide (j < n) && inR (tp j) 97 122)) hx hb 104 dX12_reads_88 (by decide) (fun c88 => ?_) (fun c88 => ?_)
                · have hwn : j < n → isLet (tp j) = false := by simpa [isLet] using c88
                  have hw2 : runF isLet tp n i = j := by rw [← hRj]; exact runF_end hwn
                  have hij := runF_ge isLet tp n i
                  refine lv_aload_n hx hb dX12_reads_104 rfl (lv_at hl 0 rfl) ?_
                  refine lv_aload_n hx hb dX12_reads_105 rfl (lv_at hl 0 rfl) ?_
                  refine k_callV K X gv_X12_186 (As := []) (c_X12_wordHere l E b mf hf wf ik fd tch tp (nI n) tk 0 bad bo so ce i j (by omega) (by omega)) [0, 1, 2, 3, 4, 5, 6, 7, 8] modW_idC (by decide +kernel) (fun _ => modW_fst) 0 12 rfl rfl (by decide) rfl hl.1 (rest := [.ref (b 0)]) rfl (Nat.le_of_ble_eq_true rfl) dX12_reads_106 (st1 := fun _ => [.int (nI (wdS tp i (j - i))), .ref (b 0)]) (fun _ => rfl) (fun _ H locs _ X => ?_)
                  have X : Wd E _ _ (modW E b mf hf wf ik fd tch tp (nI n) tk (nI i) (nI j) 0 bad bo so ce) _ _ := X.eq modW_idP
                  refine k_put K X 0 rfl fp_X12_183 (v := .int (nI (wdS tp i (j - i)))) rfl rfl (Nat.le_of_ble_eq_true rfl) dX12_reads_109 (fun H locs X => ?_)
                  have X : Wd E _ _ (modW E b mf hf wf ik fd tch tp (nI n) (nI (wdS tp i (j - i))) (nI i) (nI j) 0 bad bo so ce) _ _ := X
                  refine lv_goto (tgt := 244) hx hb dX12_reads_112 (by decide) ?_
                  exact fin () 244 _ _ _ trivial (X.eq (by rw [hs]; simp [mkS, enS, tvS, nI_lit22, nI_lit20, nI_lit21, nI_lit23, show isLet 59 = false from by decide, show isDig 59 = false from by decide, hge, hlt, hle, hw2])) dX12_reads_244
                · obtain ⟨hwl, hw⟩ : j < n ∧ isLet (tp j) = true := by simpa [isLet] using c88
                  refine lv_aload_n hx hb dX12_reads_91 rfl (lv_at hl 0 rfl) ?_
                  refine lv_dup hx hb dX12_reads_92 rfl ?_
                  refine k_get K X 0 rfl fg_X12_171 (v := .int (nI j)) rfl dX12_reads_93 ?_
                  refine lv_iconst (v := 1) hx hb dX12_reads_96 (by decide) ?_
                  refine lv_iadd hx hb dX12_reads_97 ?_
                  refine k_topi (nI_add j 1) ?_
                  refine k_put K X 0 rfl fp_X12_171 (v := .int (nI (j + 1))) rfl rfl (Nat.le_of_ble_eq_true rfl) dX12_reads_98 (fun H locs X => ?_)
                  have X : Wd E _ _ (modW E b mf hf wf ik fd tch tp (nI n) tk (nI i) (nI (j + 1)) 0 bad bo so ce) _ _ := X
                  refine lv_goto (tgt := 76) hx hb dX12_reads_101 (by decide) ?_
                  exact ih76 (j + 1) (by omega) (by omega) ((runF_go (by omega) hw).trans hRj) _ hl _ _ X
            exact lp76 ((n - i) + 1) i (by omega) (by omega) (rfl) _ hl _ _ X
        · have hge : n ≤ i := by omega
          refine lv_aload_n hx hb dX12_reads_52 rfl (lv_at hl 0 rfl) ?_
          refine lv_bipush (v := 22) hx hb dX12_reads_53 (by decide) ?_
          refine k_put K X 0 rfl fp_X12_183 (v := .int 22) rfl rfl (Nat.le_of_ble_eq_true rfl) dX12_reads_55 (fun H locs X => ?_)
          have X : Wd E _ _ (modW E b mf hf wf ik fd tch tp (nI n) 22 (nI i) (nI i) 0 bad bo so ce) _ _ := X
          refine lv_goto (tgt := 244) hx hb dX12_reads_58 (by decide) ?_
          exact fin () 244 _ _ _ trivial (X.eq (by rw [hs]; simp [mkS, enS, tvS, nI_lit22, nI_lit20, nI_lit21, nI_lit23, show isLet 59 = false from by decide, show isDig 59 = false from by decide, hge])) dX12_reads_244
      · obtain ⟨hspl, hsp⟩ : i < n ∧ isSp (tp i) = true := by simpa [isSp] using c12
        refine lv_aload_n hx hb dX12_reads_15 rfl (lv_at hl 0 rfl) ?_
        refine lv_dup hx hb dX12_reads_16 rfl ?_
        refine k_get K X 0 rfl fg_X12_171 (v := .int (nI i)) rfl dX12_reads_17 ?_
        refine lv_iconst (v := 1) hx hb dX12_reads_20 (by decide) ?_
        refine lv_iadd hx hb dX12_reads_21 ?_
        refine k_topi (nI_add i 1) ?_
        refine k_put K X 0 rfl fp_X12_171 (v := .int (nI (i + 1))) rfl rfl (Nat.le_of_ble_eq_true rfl) dX12_reads_22 (fun H locs X => ?_)
        have X : Wd E _ _ (modW E b mf hf wf ik fd tch tp (nI n) tk tb (nI (i + 1)) tv bad bo so ce) _ _ := X
        refine lv_goto (tgt := 0) hx hb dX12_reads_25 (by decide) ?_
        exact ih0 (i + 1) (by omega) (by omega) ((runF_go (by omega) hsp).trans hR) _ hl _ _ X
  exact lp0 ((n - e) + 1) e (by omega) (by omega) (rfl) _ hl _ _ X
