set_option maxHeartbeats 16000000 in
set_option maxRecDepth 100000 in
theorem law_loop {p : Program} {l : Launch} {e : Env} {s : State} {m : MethodId} {below : List Frame} {meth : Method} {c : Code} {D : va_G} {cI cZ : ClassId} {ρ μ : Nat → Nat} {ts b L : Nat} {xs : Nat → Int32} (hL : L ≤ 2560) (C0 : lw_At p s m meth c b L xs) (hXL : XKL D cI cZ ρ ts (AL s) s) (hMK : MK D cI cZ μ s) (hAm : ∀ i, i < 13 → AL s (μ i)) (hd : ∀ i j, i < 7 → j < 13 → ρ i ≠ μ j) :
    ∀ (n t : Nat), 5 * t ≤ 2565 → 2565 - 5 * t < n → ∀ (σ : Nat → Nat → Bool) (kp : Nat → Bool) (H : Heap) (locs : List Loc), va_S (AL s) s.heap H locs → XS D cI ρ σ (kv kp) H → MSK D cI cZ μ σ kp H → ∀ ls : Array Slot, lv_has ls 4 [(0, .ref b), (1, .ref (ρ 0)), (2, .ref (μ 0)), (3, .int (nI (5 * t)))] → W p l e room_1 s m #[Value.ref b] below meth c H locs 20 78915 (lw_Z below #[Value.ref b] s) (F0 m 18 ls []) := by
  obtain ⟨hx, hb, hr, hml, hown, hts, hX, hbl, hlocks, hgv⟩ := C0
  have S : CallFix p m c cL_law 4 s #[Value.ref b] wsL_law RL := ⟨hx, hb, hml, hown, fun w h => hts w (wsL_law_in w h)⟩
  have hbA : ¬ AL s b := Nat.not_le.mpr hbl
  have hXK := hXL.K
  have hsX := hXL.sub
  have hsM : ∀ q, xA 13 μ q → AL s q := fun _ ⟨i, hi, z⟩ => by rw [z]; exact hAm i hi
  intro n
  induction n with
  | zero => intro t _ hm; exact absurd hm (Nat.not_lt_zero _)
  | succ n ih =>
    intro t ht hm σ kp H locs hS hXS hMS ls hl
    refine lv_iload_n hx hb dL_law_18 rfl (lv_at hl 3 rfl) ?_
    refine lv_aload_n hx hb dL_law_19 rfl (lv_at hl 0 rfl) ?_
    refine va_slen hx hb hX hbl hbA hS dL_law_20 ?_
    refine lv_iconst (v := nI 5) hx hb dL_law_21 (by decide) ?_
    refine lv_isub hx hb dL_law_22 ?_
    refine lv_icmp_gt (tgt := 881) hx hb dL_law_23 (by decide) (fun c_23 => ?_) (fun c_23 => ?_)
    · refine lv_iconst (v := 1) hx hb dL_law_881 (by decide) ?_
      refine va_forget (fun q hq => hS.2.2 q hq) ?_
      exact lw_ret hx hb hr hlocks dL_law_882
    · have h5 : 5 * t + 5 ≤ L := five_le hL ht c_23
      refine lv_aload_n hx hb dL_law_26 rfl (lv_at hl 0 rfl) ?_
      refine lv_iload_n hx hb dL_law_27 rfl (lv_at hl 3 rfl) ?_
      refine nv_sld hx hb hX hbl hbA hS (by omega) hL dL_law_28 ?_
      refine lv_bipush (v := nI 31) hx hb dL_law_29 (by decide) ?_
      refine lv_iand hx hb dL_law_31 ?_
      have fin : ∀ (σ : Nat → Nat → Bool) (kp : Nat → Bool) (H : Heap) (locs : List Loc), va_S (AL s) s.heap H locs → XS D cI ρ σ (kv kp) H → MSK D cI cZ μ σ kp H → ∀ ls : Array Slot, lv_has ls 4 [(0, .ref b), (1, .ref (ρ 0)), (2, .ref (μ 0)), (3, .int (nI (5 * t)))] → W p l e room_1 s m #[Value.ref b] below meth c H locs 20 78915 (lw_Z below #[Value.ref b] s) (F0 m 875 ls []) := by
        intro σ kp H locs hS hXS hMS ls hl
        refine lv_iinc (v := nI (5 * (t + 1))) (lv' := [(3, .int (nI (5 * (t + 1)))), (0, .ref b), (1, .ref (ρ 0)), (2, .ref (μ 0))]) hx hb dL_law_875 hl (k := 3) rfl (inc5 t) (by decide) rfl (fun ls hl => ?_)
        refine lv_goto (tgt := 18) hx hb dL_law_878 (by decide) ?_
        exact ih (t + 1) (by omega) (by omega) σ kp H locs hS hXS hMS ls (lv_sub hl [1, 2, 3, 0] rfl)
      rcases sw_20 (xs (5 * t)) with ⟨k, hk, hop⟩ | ho
      · rw [hop]
        rcases (show k = 0 ∨ k = 1 ∨ k = 2 ∨ k = 3 ∨ k = 4 ∨ k = 5 ∨ k = 6 ∨ k = 7 ∨ k = 8 ∨ k = 9 ∨ k = 10 ∨ k = 11 ∨ k = 12 ∨ k = 13 ∨ k = 14 ∨ k = 15 ∨ k = 16 ∨ k = 17 ∨ k = 18 ∨ k = 19 ∨ k = 20 by omega) with rfl | rfl | rfl | rfl | rfl | rfl | rfl | rfl | rfl | rfl | rfl | rfl | rfl | rfl | rfl | rfl | rfl | rfl | rfl | rfl | rfl
        ·
          refine lv_tableIn (off := 100) (tgt := 132) hx hb dL_law_32 (by decide) (by decide) (by decide) (by decide) ?_
          refine lv_aload_n hx hb dL_law_132 rfl (lv_at hl 1 rfl) ?_
          refine lv_aload_n hx hb dL_law_133 rfl (lv_at hl 0 rfl) ?_
          refine lv_iload_n hx hb dL_law_134 rfl (lv_at hl 3 rfl) ?_
          refine lv_iconst (v := nI 1) hx hb dL_law_135 (by decide) ?_
          refine lv_iadd hx hb dL_law_136 ?_
          refine nv_as (nI (5 * t + 1)) (nI_add _ _) ?_
          refine nv_sld hx hb hX hbl hbA hS (by omega) hL dL_law_137 ?_
          refine lv_aload_n hx hb dL_law_138 rfl (lv_at hl 0 rfl) ?_
          refine lv_iload_n hx hb dL_law_139 rfl (lv_at hl 3 rfl) ?_
          refine lv_iconst (v := nI 2) hx hb dL_law_140 (by decide) ?_
          refine lv_iadd hx hb dL_law_141 ?_
          refine nv_as (nI (5 * t + 2)) (nI_add _ _) ?_
          refine nv_sld hx hb hX hbl hbA hS (by omega) hL dL_law_142 ?_
          obtain ⟨mk, qu, held, hRel, hP⟩ := hXS
          refine rd_V S hl (c_X1_point l D cI cZ ρ ts σ (kv kp) mk qu (xs (5 * t + 1)) (xs (5 * t + 2))) XB.hb gL_law_X1_point rfl rfl nf_X1_point rfl rfl dL_law_143 (XP.rc0 hXK hP) (hXL.at hS ⟨held, hRel, hP⟩) ?_
          have hXS2 : XS D cI ρ σ (kv kp) H := ⟨mk, qu, held, hRel, hP⟩
          refine lv_aload_n hx hb dL_law_146 rfl (lv_at hl 2 rfl) ?_
          refine lv_aload_n hx hb dL_law_147 rfl (lv_at hl 0 rfl) ?_
          refine lv_iload_n hx hb dL_law_148 rfl (lv_at hl 3 rfl) ?_
          refine lv_iconst (v := nI 1) hx hb dL_law_149 (by decide) ?_
          refine lv_iadd hx hb dL_law_150 ?_
          refine nv_as (nI (5 * t + 1)) (nI_add _ _) ?_
          refine nv_sld hx hb hX hbl hbA hS (by omega) hL dL_law_151 ?_
          refine lv_aload_n hx hb dL_law_152 rfl (lv_at hl 0 rfl) ?_
          refine lv_iload_n hx hb dL_law_153 rfl (lv_at hl 3 rfl) ?_
          refine lv_iconst (v := nI 2) hx hb dL_law_154 (by decide) ?_
          refine lv_iadd hx hb dL_law_155 ?_
          refine nv_as (nI (5 * t + 2)) (nI_add _ _) ?_
          refine nv_sld hx hb hX hbl hbA hS (by omega) hL dL_law_156 ?_
          obtain ⟨M, V, hk5, hRelM, hPt, hKg, hPM⟩ := hMS
          refine rd_V S hl (c_X2_point l D cI cZ μ σ M V (xs (5 * t + 1)) (xs (5 * t + 2))) MB.hb gL_law_X2_point rfl rfl nf_X2_point rfl rfl dL_law_157 (MP.rc0 hMK hPM) (MB.at hMK ⟨hRelM, hPt, hKg, hPM⟩) ?_
          have hMS2 : MSK D cI cZ μ σ kp H := ⟨M, V, hk5, hRelM, hPt, hKg, hPM⟩
          refine lv_icmp_eq (tgt := 875) hx hb dL_law_160 (by decide) (fun _ => ?_) (fun c_e => absurd rfl c_e)
          exact fin σ kp H locs hS hXS2 hMS2 ls hl
        ·
          refine lv_tableIn (off := 133) (tgt := 165) hx hb dL_law_32 (by decide) (by decide) (by decide) (by decide) ?_
          refine lv_aload_n hx hb dL_law_165 rfl (lv_at hl 1 rfl) ?_
          refine lv_aload_n hx hb dL_law_166 rfl (lv_at hl 0 rfl) ?_
          refine lv_iload_n hx hb dL_law_167 rfl (lv_at hl 3 rfl) ?_
          refine lv_iconst (v := nI 1) hx hb dL_law_168 (by decide) ?_
          refine lv_iadd hx hb dL_law_169 ?_
          refine nv_as (nI (5 * t + 1)) (nI_add _ _) ?_
          refine nv_sld hx hb hX hbl hbA hS (by omega) hL dL_law_170 ?_
          refine lv_aload_n hx hb dL_law_171 rfl (lv_at hl 0 rfl) ?_
          refine lv_iload_n hx hb dL_law_172 rfl (lv_at hl 3 rfl) ?_
          refine lv_iconst (v := nI 2) hx hb dL_law_173 (by decide) ?_
          refine lv_iadd hx hb dL_law_174 ?_
          refine nv_as (nI (5 * t + 2)) (nI_add _ _) ?_
          refine nv_sld hx hb hX hbl hbA hS (by omega) hL dL_law_175 ?_
          obtain ⟨mk, qu, held, hRel, hP⟩ := hXS
          refine rd_V S hl (c_X1_key l D cI cZ ρ ts σ (kv kp) mk qu (xs (5 * t + 1)) (xs (5 * t + 2))) XB.hb gL_law_X1_key rfl rfl nf_X1_key rfl rfl dL_law_176 (XP.rc0 hXK hP) (hXL.at hS ⟨held, hRel, hP⟩) ?_
          have hXS2 : XS D cI ρ σ (kv kp) H := ⟨mk, qu, held, hRel, hP⟩
          refine lv_aload_n hx hb dL_law_179 rfl (lv_at hl 2 rfl) ?_
          refine lv_aload_n hx hb dL_law_180 rfl (lv_at hl 0 rfl) ?_
          refine lv_iload_n hx hb dL_law_181 rfl (lv_at hl 3 rfl) ?_
          refine lv_iconst (v := nI 1) hx hb dL_law_182 (by decide) ?_
          refine lv_iadd hx hb dL_law_183 ?_
          refine nv_as (nI (5 * t + 1)) (nI_add _ _) ?_
          refine nv_sld hx hb hX hbl hbA hS (by omega) hL dL_law_184 ?_
          refine lv_aload_n hx hb dL_law_185 rfl (lv_at hl 0 rfl) ?_
          refine lv_iload_n hx hb dL_law_186 rfl (lv_at hl 3 rfl) ?_
          refine lv_iconst (v := nI 2) hx hb dL_law_187 (by decide) ?_
          refine lv_iadd hx hb dL_law_188 ?_
          refine nv_as (nI (5 * t + 2)) (nI_add _ _) ?_
          refine nv_sld hx hb hX hbl hbA hS (by omega) hL dL_law_189 ?_
          obtain ⟨M, V, hk5, hRelM, hPt, hKg, hPM⟩ := hMS
          refine rd_V S hl (c_X2_key l D cI cZ μ σ M V (xs (5 * t + 1)) (xs (5 * t + 2))) MB.hb gL_law_X2_key rfl rfl nf_X2_key rfl rfl dL_law_190 (MP.rc0 hMK hPM) (MB.at hMK ⟨hRelM, hPt, hKg, hPM⟩) ?_
          have hMS2 : MSK D cI cZ μ σ kp H := ⟨M, V, hk5, hRelM, hPt, hKg, hPM⟩
          refine lv_icmp_eq (tgt := 875) hx hb dL_law_193 (by decide) (fun _ => ?_) (fun c_e => absurd rfl c_e)
          exact fin σ kp H locs hS hXS2 hMS2 ls hl
        ·
          refine lv_tableIn (off := 166) (tgt := 198) hx hb dL_law_32 (by decide) (by decide) (by decide) (by decide) ?_
          refine lv_aload_n hx hb dL_law_198 rfl (lv_at hl 1 rfl) ?_
          refine lv_aload_n hx hb dL_law_199 rfl (lv_at hl 0 rfl) ?_
          refine lv_iload_n hx hb dL_law_200 rfl (lv_at hl 3 rfl) ?_
          refine lv_iconst (v := nI 1) hx hb dL_law_201 (by decide) ?_
          refine lv_iadd hx hb dL_law_202 ?_
          refine nv_as (nI (5 * t + 1)) (nI_add _ _) ?_
          refine nv_sld hx hb hX hbl hbA hS (by omega) hL dL_law_203 ?_
          refine lv_aload_n hx hb dL_law_204 rfl (lv_at hl 0 rfl) ?_
          refine lv_iload_n hx hb dL_law_205 rfl (lv_at hl 3 rfl) ?_
          refine lv_iconst (v := nI 2) hx hb dL_law_206 (by decide) ?_
          refine lv_iadd hx hb dL_law_207 ?_
          refine nv_as (nI (5 * t + 2)) (nI_add _ _) ?_
          refine nv_sld hx hb hX hbl hbA hS (by omega) hL dL_law_208 ?_
          obtain ⟨mk, qu, held, hRel, hP⟩ := hXS
          refine rd_V S hl (c_X1_next l D cI cZ ρ ts σ (kv kp) mk qu (xs (5 * t + 1)) (xs (5 * t + 2))) XB.hb gL_law_X1_next rfl rfl nf_X1_next rfl rfl dL_law_209 (XP.rc0 hXK hP) (hXL.at hS ⟨held, hRel, hP⟩) ?_
          have hXS2 : XS D cI ρ σ (kv kp) H := ⟨mk, qu, held, hRel, hP⟩
          refine lv_aload_n hx hb dL_law_212 rfl (lv_at hl 2 rfl) ?_
          refine lv_aload_n hx hb dL_law_213 rfl (lv_at hl 0 rfl) ?_
          refine lv_iload_n hx hb dL_law_214 rfl (lv_at hl 3 rfl) ?_
          refine lv_iconst (v := nI 1) hx hb dL_law_215 (by decide) ?_
          refine lv_iadd hx hb dL_law_216 ?_
          refine nv_as (nI (5 * t + 1)) (nI_add _ _) ?_
          refine nv_sld hx hb hX hbl hbA hS (by omega) hL dL_law_217 ?_
          refine lv_aload_n hx hb dL_law_218 rfl (lv_at hl 0 rfl) ?_
          refine lv_iload_n hx hb dL_law_219 rfl (lv_at hl 3 rfl) ?_
          refine lv_iconst (v := nI 2) hx hb dL_law_220 (by decide) ?_
          refine lv_iadd hx hb dL_law_221 ?_
          refine nv_as (nI (5 * t + 2)) (nI_add _ _) ?_
          refine nv_sld hx hb hX hbl hbA hS (by omega) hL dL_law_222 ?_
          obtain ⟨M, V, hk5, hRelM, hPt, hKg, hPM⟩ := hMS
          refine rd_V S hl (c_X2_next l D cI cZ μ σ M V (xs (5 * t + 1)) (xs (5 * t + 2))) MB.hb gL_law_X2_next rfl rfl nf_X2_next rfl rfl dL_law_223 (MP.rc0 hMK hPM) (MB.at hMK ⟨hRelM, hPt, hKg, hPM⟩) ?_
          have hMS2 : MSK D cI cZ μ σ kp H := ⟨M, V, hk5, hRelM, hPt, hKg, hPM⟩
          refine lv_icmp_eq (tgt := 875) hx hb dL_law_226 (by decide) (fun _ => ?_) (fun c_e => absurd rfl c_e)
          exact fin σ kp H locs hS hXS2 hMS2 ls hl
        ·
          refine lv_tableIn (off := 199) (tgt := 231) hx hb dL_law_32 (by decide) (by decide) (by decide) (by decide) ?_
          refine lv_aload_n hx hb dL_law_231 rfl (lv_at hl 1 rfl) ?_
          refine lv_aload_n hx hb dL_law_232 rfl (lv_at hl 0 rfl) ?_
          refine lv_iload_n hx hb dL_law_233 rfl (lv_at hl 3 rfl) ?_
          refine lv_iconst (v := nI 1) hx hb dL_law_234 (by decide) ?_
          refine lv_iadd hx hb dL_law_235 ?_
          refine nv_as (nI (5 * t + 1)) (nI_add _ _) ?_
          refine nv_sld hx hb hX hbl hbA hS (by omega) hL dL_law_236 ?_
          refine lv_aload_n hx hb dL_law_237 rfl (lv_at hl 0 rfl) ?_
          refine lv_iload_n hx hb dL_law_238 rfl (lv_at hl 3 rfl) ?_
          refine lv_iconst (v := nI 2) hx hb dL_law_239 (by decide) ?_
          refine lv_iadd hx hb dL_law_240 ?_
          refine nv_as (nI (5 * t + 2)) (nI_add _ _) ?_
          refine nv_sld hx hb hX hbl hbA hS (by omega) hL dL_law_241 ?_
          obtain ⟨mk, qu, held, hRel, hP⟩ := hXS
          refine rd_V S hl (c_X1_far l D cI cZ ρ ts σ (kv kp) mk qu (xs (5 * t + 1)) (xs (5 * t + 2))) XB.hb gL_law_X1_far rfl rfl nf_X1_far rfl rfl dL_law_242 (XP.rc0 hXK hP) (hXL.at hS ⟨held, hRel, hP⟩) ?_
          have hXS2 : XS D cI ρ σ (kv kp) H := ⟨mk, qu, held, hRel, hP⟩
          refine lv_aload_n hx hb dL_law_245 rfl (lv_at hl 2 rfl) ?_
          refine lv_aload_n hx hb dL_law_246 rfl (lv_at hl 0 rfl) ?_
          refine lv_iload_n hx hb dL_law_247 rfl (lv_at hl 3 rfl) ?_
          refine lv_iconst (v := nI 1) hx hb dL_law_248 (by decide) ?_
          refine lv_iadd hx hb dL_law_249 ?_
          refine nv_as (nI (5 * t + 1)) (nI_add _ _) ?_
          refine nv_sld hx hb hX hbl hbA hS (by omega) hL dL_law_250 ?_
          refine lv_aload_n hx hb dL_law_251 rfl (lv_at hl 0 rfl) ?_
          refine lv_iload_n hx hb dL_law_252 rfl (lv_at hl 3 rfl) ?_
          refine lv_iconst (v := nI 2) hx hb dL_law_253 (by decide) ?_
          refine lv_iadd hx hb dL_law_254 ?_
          refine nv_as (nI (5 * t + 2)) (nI_add _ _) ?_
          refine nv_sld hx hb hX hbl hbA hS (by omega) hL dL_law_255 ?_
          obtain ⟨M, V, hk5, hRelM, hPt, hKg, hPM⟩ := hMS
          refine rd_V S hl (c_X2_far l D cI cZ μ σ M V (xs (5 * t + 1)) (xs (5 * t + 2))) MB.hb gL_law_X2_far rfl rfl nf_X2_far rfl rfl dL_law_256 (MP.rc0 hMK hPM) (MB.at hMK ⟨hRelM, hPt, hKg, hPM⟩) ?_
          have hMS2 : MSK D cI cZ μ σ kp H := ⟨M, V, hk5, hRelM, hPt, hKg, hPM⟩
          refine lv_icmp_eq (tgt := 875) hx hb dL_law_259 (by decide) (fun _ => ?_) (fun c_e => absurd rfl c_e)
          exact fin σ kp H locs hS hXS2 hMS2 ls hl
        ·
          refine lv_tableIn (off := 232) (tgt := 264) hx hb dL_law_32 (by decide) (by decide) (by decide) (by decide) ?_
          refine lv_aload_n hx hb dL_law_264 rfl (lv_at hl 1 rfl) ?_
          refine lv_aload_n hx hb dL_law_265 rfl (lv_at hl 0 rfl) ?_
          refine lv_iload_n hx hb dL_law_266 rfl (lv_at hl 3 rfl) ?_
          refine lv_iconst (v := nI 1) hx hb dL_law_267 (by decide) ?_
          refine lv_iadd hx hb dL_law_268 ?_
          refine nv_as (nI (5 * t + 1)) (nI_add _ _) ?_
          refine nv_sld hx hb hX hbl hbA hS (by omega) hL dL_law_269 ?_
          refine lv_aload_n hx hb dL_law_270 rfl (lv_at hl 0 rfl) ?_
          refine lv_iload_n hx hb dL_law_271 rfl (lv_at hl 3 rfl) ?_
          refine lv_iconst (v := nI 2) hx hb dL_law_272 (by decide) ?_
          refine lv_iadd hx hb dL_law_273 ?_
          refine nv_as (nI (5 * t + 2)) (nI_add _ _) ?_
          refine nv_sld hx hb hX hbl hbA hS (by omega) hL dL_law_274 ?_
          obtain ⟨mk, qu, held, hRel, hP⟩ := hXS
          refine rd_V S hl (c_X1_side l D cI cZ ρ ts σ (kv kp) mk qu (xs (5 * t + 1)) (xs (5 * t + 2))) XB.hb gL_law_X1_side rfl rfl nf_X1_side rfl rfl dL_law_275 (XP.rc0 hXK hP) (hXL.at hS ⟨held, hRel, hP⟩) ?_
          have hXS2 : XS D cI ρ σ (kv kp) H := ⟨mk, qu, held, hRel, hP⟩
          refine lv_aload_n hx hb dL_law_278 rfl (lv_at hl 2 rfl) ?_
          refine lv_aload_n hx hb dL_law_279 rfl (lv_at hl 0 rfl) ?_
          refine lv_iload_n hx hb dL_law_280 rfl (lv_at hl 3 rfl) ?_
          refine lv_iconst (v := nI 1) hx hb dL_law_281 (by decide) ?_
          refine lv_iadd hx hb dL_law_282 ?_
          refine nv_as (nI (5 * t + 1)) (nI_add _ _) ?_
          refine nv_sld hx hb hX hbl hbA hS (by omega) hL dL_law_283 ?_
          refine lv_aload_n hx hb dL_law_284 rfl (lv_at hl 0 rfl) ?_
          refine lv_iload_n hx hb dL_law_285 rfl (lv_at hl 3 rfl) ?_
          refine lv_iconst (v := nI 2) hx hb dL_law_286 (by decide) ?_
          refine lv_iadd hx hb dL_law_287 ?_
          refine nv_as (nI (5 * t + 2)) (nI_add _ _) ?_
          refine nv_sld hx hb hX hbl hbA hS (by omega) hL dL_law_288 ?_
          obtain ⟨M, V, hk5, hRelM, hPt, hKg, hPM⟩ := hMS
          refine rd_V S hl (c_X2_side l D cI cZ μ σ M V (xs (5 * t + 1)) (xs (5 * t + 2))) MB.hb gL_law_X2_side rfl rfl nf_X2_side rfl rfl dL_law_289 (MP.rc0 hMK hPM) (MB.at hMK ⟨hRelM, hPt, hKg, hPM⟩) ?_
          have hMS2 : MSK D cI cZ μ σ kp H := ⟨M, V, hk5, hRelM, hPt, hKg, hPM⟩
          refine lv_icmp_eq (tgt := 875) hx hb dL_law_292 (by decide) (fun _ => ?_) (fun c_e => absurd rfl c_e)
          exact fin σ kp H locs hS hXS2 hMS2 ls hl
        ·
          refine lv_tableIn (off := 265) (tgt := 297) hx hb dL_law_32 (by decide) (by decide) (by decide) (by decide) ?_
          refine lv_aload_n hx hb dL_law_297 rfl (lv_at hl 1 rfl) ?_
          refine lv_aload_n hx hb dL_law_298 rfl (lv_at hl 0 rfl) ?_
          refine lv_iload_n hx hb dL_law_299 rfl (lv_at hl 3 rfl) ?_
          refine lv_iconst (v := nI 1) hx hb dL_law_300 (by decide) ?_
          refine lv_iadd hx hb dL_law_301 ?_
          refine nv_as (nI (5 * t + 1)) (nI_add _ _) ?_
          refine nv_sld hx hb hX hbl hbA hS (by omega) hL dL_law_302 ?_
          refine lv_aload_n hx hb dL_law_303 rfl (lv_at hl 0 rfl) ?_
          refine lv_iload_n hx hb dL_law_304 rfl (lv_at hl 3 rfl) ?_
          refine lv_iconst (v := nI 2) hx hb dL_law_305 (by decide) ?_
          refine lv_iadd hx hb dL_law_306 ?_
          refine nv_as (nI (5 * t + 2)) (nI_add _ _) ?_
          refine nv_sld hx hb hX hbl hbA hS (by omega) hL dL_law_307 ?_
          obtain ⟨mk, qu, held, hRel, hP⟩ := hXS
          refine rd_V S hl (c_X1_patch l D cI cZ ρ ts σ (kv kp) mk qu (xs (5 * t + 1)) (xs (5 * t + 2))) XB.hb gL_law_X1_patch rfl rfl nf_X1_patch rfl rfl dL_law_308 (XP.rc0 hXK hP) (hXL.at hS ⟨held, hRel, hP⟩) ?_
          have hXS2 : XS D cI ρ σ (kv kp) H := ⟨mk, qu, held, hRel, hP⟩
          refine lv_aload_n hx hb dL_law_311 rfl (lv_at hl 2 rfl) ?_
          refine lv_aload_n hx hb dL_law_312 rfl (lv_at hl 0 rfl) ?_
          refine lv_iload_n hx hb dL_law_313 rfl (lv_at hl 3 rfl) ?_
          refine lv_iconst (v := nI 1) hx hb dL_law_314 (by decide) ?_
          refine lv_iadd hx hb dL_law_315 ?_
          refine nv_as (nI (5 * t + 1)) (nI_add _ _) ?_
          refine nv_sld hx hb hX hbl hbA hS (by omega) hL dL_law_316 ?_
          refine lv_aload_n hx hb dL_law_317 rfl (lv_at hl 0 rfl) ?_
          refine lv_iload_n hx hb dL_law_318 rfl (lv_at hl 3 rfl) ?_
          refine lv_iconst (v := nI 2) hx hb dL_law_319 (by decide) ?_
          refine lv_iadd hx hb dL_law_320 ?_
          refine nv_as (nI (5 * t + 2)) (nI_add _ _) ?_
          refine nv_sld hx hb hX hbl hbA hS (by omega) hL dL_law_321 ?_
          obtain ⟨M, V, hk5, hRelM, hPt, hKg, hPM⟩ := hMS
          refine rd_V S hl (c_X2_patch l D cI cZ μ σ M V (xs (5 * t + 1)) (xs (5 * t + 2))) MB.hb gL_law_X2_patch rfl rfl nf_X2_patch rfl rfl dL_law_322 (MP.rc0 hMK hPM) (MB.at hMK ⟨hRelM, hPt, hKg, hPM⟩) ?_
          have hMS2 : MSK D cI cZ μ σ kp H := ⟨M, V, hk5, hRelM, hPt, hKg, hPM⟩
          refine lv_icmp_eq (tgt := 875) hx hb dL_law_325 (by decide) (fun _ => ?_) (fun c_e => absurd rfl c_e)
          exact fin σ kp H locs hS hXS2 hMS2 ls hl
        ·
          refine lv_tableIn (off := 298) (tgt := 330) hx hb dL_law_32 (by decide) (by decide) (by decide) (by decide) ?_
          refine lv_aload_n hx hb dL_law_330 rfl (lv_at hl 1 rfl) ?_
          refine lv_aload_n hx hb dL_law_331 rfl (lv_at hl 0 rfl) ?_
          refine lv_iload_n hx hb dL_law_332 rfl (lv_at hl 3 rfl) ?_
          refine lv_iconst (v := nI 1) hx hb dL_law_333 (by decide) ?_
          refine lv_iadd hx hb dL_law_334 ?_
          refine nv_as (nI (5 * t + 1)) (nI_add _ _) ?_
          refine nv_sld hx hb hX hbl hbA hS (by omega) hL dL_law_335 ?_
          refine lv_aload_n hx hb dL_law_336 rfl (lv_at hl 0 rfl) ?_
          refine lv_iload_n hx hb dL_law_337 rfl (lv_at hl 3 rfl) ?_
          refine lv_iconst (v := nI 2) hx hb dL_law_338 (by decide) ?_
          refine lv_iadd hx hb dL_law_339 ?_
          refine nv_as (nI (5 * t + 2)) (nI_add _ _) ?_
          refine nv_sld hx hb hX hbl hbA hS (by omega) hL dL_law_340 ?_
          obtain ⟨mk, qu, held, hRel, hP⟩ := hXS
          refine wr_V S hl (c_X1_around l D cI cZ ρ ts σ (kv kp) mk qu (xs (5 * t + 1)) (xs (5 * t + 2))) XB.hb gL_law_X1_around rfl rfl nf_X1_around rfl rfl dL_law_341 (XP.rc0 hXK hP) (hXL.at hS ⟨held, hRel, hP⟩) hS hsX (fun H locs hXS2 hS _ hk => ?_)
          have hMS := hMS.kept hk hd
          refine W.eq (g2 := F0 m 344 ls [.int (aroundR (xs (5 * t + 1)) (xs (5 * t + 2)))]) rfl ?_
          refine lv_aload_n hx hb dL_law_344 rfl (lv_at hl 2 rfl) ?_
          refine lv_aload_n hx hb dL_law_345 rfl (lv_at hl 0 rfl) ?_
          refine lv_iload_n hx hb dL_law_346 rfl (lv_at hl 3 rfl) ?_
          refine lv_iconst (v := nI 1) hx hb dL_law_347 (by decide) ?_
          refine lv_iadd hx hb dL_law_348 ?_
          refine nv_as (nI (5 * t + 1)) (nI_add _ _) ?_
          refine nv_sld hx hb hX hbl hbA hS (by omega) hL dL_law_349 ?_
          refine lv_aload_n hx hb dL_law_350 rfl (lv_at hl 0 rfl) ?_
          refine lv_iload_n hx hb dL_law_351 rfl (lv_at hl 3 rfl) ?_
          refine lv_iconst (v := nI 2) hx hb dL_law_352 (by decide) ?_
          refine lv_iadd hx hb dL_law_353 ?_
          refine nv_as (nI (5 * t + 2)) (nI_add _ _) ?_
          refine nv_sld hx hb hX hbl hbA hS (by omega) hL dL_law_354 ?_
          obtain ⟨M, V, hk5, hRelM, hPt, hKg, hPM⟩ := hMS
          refine wr_V S hl (c_X2_around l D cI cZ μ σ M V (xs (5 * t + 1)) (xs (5 * t + 2))) MB.hb gL_law_X2_around rfl rfl nf_X2_around rfl rfl dL_law_355 (MP.rc0 hMK hPM) (MB.at hMK ⟨hRelM, hPt, hKg, hPM⟩) hS hsM (fun H locs hMS2 hS _ hk => ?_)
          have hXS2 := hXS2.kept hk hd
          have hMS2 := hMS2.toK hk5
          refine W.eq (g2 := F0 m 358 ls [.int (aroundR (xs (5 * t + 1)) (xs (5 * t + 2))), .int (aroundR (xs (5 * t + 1)) (xs (5 * t + 2)))]) rfl ?_
          refine lv_icmp_eq (tgt := 875) hx hb dL_law_358 (by decide) (fun _ => ?_) (fun c_e => absurd rfl c_e)
          exact fin σ kp H locs hS hXS2 hMS2 ls hl
        ·
          refine lv_tableIn (off := 331) (tgt := 363) hx hb dL_law_32 (by decide) (by decide) (by decide) (by decide) ?_
          refine lv_aload_n hx hb dL_law_363 rfl (lv_at hl 1 rfl) ?_
          refine lv_aload_n hx hb dL_law_364 rfl (lv_at hl 0 rfl) ?_
          refine lv_iload_n hx hb dL_law_365 rfl (lv_at hl 3 rfl) ?_
          refine lv_iconst (v := nI 1) hx hb dL_law_366 (by decide) ?_
          refine lv_iadd hx hb dL_law_367 ?_
          refine nv_as (nI (5 * t + 1)) (nI_add _ _) ?_
          refine nv_sld hx hb hX hbl hbA hS (by omega) hL dL_law_368 ?_
          refine lv_aload_n hx hb dL_law_369 rfl (lv_at hl 0 rfl) ?_
          refine lv_iload_n hx hb dL_law_370 rfl (lv_at hl 3 rfl) ?_
          refine lv_iconst (v := nI 2) hx hb dL_law_371 (by decide) ?_
          refine lv_iadd hx hb dL_law_372 ?_
          refine nv_as (nI (5 * t + 2)) (nI_add _ _) ?_
          refine nv_sld hx hb hX hbl hbA hS (by omega) hL dL_law_373 ?_
          obtain ⟨mk, qu, held, hRel, hP⟩ := hXS
          refine rd_V S hl (c_X1_ring l D cI cZ ρ ts σ (kv kp) mk qu (xs (5 * t + 1)) (xs (5 * t + 2))) XB.hb gL_law_X1_ring rfl rfl nf_X1_ring rfl rfl dL_law_374 (XP.rc0 hXK hP) (hXL.at hS ⟨held, hRel, hP⟩) ?_
          have hXS2 : XS D cI ρ σ (kv kp) H := ⟨mk, qu, held, hRel, hP⟩
          refine lv_aload_n hx hb dL_law_377 rfl (lv_at hl 2 rfl) ?_
          refine lv_aload_n hx hb dL_law_378 rfl (lv_at hl 0 rfl) ?_
          refine lv_iload_n hx hb dL_law_379 rfl (lv_at hl 3 rfl) ?_
          refine lv_iconst (v := nI 1) hx hb dL_law_380 (by decide) ?_
          refine lv_iadd hx hb dL_law_381 ?_
          refine nv_as (nI (5 * t + 1)) (nI_add _ _) ?_
          refine nv_sld hx hb hX hbl hbA hS (by omega) hL dL_law_382 ?_
          refine lv_aload_n hx hb dL_law_383 rfl (lv_at hl 0 rfl) ?_
          refine lv_iload_n hx hb dL_law_384 rfl (lv_at hl 3 rfl) ?_
          refine lv_iconst (v := nI 2) hx hb dL_law_385 (by decide) ?_
          refine lv_iadd hx hb dL_law_386 ?_
          refine nv_as (nI (5 * t + 2)) (nI_add _ _) ?_
          refine nv_sld hx hb hX hbl hbA hS (by omega) hL dL_law_387 ?_
          obtain ⟨M, V, hk5, hRelM, hPt, hKg, hPM⟩ := hMS
          refine rd_V S hl (c_X2_ring l D cI cZ μ σ M V (xs (5 * t + 1)) (xs (5 * t + 2))) MB.hb gL_law_X2_ring rfl rfl nf_X2_ring rfl rfl dL_law_388 (MP.rc0 hMK hPM) (MB.at hMK ⟨hRelM, hPt, hKg, hPM⟩) ?_
          have hMS2 : MSK D cI cZ μ σ kp H := ⟨M, V, hk5, hRelM, hPt, hKg, hPM⟩
          refine lv_icmp_eq (tgt := 875) hx hb dL_law_391 (by decide) (fun _ => ?_) (fun c_e => absurd rfl c_e)
          exact fin σ kp H locs hS hXS2 hMS2 ls hl
        ·
          refine lv_tableIn (off := 364) (tgt := 396) hx hb dL_law_32 (by decide) (by decide) (by decide) (by decide) ?_
          refine lv_aload_n hx hb dL_law_396 rfl (lv_at hl 1 rfl) ?_
          refine lv_aload_n hx hb dL_law_397 rfl (lv_at hl 0 rfl) ?_
          refine lv_iload_n hx hb dL_law_398 rfl (lv_at hl 3 rfl) ?_
          refine lv_iconst (v := nI 1) hx hb dL_law_399 (by decide) ?_
          refine lv_iadd hx hb dL_law_400 ?_
          refine nv_as (nI (5 * t + 1)) (nI_add _ _) ?_
          refine nv_sld hx hb hX hbl hbA hS (by omega) hL dL_law_401 ?_
          refine lv_aload_n hx hb dL_law_402 rfl (lv_at hl 0 rfl) ?_
          refine lv_iload_n hx hb dL_law_403 rfl (lv_at hl 3 rfl) ?_
          refine lv_iconst (v := nI 2) hx hb dL_law_404 (by decide) ?_
          refine lv_iadd hx hb dL_law_405 ?_
          refine nv_as (nI (5 * t + 2)) (nI_add _ _) ?_
          refine nv_sld hx hb hX hbl hbA hS (by omega) hL dL_law_406 ?_
          refine lv_aload_n hx hb dL_law_407 rfl (lv_at hl 0 rfl) ?_
          refine lv_iload_n hx hb dL_law_408 rfl (lv_at hl 3 rfl) ?_
          refine lv_iconst (v := nI 3) hx hb dL_law_409 (by decide) ?_
          refine lv_iadd hx hb dL_law_410 ?_
          refine nv_as (nI (5 * t + 3)) (nI_add _ _) ?_
          refine nv_sld hx hb hX hbl hbA hS (by omega) hL dL_law_411 ?_
          refine lv_aload_n hx hb dL_law_412 rfl (lv_at hl 0 rfl) ?_
          refine lv_iload_n hx hb dL_law_413 rfl (lv_at hl 3 rfl) ?_
          refine lv_iconst (v := nI 4) hx hb dL_law_414 (by decide) ?_
          refine lv_iadd hx hb dL_law_415 ?_
          refine nv_as (nI (5 * t + 4)) (nI_add _ _) ?_
          refine nv_sld hx hb hX hbl hbA hS (by omega) hL dL_law_416 ?_
          obtain ⟨mk, qu, held, hRel, hP⟩ := hXS
          refine wr_V S hl (c_X1_put l D cI cZ ρ ts σ (kv kp) mk qu (xs (5 * t + 1)) (xs (5 * t + 2)) (xs (5 * t + 3)) (xs (5 * t + 4))) XB.hb gL_law_X1_put rfl rfl nf_X1_put rfl rfl dL_law_417 (XP.rc0 hXK hP) (hXL.at hS ⟨held, hRel, hP⟩) hS hsX (fun H locs hXS2 hS _ hk => ?_)
          have hMS := hMS.kept hk hd
          refine W.eq (g2 := F0 m 420 ls [.int (putR σ (xs (5 * t + 1)) (xs (5 * t + 2)) (xs (5 * t + 3)) (xs (5 * t + 4)))]) rfl ?_
          refine lv_aload_n hx hb dL_law_420 rfl (lv_at hl 2 rfl) ?_
          refine lv_aload_n hx hb dL_law_421 rfl (lv_at hl 0 rfl) ?_
          refine lv_iload_n hx hb dL_law_422 rfl (lv_at hl 3 rfl) ?_
          refine lv_iconst (v := nI 1) hx hb dL_law_423 (by decide) ?_
          refine lv_iadd hx hb dL_law_424 ?_
          refine nv_as (nI (5 * t + 1)) (nI_add _ _) ?_
          refine nv_sld hx hb hX hbl hbA hS (by omega) hL dL_law_425 ?_
          refine lv_aload_n hx hb dL_law_426 rfl (lv_at hl 0 rfl) ?_
          refine lv_iload_n hx hb dL_law_427 rfl (lv_at hl 3 rfl) ?_
          refine lv_iconst (v := nI 2) hx hb dL_law_428 (by decide) ?_
          refine lv_iadd hx hb dL_law_429 ?_
          refine nv_as (nI (5 * t + 2)) (nI_add _ _) ?_
          refine nv_sld hx hb hX hbl hbA hS (by omega) hL dL_law_430 ?_
          refine lv_aload_n hx hb dL_law_431 rfl (lv_at hl 0 rfl) ?_
          refine lv_iload_n hx hb dL_law_432 rfl (lv_at hl 3 rfl) ?_
          refine lv_iconst (v := nI 3) hx hb dL_law_433 (by decide) ?_
          refine lv_iadd hx hb dL_law_434 ?_
          refine nv_as (nI (5 * t + 3)) (nI_add _ _) ?_
          refine nv_sld hx hb hX hbl hbA hS (by omega) hL dL_law_435 ?_
          refine lv_aload_n hx hb dL_law_436 rfl (lv_at hl 0 rfl) ?_
          refine lv_iload_n hx hb dL_law_437 rfl (lv_at hl 3 rfl) ?_
          refine lv_iconst (v := nI 4) hx hb dL_law_438 (by decide) ?_
          refine lv_iadd hx hb dL_law_439 ?_
          refine nv_as (nI (5 * t + 4)) (nI_add _ _) ?_
          refine nv_sld hx hb hX hbl hbA hS (by omega) hL dL_law_440 ?_
          obtain ⟨M, V, hk5, hRelM, hPt, hKg, hPM⟩ := hMS
          refine wr_V S hl (c_X2_put l D cI cZ μ σ M V (xs (5 * t + 1)) (xs (5 * t + 2)) (xs (5 * t + 3)) (xs (5 * t + 4))) MB.hb gL_law_X2_put rfl rfl nf_X2_put rfl rfl dL_law_441 (MP.rc0 hMK hPM) (MB.at hMK ⟨hRelM, hPt, hKg, hPM⟩) hS hsM (fun H locs hMS2 hS _ hk => ?_)
          have hXS2 := hXS2.kept hk hd
          have hMS2 := hMS2.toK hk5
          refine W.eq (g2 := F0 m 444 ls [.int (putR σ (xs (5 * t + 1)) (xs (5 * t + 2)) (xs (5 * t + 3)) (xs (5 * t + 4))), .int (putR σ (xs (5 * t + 1)) (xs (5 * t + 2)) (xs (5 * t + 3)) (xs (5 * t + 4)))]) rfl ?_
          refine lv_icmp_eq (tgt := 875) hx hb dL_law_444 (by decide) (fun _ => ?_) (fun c_e => absurd rfl c_e)
          exact fin (putS σ (xs (5 * t + 1)) (xs (5 * t + 2)) (xs (5 * t + 3)) (xs (5 * t + 4))) kp H locs hS hXS2 hMS2 ls hl
        ·
          refine lv_tableIn (off := 417) (tgt := 449) hx hb dL_law_32 (by decide) (by decide) (by decide) (by decide) ?_
          refine lv_aload_n hx hb dL_law_449 rfl (lv_at hl 1 rfl) ?_
          refine lv_aload_n hx hb dL_law_450 rfl (lv_at hl 0 rfl) ?_
          refine lv_iload_n hx hb dL_law_451 rfl (lv_at hl 3 rfl) ?_
          refine lv_iconst (v := nI 1) hx hb dL_law_452 (by decide) ?_
          refine lv_iadd hx hb dL_law_453 ?_
          refine nv_as (nI (5 * t + 1)) (nI_add _ _) ?_
          refine nv_sld hx hb hX hbl hbA hS (by omega) hL dL_law_454 ?_
          refine lv_aload_n hx hb dL_law_455 rfl (lv_at hl 0 rfl) ?_
          refine lv_iload_n hx hb dL_law_456 rfl (lv_at hl 3 rfl) ?_
          refine lv_iconst (v := nI 2) hx hb dL_law_457 (by decide) ?_
          refine lv_iadd hx hb dL_law_458 ?_
          refine nv_as (nI (5 * t + 2)) (nI_add _ _) ?_
          refine nv_sld hx hb hX hbl hbA hS (by omega) hL dL_law_459 ?_
          refine lv_aload_n hx hb dL_law_460 rfl (lv_at hl 0 rfl) ?_
          refine lv_iload_n hx hb dL_law_461 rfl (lv_at hl 3 rfl) ?_
          refine lv_iconst (v := nI 3) hx hb dL_law_462 (by decide) ?_
          refine lv_iadd hx hb dL_law_463 ?_
          refine nv_as (nI (5 * t + 3)) (nI_add _ _) ?_
          refine nv_sld hx hb hX hbl hbA hS (by omega) hL dL_law_464 ?_
          obtain ⟨mk, qu, held, hRel, hP⟩ := hXS
          refine wr_V S hl (c_X1_disk l D cI cZ ρ ts σ (kv kp) mk qu (xs (5 * t + 1)) (xs (5 * t + 2)) (xs (5 * t + 3))) XB.hb gL_law_X1_disk rfl rfl nf_X1_disk rfl rfl dL_law_465 (XP.rc0 hXK hP) (hXL.at hS ⟨held, hRel, hP⟩) hS hsX (fun H locs hXS2 hS _ hk => ?_)
          have hMS := hMS.kept hk hd
          refine W.eq (g2 := F0 m 468 ls [.int (diskR σ (xs (5 * t + 1)) (xs (5 * t + 2)) (xs (5 * t + 3)))]) rfl ?_
          refine lv_aload_n hx hb dL_law_468 rfl (lv_at hl 2 rfl) ?_
          refine lv_aload_n hx hb dL_law_469 rfl (lv_at hl 0 rfl) ?_
          refine lv_iload_n hx hb dL_law_470 rfl (lv_at hl 3 rfl) ?_
          refine lv_iconst (v := nI 1) hx hb dL_law_471 (by decide) ?_
          refine lv_iadd hx hb dL_law_472 ?_
          refine nv_as (nI (5 * t + 1)) (nI_add _ _) ?_
          refine nv_sld hx hb hX hbl hbA hS (by omega) hL dL_law_473 ?_
          refine lv_aload_n hx hb dL_law_474 rfl (lv_at hl 0 rfl) ?_
          refine lv_iload_n hx hb dL_law_475 rfl (lv_at hl 3 rfl) ?_
          refine lv_iconst (v := nI 2) hx hb dL_law_476 (by decide) ?_
          refine lv_iadd hx hb dL_law_477 ?_
          refine nv_as (nI (5 * t + 2)) (nI_add _ _) ?_
          refine nv_sld hx hb hX hbl hbA hS (by omega) hL dL_law_478 ?_
          refine lv_aload_n hx hb dL_law_479 rfl (lv_at hl 0 rfl) ?_
          refine lv_iload_n hx hb dL_law_480 rfl (lv_at hl 3 rfl) ?_
          refine lv_iconst (v := nI 3) hx hb dL_law_481 (by decide) ?_
          refine lv_iadd hx hb dL_law_482 ?_
          refine nv_as (nI (5 * t + 3)) (nI_add _ _) ?_
          refine nv_sld hx hb hX hbl hbA hS (by omega) hL dL_law_483 ?_
          obtain ⟨M, V, hk5, hRelM, hPt, hKg, hPM⟩ := hMS
          refine wr_V S hl (c_X2_disk l D cI cZ μ σ M V (xs (5 * t + 1)) (xs (5 * t + 2)) (xs (5 * t + 3))) MB.hb gL_law_X2_disk rfl rfl nf_X2_disk rfl rfl dL_law_484 (MP.rc0 hMK hPM) (MB.at hMK ⟨hRelM, hPt, hKg, hPM⟩) hS hsM (fun H locs hMS2 hS _ hk => ?_)
          have hXS2 := hXS2.kept hk hd
          have hMS2 := hMS2.toK hk5
          refine W.eq (g2 := F0 m 487 ls [.int (diskR σ (xs (5 * t + 1)) (xs (5 * t + 2)) (xs (5 * t + 3))), .int (diskR σ (xs (5 * t + 1)) (xs (5 * t + 2)) (xs (5 * t + 3)))]) rfl ?_
          refine lv_icmp_eq (tgt := 875) hx hb dL_law_487 (by decide) (fun _ => ?_) (fun c_e => absurd rfl c_e)
          exact fin (diskS σ (xs (5 * t + 1)) (xs (5 * t + 2)) (xs (5 * t + 3))) kp H locs hS hXS2 hMS2 ls hl
        ·
          refine lv_tableIn (off := 460) (tgt := 492) hx hb dL_law_32 (by decide) (by decide) (by decide) (by decide) ?_
          refine lv_aload_n hx hb dL_law_492 rfl (lv_at hl 1 rfl) ?_
          refine lv_aload_n hx hb dL_law_493 rfl (lv_at hl 0 rfl) ?_
          refine lv_iload_n hx hb dL_law_494 rfl (lv_at hl 3 rfl) ?_
          refine lv_iconst (v := nI 1) hx hb dL_law_495 (by decide) ?_
          refine lv_iadd hx hb dL_law_496 ?_
          refine nv_as (nI (5 * t + 1)) (nI_add _ _) ?_
          refine nv_sld hx hb hX hbl hbA hS (by omega) hL dL_law_497 ?_
          refine lv_aload_n hx hb dL_law_498 rfl (lv_at hl 0 rfl) ?_
          refine lv_iload_n hx hb dL_law_499 rfl (lv_at hl 3 rfl) ?_
          refine lv_iconst (v := nI 2) hx hb dL_law_500 (by decide) ?_
          refine lv_iadd hx hb dL_law_501 ?_
          refine nv_as (nI (5 * t + 2)) (nI_add _ _) ?_
          refine nv_sld hx hb hX hbl hbA hS (by omega) hL dL_law_502 ?_
          refine lv_aload_n hx hb dL_law_503 rfl (lv_at hl 0 rfl) ?_
          refine lv_iload_n hx hb dL_law_504 rfl (lv_at hl 3 rfl) ?_
          refine lv_iconst (v := nI 3) hx hb dL_law_505 (by decide) ?_
          refine lv_iadd hx hb dL_law_506 ?_
          refine nv_as (nI (5 * t + 3)) (nI_add _ _) ?_
          refine nv_sld hx hb hX hbl hbA hS (by omega) hL dL_law_507 ?_
          refine lv_aload_n hx hb dL_law_508 rfl (lv_at hl 0 rfl) ?_
          refine lv_iload_n hx hb dL_law_509 rfl (lv_at hl 3 rfl) ?_
          refine lv_iconst (v := nI 4) hx hb dL_law_510 (by decide) ?_
          refine lv_iadd hx hb dL_law_511 ?_
          refine nv_as (nI (5 * t + 4)) (nI_add _ _) ?_
          refine nv_sld hx hb hX hbl hbA hS (by omega) hL dL_law_512 ?_
          obtain ⟨mk, qu, held, hRel, hP⟩ := hXS
          refine wr_V S hl (c_X1_join l D cI cZ ρ ts σ (kv kp) mk qu (xs (5 * t + 1)) (xs (5 * t + 2)) (xs (5 * t + 3)) (xs (5 * t + 4))) XB.hb gL_law_X1_join rfl rfl nf_X1_join rfl rfl dL_law_513 (XP.rc0 hXK hP) (hXL.at hS ⟨held, hRel, hP⟩) hS hsX (fun H locs hXS2 hS _ hk => ?_)
          have hMS := hMS.kept hk hd
          refine W.eq (g2 := F0 m 516 ls [.int (joinR σ (xs (5 * t + 1)) (xs (5 * t + 2)) (xs (5 * t + 3)) (xs (5 * t + 4)))]) rfl ?_
          refine lv_aload_n hx hb dL_law_516 rfl (lv_at hl 2 rfl) ?_
          refine lv_aload_n hx hb dL_law_517 rfl (lv_at hl 0 rfl) ?_
          refine lv_iload_n hx hb dL_law_518 rfl (lv_at hl 3 rfl) ?_
          refine lv_iconst (v := nI 1) hx hb dL_law_519 (by decide) ?_
          refine lv_iadd hx hb dL_law_520 ?_
          refine nv_as (nI (5 * t + 1)) (nI_add _ _) ?_
          refine nv_sld hx hb hX hbl hbA hS (by omega) hL dL_law_521 ?_
          refine lv_aload_n hx hb dL_law_522 rfl (lv_at hl 0 rfl) ?_
          refine lv_iload_n hx hb dL_law_523 rfl (lv_at hl 3 rfl) ?_
          refine lv_iconst (v := nI 2) hx hb dL_law_524 (by decide) ?_
          refine lv_iadd hx hb dL_law_525 ?_
          refine nv_as (nI (5 * t + 2)) (nI_add _ _) ?_
          refine nv_sld hx hb hX hbl hbA hS (by omega) hL dL_law_526 ?_
          refine lv_aload_n hx hb dL_law_527 rfl (lv_at hl 0 rfl) ?_
          refine lv_iload_n hx hb dL_law_528 rfl (lv_at hl 3 rfl) ?_
          refine lv_iconst (v := nI 3) hx hb dL_law_529 (by decide) ?_
          refine lv_iadd hx hb dL_law_530 ?_
          refine nv_as (nI (5 * t + 3)) (nI_add _ _) ?_
          refine nv_sld hx hb hX hbl hbA hS (by omega) hL dL_law_531 ?_
          refine lv_aload_n hx hb dL_law_532 rfl (lv_at hl 0 rfl) ?_
          refine lv_iload_n hx hb dL_law_533 rfl (lv_at hl 3 rfl) ?_
          refine lv_iconst (v := nI 4) hx hb dL_law_534 (by decide) ?_
          refine lv_iadd hx hb dL_law_535 ?_
          refine nv_as (nI (5 * t + 4)) (nI_add _ _) ?_
          refine nv_sld hx hb hX hbl hbA hS (by omega) hL dL_law_536 ?_
          obtain ⟨M, V, hk5, hRelM, hPt, hKg, hPM⟩ := hMS
          refine wr_V S hl (c_X2_join l D cI cZ μ σ M V (xs (5 * t + 1)) (xs (5 * t + 2)) (xs (5 * t + 3)) (xs (5 * t + 4))) MB.hb gL_law_X2_join rfl rfl nf_X2_join rfl rfl dL_law_537 (MP.rc0 hMK hPM) (MB.at hMK ⟨hRelM, hPt, hKg, hPM⟩) hS hsM (fun H locs hMS2 hS _ hk => ?_)
          have hXS2 := hXS2.kept hk hd
          have hMS2 := hMS2.toK hk5
          refine W.eq (g2 := F0 m 540 ls [.int (joinR σ (xs (5 * t + 1)) (xs (5 * t + 2)) (xs (5 * t + 3)) (xs (5 * t + 4))), .int (joinR σ (xs (5 * t + 1)) (xs (5 * t + 2)) (xs (5 * t + 3)) (xs (5 * t + 4)))]) rfl ?_
          refine lv_icmp_eq (tgt := 875) hx hb dL_law_540 (by decide) (fun _ => ?_) (fun c_e => absurd rfl c_e)
          exact fin (joinS σ (xs (5 * t + 1)) (xs (5 * t + 2)) (xs (5 * t + 3)) (xs (5 * t + 4))) kp H locs hS hXS2 hMS2 ls hl
        ·
          refine lv_tableIn (off := 513) (tgt := 545) hx hb dL_law_32 (by decide) (by decide) (by decide) (by decide) ?_
          refine lv_aload_n hx hb dL_law_545 rfl (lv_at hl 1 rfl) ?_
          refine lv_aload_n hx hb dL_law_546 rfl (lv_at hl 0 rfl) ?_
          refine lv_iload_n hx hb dL_law_547 rfl (lv_at hl 3 rfl) ?_
          refine lv_iconst (v := nI 1) hx hb dL_law_548 (by decide) ?_
          refine lv_iadd hx hb dL_law_549 ?_
          refine nv_as (nI (5 * t + 1)) (nI_add _ _) ?_
          refine nv_sld hx hb hX hbl hbA hS (by omega) hL dL_law_550 ?_
          refine lv_aload_n hx hb dL_law_551 rfl (lv_at hl 0 rfl) ?_
          refine lv_iload_n hx hb dL_law_552 rfl (lv_at hl 3 rfl) ?_
          refine lv_iconst (v := nI 2) hx hb dL_law_553 (by decide) ?_
          refine lv_iadd hx hb dL_law_554 ?_
          refine nv_as (nI (5 * t + 2)) (nI_add _ _) ?_
          refine nv_sld hx hb hX hbl hbA hS (by omega) hL dL_law_555 ?_
          refine lv_aload_n hx hb dL_law_556 rfl (lv_at hl 0 rfl) ?_
          refine lv_iload_n hx hb dL_law_557 rfl (lv_at hl 3 rfl) ?_
          refine lv_iconst (v := nI 3) hx hb dL_law_558 (by decide) ?_
          refine lv_iadd hx hb dL_law_559 ?_
          refine nv_as (nI (5 * t + 3)) (nI_add _ _) ?_
          refine nv_sld hx hb hX hbl hbA hS (by omega) hL dL_law_560 ?_
          obtain ⟨mk, qu, held, hRel, hP⟩ := hXS
          refine wr_V S hl (c_X1_grow l D cI cZ ρ ts σ (kv kp) mk qu (xs (5 * t + 1)) (xs (5 * t + 2)) (xs (5 * t + 3))) XB.hb gL_law_X1_grow rfl rfl nf_X1_grow rfl rfl dL_law_561 (XP.rc0 hXK hP) (hXL.at hS ⟨held, hRel, hP⟩) hS hsX (fun H locs hXS2 hS _ hk => ?_)
          have hMS := hMS.kept hk hd
          refine W.eq (g2 := F0 m 564 ls [.int (growR σ (xs (5 * t + 1)) (xs (5 * t + 2)) (xs (5 * t + 3)))]) rfl ?_
          refine lv_aload_n hx hb dL_law_564 rfl (lv_at hl 2 rfl) ?_
          refine lv_aload_n hx hb dL_law_565 rfl (lv_at hl 0 rfl) ?_
          refine lv_iload_n hx hb dL_law_566 rfl (lv_at hl 3 rfl) ?_
          refine lv_iconst (v := nI 1) hx hb dL_law_567 (by decide) ?_
          refine lv_iadd hx hb dL_law_568 ?_
          refine nv_as (nI (5 * t + 1)) (nI_add _ _) ?_
          refine nv_sld hx hb hX hbl hbA hS (by omega) hL dL_law_569 ?_
          refine lv_aload_n hx hb dL_law_570 rfl (lv_at hl 0 rfl) ?_
          refine lv_iload_n hx hb dL_law_571 rfl (lv_at hl 3 rfl) ?_
          refine lv_iconst (v := nI 2) hx hb dL_law_572 (by decide) ?_
          refine lv_iadd hx hb dL_law_573 ?_
          refine nv_as (nI (5 * t + 2)) (nI_add _ _) ?_
          refine nv_sld hx hb hX hbl hbA hS (by omega) hL dL_law_574 ?_
          refine lv_aload_n hx hb dL_law_575 rfl (lv_at hl 0 rfl) ?_
          refine lv_iload_n hx hb dL_law_576 rfl (lv_at hl 3 rfl) ?_
          refine lv_iconst (v := nI 3) hx hb dL_law_577 (by decide) ?_
          refine lv_iadd hx hb dL_law_578 ?_
          refine nv_as (nI (5 * t + 3)) (nI_add _ _) ?_
          refine nv_sld hx hb hX hbl hbA hS (by omega) hL dL_law_579 ?_
          obtain ⟨M, V, hk5, hRelM, hPt, hKg, hPM⟩ := hMS
          refine wr_V S hl (c_X2_grow l D cI cZ μ σ M V (xs (5 * t + 1)) (xs (5 * t + 2)) (xs (5 * t + 3))) MB.hb gL_law_X2_grow rfl rfl nf_X2_grow rfl rfl dL_law_580 (MP.rc0 hMK hPM) (MB.at hMK ⟨hRelM, hPt, hKg, hPM⟩) hS hsM (fun H locs hMS2 hS _ hk => ?_)
          have hXS2 := hXS2.kept hk hd
          have hMS2 := hMS2.toK hk5
          refine W.eq (g2 := F0 m 583 ls [.int (growR σ (xs (5 * t + 1)) (xs (5 * t + 2)) (xs (5 * t + 3))), .int (growR σ (xs (5 * t + 1)) (xs (5 * t + 2)) (xs (5 * t + 3)))]) rfl ?_
          refine lv_icmp_eq (tgt := 875) hx hb dL_law_583 (by decide) (fun _ => ?_) (fun c_e => absurd rfl c_e)
          exact fin (growS σ (xs (5 * t + 1)) (xs (5 * t + 2)) (xs (5 * t + 3))) kp H locs hS hXS2 hMS2 ls hl
        ·
          refine lv_tableIn (off := 556) (tgt := 588) hx hb dL_law_32 (by decide) (by decide) (by decide) (by decide) ?_
          refine lv_aload_n hx hb dL_law_588 rfl (lv_at hl 1 rfl) ?_
          refine lv_aload_n hx hb dL_law_589 rfl (lv_at hl 0 rfl) ?_
          refine lv_iload_n hx hb dL_law_590 rfl (lv_at hl 3 rfl) ?_
          refine lv_iconst (v := nI 1) hx hb dL_law_591 (by decide) ?_
          refine lv_iadd hx hb dL_law_592 ?_
          refine nv_as (nI (5 * t + 1)) (nI_add _ _) ?_
          refine nv_sld hx hb hX hbl hbA hS (by omega) hL dL_law_593 ?_
          refine lv_aload_n hx hb dL_law_594 rfl (lv_at hl 0 rfl) ?_
          refine lv_iload_n hx hb dL_law_595 rfl (lv_at hl 3 rfl) ?_
          refine lv_iconst (v := nI 2) hx hb dL_law_596 (by decide) ?_
          refine lv_iadd hx hb dL_law_597 ?_
          refine nv_as (nI (5 * t + 2)) (nI_add _ _) ?_
          refine nv_sld hx hb hX hbl hbA hS (by omega) hL dL_law_598 ?_
          obtain ⟨mk, qu, held, hRel, hP⟩ := hXS
          refine rd_V S hl (c_X1_has l D cI cZ ρ ts σ (kv kp) mk qu (xs (5 * t + 1)) (xs (5 * t + 2))) XB.hb gL_law_X1_has rfl rfl nf_X1_has rfl rfl dL_law_599 (XP.rc0 hXK hP) (hXL.at hS ⟨held, hRel, hP⟩) ?_
          have hXS2 : XS D cI ρ σ (kv kp) H := ⟨mk, qu, held, hRel, hP⟩
          refine lv_aload_n hx hb dL_law_602 rfl (lv_at hl 2 rfl) ?_
          refine lv_aload_n hx hb dL_law_603 rfl (lv_at hl 0 rfl) ?_
          refine lv_iload_n hx hb dL_law_604 rfl (lv_at hl 3 rfl) ?_
          refine lv_iconst (v := nI 1) hx hb dL_law_605 (by decide) ?_
          refine lv_iadd hx hb dL_law_606 ?_
          refine nv_as (nI (5 * t + 1)) (nI_add _ _) ?_
          refine nv_sld hx hb hX hbl hbA hS (by omega) hL dL_law_607 ?_
          refine lv_aload_n hx hb dL_law_608 rfl (lv_at hl 0 rfl) ?_
          refine lv_iload_n hx hb dL_law_609 rfl (lv_at hl 3 rfl) ?_
          refine lv_iconst (v := nI 2) hx hb dL_law_610 (by decide) ?_
          refine lv_iadd hx hb dL_law_611 ?_
          refine nv_as (nI (5 * t + 2)) (nI_add _ _) ?_
          refine nv_sld hx hb hX hbl hbA hS (by omega) hL dL_law_612 ?_
          obtain ⟨M, V, hk5, hRelM, hPt, hKg, hPM⟩ := hMS
          refine rd_V S hl (c_X2_has l D cI cZ μ σ M V (xs (5 * t + 1)) (xs (5 * t + 2))) MB.hb gL_law_X2_has rfl rfl nf_X2_has rfl rfl dL_law_613 (MP.rc0 hMK hPM) (MB.at hMK ⟨hRelM, hPt, hKg, hPM⟩) ?_
          have hMS2 : MSK D cI cZ μ σ kp H := ⟨M, V, hk5, hRelM, hPt, hKg, hPM⟩
          refine lv_icmp_eq (tgt := 875) hx hb dL_law_616 (by decide) (fun _ => ?_) (fun c_e => absurd rfl c_e)
          exact fin σ kp H locs hS hXS2 hMS2 ls hl
        ·
          refine lv_tableIn (off := 589) (tgt := 621) hx hb dL_law_32 (by decide) (by decide) (by decide) (by decide) ?_
          refine lv_aload_n hx hb dL_law_621 rfl (lv_at hl 1 rfl) ?_
          refine lv_aload_n hx hb dL_law_622 rfl (lv_at hl 0 rfl) ?_
          refine lv_iload_n hx hb dL_law_623 rfl (lv_at hl 3 rfl) ?_
          refine lv_iconst (v := nI 1) hx hb dL_law_624 (by decide) ?_
          refine lv_iadd hx hb dL_law_625 ?_
          refine nv_as (nI (5 * t + 1)) (nI_add _ _) ?_
          refine nv_sld hx hb hX hbl hbA hS (by omega) hL dL_law_626 ?_
          refine lv_aload_n hx hb dL_law_627 rfl (lv_at hl 0 rfl) ?_
          refine lv_iload_n hx hb dL_law_628 rfl (lv_at hl 3 rfl) ?_
          refine lv_iconst (v := nI 2) hx hb dL_law_629 (by decide) ?_
          refine lv_iadd hx hb dL_law_630 ?_
          refine nv_as (nI (5 * t + 2)) (nI_add _ _) ?_
          refine nv_sld hx hb hX hbl hbA hS (by omega) hL dL_law_631 ?_
          obtain ⟨mk, qu, held, hRel, hP⟩ := hXS
          refine wr_V S hl (c_X1_about l D cI cZ ρ ts σ (kv kp) mk qu (xs (5 * t + 1)) (xs (5 * t + 2))) XB.hb gL_law_X1_about rfl rfl nf_X1_about rfl rfl dL_law_632 (XP.rc0 hXK hP) (hXL.at hS ⟨held, hRel, hP⟩) hS hsX (fun H locs hXS2 hS _ hk => ?_)
          have hMS := hMS.kept hk hd
          refine W.eq (g2 := F0 m 635 ls [.int (aboutR σ (xs (5 * t + 1)) (xs (5 * t + 2)))]) rfl ?_
          refine lv_aload_n hx hb dL_law_635 rfl (lv_at hl 2 rfl) ?_
          refine lv_aload_n hx hb dL_law_636 rfl (lv_at hl 0 rfl) ?_
          refine lv_iload_n hx hb dL_law_637 rfl (lv_at hl 3 rfl) ?_
          refine lv_iconst (v := nI 1) hx hb dL_law_638 (by decide) ?_
          refine lv_iadd hx hb dL_law_639 ?_
          refine nv_as (nI (5 * t + 1)) (nI_add _ _) ?_
          refine nv_sld hx hb hX hbl hbA hS (by omega) hL dL_law_640 ?_
          refine lv_aload_n hx hb dL_law_641 rfl (lv_at hl 0 rfl) ?_
          refine lv_iload_n hx hb dL_law_642 rfl (lv_at hl 3 rfl) ?_
          refine lv_iconst (v := nI 2) hx hb dL_law_643 (by decide) ?_
          refine lv_iadd hx hb dL_law_644 ?_
          refine nv_as (nI (5 * t + 2)) (nI_add _ _) ?_
          refine nv_sld hx hb hX hbl hbA hS (by omega) hL dL_law_645 ?_
          obtain ⟨M, V, hk5, hRelM, hPt, hKg, hPM⟩ := hMS
          refine wr_V S hl (c_X2_about l D cI cZ μ σ M V (xs (5 * t + 1)) (xs (5 * t + 2))) MB.hb gL_law_X2_about rfl rfl nf_X2_about rfl rfl dL_law_646 (MP.rc0 hMK hPM) (MB.at hMK ⟨hRelM, hPt, hKg, hPM⟩) hS hsM (fun H locs hMS2 hS _ hk => ?_)
          have hXS2 := hXS2.kept hk hd
          have hMS2 := hMS2.toK hk5
          refine W.eq (g2 := F0 m 649 ls [.int (aboutR σ (xs (5 * t + 1)) (xs (5 * t + 2))), .int (aboutR σ (xs (5 * t + 1)) (xs (5 * t + 2)))]) rfl ?_
          refine lv_icmp_eq (tgt := 875) hx hb dL_law_649 (by decide) (fun _ => ?_) (fun c_e => absurd rfl c_e)
          exact fin σ kp H locs hS hXS2 hMS2 ls hl
        ·
          refine lv_tableIn (off := 622) (tgt := 654) hx hb dL_law_32 (by decide) (by decide) (by decide) (by decide) ?_
          refine lv_aload_n hx hb dL_law_654 rfl (lv_at hl 1 rfl) ?_
          refine lv_aload_n hx hb dL_law_655 rfl (lv_at hl 0 rfl) ?_
          refine lv_iload_n hx hb dL_law_656 rfl (lv_at hl 3 rfl) ?_
          refine lv_iconst (v := nI 1) hx hb dL_law_657 (by decide) ?_
          refine lv_iadd hx hb dL_law_658 ?_
          refine nv_as (nI (5 * t + 1)) (nI_add _ _) ?_
          refine nv_sld hx hb hX hbl hbA hS (by omega) hL dL_law_659 ?_
          refine lv_aload_n hx hb dL_law_660 rfl (lv_at hl 0 rfl) ?_
          refine lv_iload_n hx hb dL_law_661 rfl (lv_at hl 3 rfl) ?_
          refine lv_iconst (v := nI 2) hx hb dL_law_662 (by decide) ?_
          refine lv_iadd hx hb dL_law_663 ?_
          refine nv_as (nI (5 * t + 2)) (nI_add _ _) ?_
          refine nv_sld hx hb hX hbl hbA hS (by omega) hL dL_law_664 ?_
          refine lv_aload_n hx hb dL_law_665 rfl (lv_at hl 0 rfl) ?_
          refine lv_iload_n hx hb dL_law_666 rfl (lv_at hl 3 rfl) ?_
          refine lv_iconst (v := nI 3) hx hb dL_law_667 (by decide) ?_
          refine lv_iadd hx hb dL_law_668 ?_
          refine nv_as (nI (5 * t + 3)) (nI_add _ _) ?_
          refine nv_sld hx hb hX hbl hbA hS (by omega) hL dL_law_669 ?_
          obtain ⟨mk, qu, held, hRel, hP⟩ := hXS
          refine rd_V S hl (c_X1_packed l D cI cZ ρ ts σ (kv kp) mk qu (xs (5 * t + 1)) (xs (5 * t + 2)) (xs (5 * t + 3))) XB.hb gL_law_X1_packed rfl rfl nf_X1_packed rfl rfl dL_law_670 (XP.rc0 hXK hP) (hXL.at hS ⟨held, hRel, hP⟩) ?_
          have hXS2 : XS D cI ρ σ (kv kp) H := ⟨mk, qu, held, hRel, hP⟩
          refine lv_aload_n hx hb dL_law_673 rfl (lv_at hl 2 rfl) ?_
          refine lv_aload_n hx hb dL_law_674 rfl (lv_at hl 0 rfl) ?_
          refine lv_iload_n hx hb dL_law_675 rfl (lv_at hl 3 rfl) ?_
          refine lv_iconst (v := nI 1) hx hb dL_law_676 (by decide) ?_
          refine lv_iadd hx hb dL_law_677 ?_
          refine nv_as (nI (5 * t + 1)) (nI_add _ _) ?_
          refine nv_sld hx hb hX hbl hbA hS (by omega) hL dL_law_678 ?_
          refine lv_aload_n hx hb dL_law_679 rfl (lv_at hl 0 rfl) ?_
          refine lv_iload_n hx hb dL_law_680 rfl (lv_at hl 3 rfl) ?_
          refine lv_iconst (v := nI 2) hx hb dL_law_681 (by decide) ?_
          refine lv_iadd hx hb dL_law_682 ?_
          refine nv_as (nI (5 * t + 2)) (nI_add _ _) ?_
          refine nv_sld hx hb hX hbl hbA hS (by omega) hL dL_law_683 ?_
          refine lv_aload_n hx hb dL_law_684 rfl (lv_at hl 0 rfl) ?_
          refine lv_iload_n hx hb dL_law_685 rfl (lv_at hl 3 rfl) ?_
          refine lv_iconst (v := nI 3) hx hb dL_law_686 (by decide) ?_
          refine lv_iadd hx hb dL_law_687 ?_
          refine nv_as (nI (5 * t + 3)) (nI_add _ _) ?_
          refine nv_sld hx hb hX hbl hbA hS (by omega) hL dL_law_688 ?_
          obtain ⟨M, V, hk5, hRelM, hPt, hKg, hPM⟩ := hMS
          refine wr_V S hl (c_X2_packed l D cI cZ μ σ M V (xs (5 * t + 1)) (xs (5 * t + 2)) (xs (5 * t + 3))) MB.hb gL_law_X2_packed rfl rfl nf_X2_packed rfl rfl dL_law_689 (MP.rc0 hMK hPM) (MB.at hMK ⟨hRelM, hPt, hKg, hPM⟩) hS hsM (fun H locs hMS2 hS _ hk => ?_)
          have hXS2 := hXS2.kept hk hd
          have hMS2 := hMS2.toK hk5
          refine W.eq (g2 := F0 m 692 ls [.int (packedR σ (xs (5 * t + 1)) (xs (5 * t + 2)) (xs (5 * t + 3))), .int (packedR σ (xs (5 * t + 1)) (xs (5 * t + 2)) (xs (5 * t + 3)))]) rfl ?_
          refine lv_icmp_eq (tgt := 875) hx hb dL_law_692 (by decide) (fun _ => ?_) (fun c_e => absurd rfl c_e)
          exact fin σ kp H locs hS hXS2 hMS2 ls hl
        ·
          refine lv_tableIn (off := 665) (tgt := 697) hx hb dL_law_32 (by decide) (by decide) (by decide) (by decide) ?_
          refine lv_aload_n hx hb dL_law_697 rfl (lv_at hl 1 rfl) ?_
          refine lv_aload_n hx hb dL_law_698 rfl (lv_at hl 0 rfl) ?_
          refine lv_iload_n hx hb dL_law_699 rfl (lv_at hl 3 rfl) ?_
          refine lv_iconst (v := nI 1) hx hb dL_law_700 (by decide) ?_
          refine lv_iadd hx hb dL_law_701 ?_
          refine nv_as (nI (5 * t + 1)) (nI_add _ _) ?_
          refine nv_sld hx hb hX hbl hbA hS (by omega) hL dL_law_702 ?_
          refine lv_aload_n hx hb dL_law_703 rfl (lv_at hl 0 rfl) ?_
          refine lv_iload_n hx hb dL_law_704 rfl (lv_at hl 3 rfl) ?_
          refine lv_iconst (v := nI 2) hx hb dL_law_705 (by decide) ?_
          refine lv_iadd hx hb dL_law_706 ?_
          refine nv_as (nI (5 * t + 2)) (nI_add _ _) ?_
          refine nv_sld hx hb hX hbl hbA hS (by omega) hL dL_law_707 ?_
          obtain ⟨mk, qu, held, hRel, hP⟩ := hXS
          refine wr_V S hl (c_X1_piece l D cI cZ ρ ts σ (kv kp) mk qu (xs (5 * t + 1)) (xs (5 * t + 2))) XB.hb gL_law_X1_piece rfl rfl nf_X1_piece rfl rfl dL_law_708 (XP.rc0 hXK hP) (hXL.at hS ⟨held, hRel, hP⟩) hS hsX (fun H locs hXS2 hS _ hk => ?_)
          have hMS := hMS.kept hk hd
          refine W.eq (g2 := F0 m 711 ls [.int (pieceR σ (xs (5 * t + 1)) (xs (5 * t + 2)))]) rfl ?_
          refine lv_aload_n hx hb dL_law_711 rfl (lv_at hl 2 rfl) ?_
          refine lv_aload_n hx hb dL_law_712 rfl (lv_at hl 0 rfl) ?_
          refine lv_iload_n hx hb dL_law_713 rfl (lv_at hl 3 rfl) ?_
          refine lv_iconst (v := nI 1) hx hb dL_law_714 (by decide) ?_
          refine lv_iadd hx hb dL_law_715 ?_
          refine nv_as (nI (5 * t + 1)) (nI_add _ _) ?_
          refine nv_sld hx hb hX hbl hbA hS (by omega) hL dL_law_716 ?_
          refine lv_aload_n hx hb dL_law_717 rfl (lv_at hl 0 rfl) ?_
          refine lv_iload_n hx hb dL_law_718 rfl (lv_at hl 3 rfl) ?_
          refine lv_iconst (v := nI 2) hx hb dL_law_719 (by decide) ?_
          refine lv_iadd hx hb dL_law_720 ?_
          refine nv_as (nI (5 * t + 2)) (nI_add _ _) ?_
          refine nv_sld hx hb hX hbl hbA hS (by omega) hL dL_law_721 ?_
          obtain ⟨M, V, hk5, hRelM, hPt, hKg, hPM⟩ := hMS
          refine wr_V S hl (c_X2_piece l D cI cZ μ σ M V (xs (5 * t + 1)) (xs (5 * t + 2))) MB.hb gL_law_X2_piece rfl rfl nf_X2_piece rfl rfl dL_law_722 (MP.rc0 hMK hPM) (MB.at hMK ⟨hRelM, hPt, hKg, hPM⟩) hS hsM (fun H locs hMS2 hS _ hk => ?_)
          have hXS2 := hXS2.kept hk hd
          have hMS2 := hMS2.toK hk5
          refine W.eq (g2 := F0 m 725 ls [.int (pieceR σ (xs (5 * t + 1)) (xs (5 * t + 2))), .int (pieceR σ (xs (5 * t + 1)) (xs (5 * t + 2)))]) rfl ?_
          refine lv_icmp_eq (tgt := 875) hx hb dL_law_725 (by decide) (fun _ => ?_) (fun c_e => absurd rfl c_e)
          exact fin σ kp H locs hS hXS2 hMS2 ls hl
        ·
          refine lv_tableIn (off := 698) (tgt := 730) hx hb dL_law_32 (by decide) (by decide) (by decide) (by decide) ?_
          refine lv_aload_n hx hb dL_law_730 rfl (lv_at hl 1 rfl) ?_
          refine lv_aload_n hx hb dL_law_731 rfl (lv_at hl 0 rfl) ?_
          refine lv_iload_n hx hb dL_law_732 rfl (lv_at hl 3 rfl) ?_
          refine lv_iconst (v := nI 1) hx hb dL_law_733 (by decide) ?_
          refine lv_iadd hx hb dL_law_734 ?_
          refine nv_as (nI (5 * t + 1)) (nI_add _ _) ?_
          refine nv_sld hx hb hX hbl hbA hS (by omega) hL dL_law_735 ?_
          refine lv_aload_n hx hb dL_law_736 rfl (lv_at hl 0 rfl) ?_
          refine lv_iload_n hx hb dL_law_737 rfl (lv_at hl 3 rfl) ?_
          refine lv_iconst (v := nI 2) hx hb dL_law_738 (by decide) ?_
          refine lv_iadd hx hb dL_law_739 ?_
          refine nv_as (nI (5 * t + 2)) (nI_add _ _) ?_
          refine nv_sld hx hb hX hbl hbA hS (by omega) hL dL_law_740 ?_
          refine lv_aload_n hx hb dL_law_741 rfl (lv_at hl 0 rfl) ?_
          refine lv_iload_n hx hb dL_law_742 rfl (lv_at hl 3 rfl) ?_
          refine lv_iconst (v := nI 3) hx hb dL_law_743 (by decide) ?_
          refine lv_iadd hx hb dL_law_744 ?_
          refine nv_as (nI (5 * t + 3)) (nI_add _ _) ?_
          refine nv_sld hx hb hX hbl hbA hS (by omega) hL dL_law_745 ?_
          obtain ⟨mk, qu, held, hRel, hP⟩ := hXS
          refine wr_V S hl (c_X1_way l D cI cZ ρ ts σ (kv kp) mk qu (xs (5 * t + 1)) (xs (5 * t + 2)) (xs (5 * t + 3))) XB.hb gL_law_X1_way rfl rfl nf_X1_way rfl rfl dL_law_746 (XP.rc0 hXK hP) (hXL.at hS ⟨held, hRel, hP⟩) hS hsX (fun H locs hXS2 hS _ hk => ?_)
          have hMS := hMS.kept hk hd
          refine W.eq (g2 := F0 m 749 ls [.int (wayR σ (xs (5 * t + 1)) (xs (5 * t + 2)) (xs (5 * t + 3)))]) rfl ?_
          refine lv_aload_n hx hb dL_law_749 rfl (lv_at hl 2 rfl) ?_
          refine lv_aload_n hx hb dL_law_750 rfl (lv_at hl 0 rfl) ?_
          refine lv_iload_n hx hb dL_law_751 rfl (lv_at hl 3 rfl) ?_
          refine lv_iconst (v := nI 1) hx hb dL_law_752 (by decide) ?_
          refine lv_iadd hx hb dL_law_753 ?_
          refine nv_as (nI (5 * t + 1)) (nI_add _ _) ?_
          refine nv_sld hx hb hX hbl hbA hS (by omega) hL dL_law_754 ?_
          refine lv_aload_n hx hb dL_law_755 rfl (lv_at hl 0 rfl) ?_
          refine lv_iload_n hx hb dL_law_756 rfl (lv_at hl 3 rfl) ?_
          refine lv_iconst (v := nI 2) hx hb dL_law_757 (by decide) ?_
          refine lv_iadd hx hb dL_law_758 ?_
          refine nv_as (nI (5 * t + 2)) (nI_add _ _) ?_
          refine nv_sld hx hb hX hbl hbA hS (by omega) hL dL_law_759 ?_
          refine lv_aload_n hx hb dL_law_760 rfl (lv_at hl 0 rfl) ?_
          refine lv_iload_n hx hb dL_law_761 rfl (lv_at hl 3 rfl) ?_
          refine lv_iconst (v := nI 3) hx hb dL_law_762 (by decide) ?_
          refine lv_iadd hx hb dL_law_763 ?_
          refine nv_as (nI (5 * t + 3)) (nI_add _ _) ?_
          refine nv_sld hx hb hX hbl hbA hS (by omega) hL dL_law_764 ?_
          obtain ⟨M, V, hk5, hRelM, hPt, hKg, hPM⟩ := hMS
          refine wr_V S hl (c_X2_way l D cI cZ μ σ M V (xs (5 * t + 1)) (xs (5 * t + 2)) (xs (5 * t + 3))) MB.hb gL_law_X2_way rfl rfl nf_X2_way rfl rfl dL_law_765 (MP.rc0 hMK hPM) (MB.at hMK ⟨hRelM, hPt, hKg, hPM⟩) hS hsM (fun H locs hMS2 hS _ hk => ?_)
          have hXS2 := hXS2.kept hk hd
          have hMS2 := hMS2.toK hk5
          refine W.eq (g2 := F0 m 768 ls [.int (wayR σ (xs (5 * t + 1)) (xs (5 * t + 2)) (xs (5 * t + 3))), .int (wayR σ (xs (5 * t + 1)) (xs (5 * t + 2)) (xs (5 * t + 3)))]) rfl ?_
          refine lv_icmp_eq (tgt := 875) hx hb dL_law_768 (by decide) (fun _ => ?_) (fun c_e => absurd rfl c_e)
          exact fin σ kp H locs hS hXS2 hMS2 ls hl
        ·
          refine lv_tableIn (off := 741) (tgt := 773) hx hb dL_law_32 (by decide) (by decide) (by decide) (by decide) ?_
          refine lv_aload_n hx hb dL_law_773 rfl (lv_at hl 1 rfl) ?_
          refine lv_aload_n hx hb dL_law_774 rfl (lv_at hl 0 rfl) ?_
          refine lv_iload_n hx hb dL_law_775 rfl (lv_at hl 3 rfl) ?_
          refine lv_iconst (v := nI 1) hx hb dL_law_776 (by decide) ?_
          refine lv_iadd hx hb dL_law_777 ?_
          refine nv_as (nI (5 * t + 1)) (nI_add _ _) ?_
          refine nv_sld hx hb hX hbl hbA hS (by omega) hL dL_law_778 ?_
          refine lv_aload_n hx hb dL_law_779 rfl (lv_at hl 0 rfl) ?_
          refine lv_iload_n hx hb dL_law_780 rfl (lv_at hl 3 rfl) ?_
          refine lv_iconst (v := nI 2) hx hb dL_law_781 (by decide) ?_
          refine lv_iadd hx hb dL_law_782 ?_
          refine nv_as (nI (5 * t + 2)) (nI_add _ _) ?_
          refine nv_sld hx hb hX hbl hbA hS (by omega) hL dL_law_783 ?_
          obtain ⟨mk, qu, held, hRel, hP⟩ := hXS
          refine rd_V S hl (c_X1_alike l D cI cZ ρ ts σ (kv kp) mk qu (xs (5 * t + 1)) (xs (5 * t + 2))) XB.hb gL_law_X1_alike rfl rfl nf_X1_alike rfl rfl dL_law_784 (XP.rc0 hXK hP) (hXL.at hS ⟨held, hRel, hP⟩) ?_
          have hXS2 : XS D cI ρ σ (kv kp) H := ⟨mk, qu, held, hRel, hP⟩
          refine lv_aload_n hx hb dL_law_787 rfl (lv_at hl 2 rfl) ?_
          refine lv_aload_n hx hb dL_law_788 rfl (lv_at hl 0 rfl) ?_
          refine lv_iload_n hx hb dL_law_789 rfl (lv_at hl 3 rfl) ?_
          refine lv_iconst (v := nI 1) hx hb dL_law_790 (by decide) ?_
          refine lv_iadd hx hb dL_law_791 ?_
          refine nv_as (nI (5 * t + 1)) (nI_add _ _) ?_
          refine nv_sld hx hb hX hbl hbA hS (by omega) hL dL_law_792 ?_
          refine lv_aload_n hx hb dL_law_793 rfl (lv_at hl 0 rfl) ?_
          refine lv_iload_n hx hb dL_law_794 rfl (lv_at hl 3 rfl) ?_
          refine lv_iconst (v := nI 2) hx hb dL_law_795 (by decide) ?_
          refine lv_iadd hx hb dL_law_796 ?_
          refine nv_as (nI (5 * t + 2)) (nI_add _ _) ?_
          refine nv_sld hx hb hX hbl hbA hS (by omega) hL dL_law_797 ?_
          obtain ⟨M, V, hk5, hRelM, hPt, hKg, hPM⟩ := hMS
          refine rd_V S hl (c_X2_alike l D cI cZ μ σ M V (xs (5 * t + 1)) (xs (5 * t + 2))) MB.hb gL_law_X2_alike rfl rfl nf_X2_alike rfl rfl dL_law_798 (MP.rc0 hMK hPM) (MB.at hMK ⟨hRelM, hPt, hKg, hPM⟩) ?_
          have hMS2 : MSK D cI cZ μ σ kp H := ⟨M, V, hk5, hRelM, hPt, hKg, hPM⟩
          refine lv_icmp_eq (tgt := 875) hx hb dL_law_801 (by decide) (fun _ => ?_) (fun c_e => absurd rfl c_e)
          exact fin σ kp H locs hS hXS2 hMS2 ls hl
        ·
          refine lv_tableIn (off := 774) (tgt := 806) hx hb dL_law_32 (by decide) (by decide) (by decide) (by decide) ?_
          refine lv_aload_n hx hb dL_law_806 rfl (lv_at hl 1 rfl) ?_
          refine lv_aload_n hx hb dL_law_807 rfl (lv_at hl 0 rfl) ?_
          refine lv_iload_n hx hb dL_law_808 rfl (lv_at hl 3 rfl) ?_
          refine lv_iconst (v := nI 1) hx hb dL_law_809 (by decide) ?_
          refine lv_iadd hx hb dL_law_810 ?_
          refine nv_as (nI (5 * t + 1)) (nI_add _ _) ?_
          refine nv_sld hx hb hX hbl hbA hS (by omega) hL dL_law_811 ?_
          obtain ⟨mk, qu, held, hRel, hP⟩ := hXS
          refine wr_V S hl (c_X1_image l D cI cZ ρ ts σ (kv kp) mk qu (xs (5 * t + 1)) kp rfl) XB.hb gL_law_X1_image rfl rfl nf_X1_image rfl rfl dL_law_812 (XP.rc0 hXK hP) (hXL.at hS ⟨held, hRel, hP⟩) hS hsX (fun H locs hXS2 hS _ hk => ?_)
          have hMS := hMS.kept hk hd
          refine W.eq (g2 := F0 m 815 ls [.int (imageR (xs (5 * t + 1)))]) rfl ?_
          refine lv_aload_n hx hb dL_law_815 rfl (lv_at hl 2 rfl) ?_
          refine lv_aload_n hx hb dL_law_816 rfl (lv_at hl 0 rfl) ?_
          refine lv_iload_n hx hb dL_law_817 rfl (lv_at hl 3 rfl) ?_
          refine lv_iconst (v := nI 1) hx hb dL_law_818 (by decide) ?_
          refine lv_iadd hx hb dL_law_819 ?_
          refine nv_as (nI (5 * t + 1)) (nI_add _ _) ?_
          refine nv_sld hx hb hX hbl hbA hS (by omega) hL dL_law_820 ?_
          obtain ⟨M, V, hk5, hRelM, hPt, hKg, hPM⟩ := hMS
          refine wr_V S hl (c_X2_image l D cI cZ μ σ M V (xs (5 * t + 1)) kp hk5) MB.hb gL_law_X2_image rfl rfl nf_X2_image rfl rfl dL_law_821 (MP.rc0 hMK hPM) (MB.at hMK ⟨hRelM, hPt, hKg, hPM⟩) hS hsM (fun H locs hMS2 hS _ hk => ?_)
          have hXS2 := hXS2.kept hk hd
          refine W.eq (g2 := F0 m 824 ls [.int (imageR (xs (5 * t + 1))), .int (imageR (xs (5 * t + 1)))]) rfl ?_
          refine lv_icmp_eq (tgt := 875) hx hb dL_law_824 (by decide) (fun _ => ?_) (fun c_e => absurd rfl c_e)
          exact fin (imageS σ (xs (5 * t + 1))) (imageK kp (xs (5 * t + 1))) H locs hS hXS2 hMS2 ls hl
        ·
          refine lv_tableIn (off := 797) (tgt := 829) hx hb dL_law_32 (by decide) (by decide) (by decide) (by decide) ?_
          refine lv_aload_n hx hb dL_law_829 rfl (lv_at hl 1 rfl) ?_
          refine lv_aload_n hx hb dL_law_830 rfl (lv_at hl 0 rfl) ?_
          refine lv_iload_n hx hb dL_law_831 rfl (lv_at hl 3 rfl) ?_
          refine lv_iconst (v := nI 1) hx hb dL_law_832 (by decide) ?_
          refine lv_iadd hx hb dL_law_833 ?_
          refine nv_as (nI (5 * t + 1)) (nI_add _ _) ?_
          refine nv_sld hx hb hX hbl hbA hS (by omega) hL dL_law_834 ?_
          obtain ⟨mk, qu, held, hRel, hP⟩ := hXS
          refine wr_V S hl (c_X1_restore l D cI cZ ρ ts σ (kv kp) mk qu (xs (5 * t + 1)) kp rfl) XB.hb gL_law_X1_restore rfl rfl nf_X1_restore rfl rfl dL_law_835 (XP.rc0 hXK hP) (hXL.at hS ⟨held, hRel, hP⟩) hS hsX (fun H locs hXS2 hS _ hk => ?_)
          have hMS := hMS.kept hk hd
          refine W.eq (g2 := F0 m 838 ls [.int (restR kp (xs (5 * t + 1)))]) rfl ?_
          refine lv_aload_n hx hb dL_law_838 rfl (lv_at hl 2 rfl) ?_
          refine lv_aload_n hx hb dL_law_839 rfl (lv_at hl 0 rfl) ?_
          refine lv_iload_n hx hb dL_law_840 rfl (lv_at hl 3 rfl) ?_
          refine lv_iconst (v := nI 1) hx hb dL_law_841 (by decide) ?_
          refine lv_iadd hx hb dL_law_842 ?_
          refine nv_as (nI (5 * t + 1)) (nI_add _ _) ?_
          refine nv_sld hx hb hX hbl hbA hS (by omega) hL dL_law_843 ?_
          obtain ⟨M, V, hk5, hRelM, hPt, hKg, hPM⟩ := hMS
          refine wr_V S hl (c_X2_restore l D cI cZ μ σ M V (xs (5 * t + 1)) kp hk5) MB.hb gL_law_X2_restore rfl rfl nf_X2_restore rfl rfl dL_law_844 (MP.rc0 hMK hPM) (MB.at hMK ⟨hRelM, hPt, hKg, hPM⟩) hS hsM (fun H locs hMS2 hS _ hk => ?_)
          have hXS2 := hXS2.kept hk hd
          refine W.eq (g2 := F0 m 847 ls [.int (restR kp (xs (5 * t + 1))), .int (restR kp (xs (5 * t + 1)))]) rfl ?_
          refine lv_icmp_eq (tgt := 875) hx hb dL_law_847 (by decide) (fun _ => ?_) (fun c_e => absurd rfl c_e)
          exact fin (restS σ kp (xs (5 * t + 1))) kp H locs hS hXS2 hMS2 ls hl
        ·
          refine lv_tableIn (off := 820) (tgt := 852) hx hb dL_law_32 (by decide) (by decide) (by decide) (by decide) ?_
          refine lv_aload_n hx hb dL_law_852 rfl (lv_at hl 1 rfl) ?_
          refine lv_aload_n hx hb dL_law_853 rfl (lv_at hl 0 rfl) ?_
          refine lv_iload_n hx hb dL_law_854 rfl (lv_at hl 3 rfl) ?_
          refine lv_iconst (v := nI 1) hx hb dL_law_855 (by decide) ?_
          refine lv_iadd hx hb dL_law_856 ?_
          refine nv_as (nI (5 * t + 1)) (nI_add _ _) ?_
          refine nv_sld hx hb hX hbl hbA hS (by omega) hL dL_law_857 ?_
          obtain ⟨mk, qu, held, hRel, hP⟩ := hXS
          refine rd_V S hl (c_X1_count l D cI cZ ρ ts σ (kv kp) mk qu (xs (5 * t + 1))) XB.hb gL_law_X1_count rfl rfl nf_X1_count rfl rfl dL_law_858 (XP.rc0 hXK hP) (hXL.at hS ⟨held, hRel, hP⟩) ?_
          have hXS2 : XS D cI ρ σ (kv kp) H := ⟨mk, qu, held, hRel, hP⟩
          refine lv_aload_n hx hb dL_law_861 rfl (lv_at hl 2 rfl) ?_
          refine lv_aload_n hx hb dL_law_862 rfl (lv_at hl 0 rfl) ?_
          refine lv_iload_n hx hb dL_law_863 rfl (lv_at hl 3 rfl) ?_
          refine lv_iconst (v := nI 1) hx hb dL_law_864 (by decide) ?_
          refine lv_iadd hx hb dL_law_865 ?_
          refine nv_as (nI (5 * t + 1)) (nI_add _ _) ?_
          refine nv_sld hx hb hX hbl hbA hS (by omega) hL dL_law_866 ?_
          obtain ⟨M, V, hk5, hRelM, hPt, hKg, hPM⟩ := hMS
          refine wr_V S hl (c_X2_count l D cI cZ μ σ M V (xs (5 * t + 1)) kp hk5) MB.hb gL_law_X2_count rfl rfl nf_X2_count rfl rfl dL_law_867 (MP.rc0 hMK hPM) (MB.at hMK ⟨hRelM, hPt, hKg, hPM⟩) hS hsM (fun H locs hMS2 hS _ hk => ?_)
          have hXS2 := hXS2.kept hk hd
          have hMS2 := hMS2.toK hk5
          refine W.eq (g2 := F0 m 870 ls [.int (countR σ (kv kp) (xs (5 * t + 1))), .int (countR σ (kv kp) (xs (5 * t + 1)))]) rfl ?_
          refine lv_icmp_eq (tgt := 875) hx hb dL_law_870 (by decide) (fun _ => ?_) (fun c_e => absurd rfl c_e)
          exact fin σ kp H locs hS hXS2 hMS2 ls hl
      · refine lv_tableOut (tgt := 875) hx hb dL_law_32 ho (by decide) ?_
        exact fin σ kp H locs hS hXS hMS ls hl
