theorem t_Law_law_139 {R : List AC} {L0 : Nat} {xs : Nat → Int32} {cu su : Nat} (hc : cu ≤ (mR q_Law_law).cells ∧ su ≤ (mR q_Law_law).slots) (rec18 : Int32 → Sg → Ro) (l3 : Int32) (t0 t1 : Int32) (hrec18 : ∀ (l3 : Int32) (s : Sg), Gd q_Law_law (some (L0, xs)) 18 [some (vs), some (vr 0), some (vr 31), some (vi l3)] [] s R cu su (rec18 l3 s)) (s : Sg) : Gd q_Law_law (some (L0, xs)) 139 [some (vs), some (vr 0), some (vr 31), some (vi l3)] [vi t0, vr 31, vi t1] s R cu su (f_Law_law_139 L0 xs rec18 l3 t0 t1 s) := by
  unfold f_Law_law_139
  refine G.callVi (As := [vi t0]) (n := 1) (i := 31) (ci := 8) (st := [vi t1]) (t_Mod_pack t0 s _) (pc' := 142) d_Law_law_139 rfl lm_Law_17 mk_Mod_pack mv_Mod_pack ⟨rfl, rfl⟩ ⟨by decide, by decide⟩ (HX_31 _ _) rfl rfl rfl rfl hc rfl (fun v1 s1 => ?_)
  refine G.icmp_eq (pc' := 145) (tgt := 771) d_Law_law_142 rfl (by decide) ?_ ?_
  · refine G.iinc (w := 7) (v := l3 + 7) (ρ' := [some (vs), some (vr 0), some (vr 31), some (vi (l3 + 7))]) (pc' := 774) d_Law_law_771 rfl rfl (by decide) kI_7 rfl rfl ?_
    refine G.goto (tgt := 18) d_Law_law_774 (by decide) ?_
    exact hrec18 (l3 + 7) s1
  · refine G.iconst (v := 0) (pc' := 146) d_Law_law_145 rfl kI_0 ?_
    exact G.zretK (by decide) d_Law_law_146 rfl hc
theorem t_Law_law_122 {R : List AC} {L0 : Nat} {xs : Nat → Int32} {cu su : Nat} (hc : cu ≤ (mR q_Law_law).cells ∧ su ≤ (mR q_Law_law).slots) (rec18 : Int32 → Sg → Ro) (l3 : Int32) (t0 : Int32) (hrec18 : ∀ (l3 : Int32) (s : Sg), Gd q_Law_law (some (L0, xs)) 18 [some (vs), some (vr 0), some (vr 31), some (vi l3)] [] s R cu su (rec18 l3 s)) (s : Sg) : Gd q_Law_law (some (L0, xs)) 122 [some (vs), some (vr 0), some (vr 31), some (vi l3)] [vi t0, vr 0] s R cu su (f_Law_law_122 L0 xs rec18 l3 t0 s) := by
  unfold f_Law_law_122
  refine G.callVi (As := [vi t0]) (n := 1) (i := 0) (ci := 0) (st := []) (t_FU_pack t0 s _) (pc' := 125) d_Law_law_122 rfl lm_Law_13 mk_FU_pack mv_FU_pack ⟨rfl, rfl⟩ ⟨by decide, by decide⟩ (HX_0 _ _) rfl rfl rfl rfl hc rfl (fun v1 s1 => ?_)
  refine G.aload_n (pc' := 126) d_Law_law_125 rfl rfl ?_
  refine G.aloadS_n (pc' := 127) d_Law_law_126 rfl rfl ?_
  refine G.iload_n (pc' := 128) d_Law_law_127 rfl rfl ?_
  refine G.iconst (v := 1) (pc' := 129) d_Law_law_128 rfl kI_1 ?_
  refine G.iadd (pc' := 130) d_Law_law_129 rfl ?_
  refine G.sld (pc' := 131) d_Law_law_130 rfl ?_
  refine G.bz (p1 := 134) (p2 := 135) (p3 := 138) (p4 := 139) d_Law_law_131 rfl (by decide) d_Law_law_134 rfl d_Law_law_135 (by decide) d_Law_law_138 rfl ?_
  exact t_Law_law_139 hc rec18 l3 (nz (xs (ix (l3 + 1)))) v1 hrec18 s1
theorem t_Law_law_203 {R : List AC} {L0 : Nat} {xs : Nat → Int32} {cu su : Nat} (hc : cu ≤ (mR q_Law_law).cells ∧ su ≤ (mR q_Law_law).slots) (rec18 : Int32 → Sg → Ro) (l3 : Int32) (t0 t1 t2 t3 : Int32) (hrec18 : ∀ (l3 : Int32) (s : Sg), Gd q_Law_law (some (L0, xs)) 18 [some (vs), some (vr 0), some (vr 31), some (vi l3)] [] s R cu su (rec18 l3 s)) (s : Sg) : Gd q_Law_law (some (L0, xs)) 203 [some (vs), some (vr 0), some (vr 31), some (vi l3)] [vi t0, vi t1, vi t2, vr 31, vi t3] s R cu su (f_Law_law_203 L0 xs rec18 l3 t0 t1 t2 t3 s) := by
  unfold f_Law_law_203
  refine G.aloadS_n (pc' := 204) d_Law_law_203 rfl rfl ?_
  refine G.iload_n (pc' := 205) d_Law_law_204 rfl rfl ?_
  refine G.iconst (v := 4) (pc' := 206) d_Law_law_205 rfl kI_4 ?_
  refine G.iadd (pc' := 207) d_Law_law_206 rfl ?_
  refine G.sld (pc' := 208) d_Law_law_207 rfl ?_
  refine G.callVi (As := [vi t2, vi t1, vi t0, vi (xs (ix (l3 + 4)))]) (n := 4) (i := 31) (ci := 8) (st := [vi t3]) (t_Mod_feature t2 t1 t0 (xs (ix (l3 + 4))) s _) (pc' := 211) d_Law_law_208 rfl lm_Law_22 mk_Mod_feature mv_Mod_feature ⟨rfl, rfl⟩ ⟨by decide, by decide⟩ (HX_31 _ _) rfl rfl rfl rfl hc rfl (fun v1 s1 => ?_)
  refine G.icmp_eq (pc' := 214) (tgt := 771) d_Law_law_211 rfl (by decide) ?_ ?_
  · refine G.iinc (w := 7) (v := l3 + 7) (ρ' := [some (vs), some (vr 0), some (vr 31), some (vi (l3 + 7))]) (pc' := 774) d_Law_law_771 rfl rfl (by decide) kI_7 rfl rfl ?_
    refine G.goto (tgt := 18) d_Law_law_774 (by decide) ?_
    exact hrec18 (l3 + 7) s1
  · refine G.iconst (v := 0) (pc' := 215) d_Law_law_214 rfl kI_0 ?_
    exact G.zretK (by decide) d_Law_law_215 rfl hc
theorem t_Law_law_171 {R : List AC} {L0 : Nat} {xs : Nat → Int32} {cu su : Nat} (hc : cu ≤ (mR q_Law_law).cells ∧ su ≤ (mR q_Law_law).slots) (rec18 : Int32 → Sg → Ro) (l3 : Int32) (t0 t1 t2 : Int32) (hrec18 : ∀ (l3 : Int32) (s : Sg), Gd q_Law_law (some (L0, xs)) 18 [some (vs), some (vr 0), some (vr 31), some (vi l3)] [] s R cu su (rec18 l3 s)) (s : Sg) : Gd q_Law_law (some (L0, xs)) 171 [some (vs), some (vr 0), some (vr 31), some (vi l3)] [vi t0, vi t1, vi t2, vr 0] s R cu su (f_Law_law_171 L0 xs rec18 l3 t0 t1 t2 s) := by
  unfold f_Law_law_171
  refine G.aloadS_n (pc' := 172) d_Law_law_171 rfl rfl ?_
  refine G.iload_n (pc' := 173) d_Law_law_172 rfl rfl ?_
  refine G.iconst (v := 4) (pc' := 174) d_Law_law_173 rfl kI_4 ?_
  refine G.iadd (pc' := 175) d_Law_law_174 rfl ?_
  refine G.sld (pc' := 176) d_Law_law_175 rfl ?_
  refine G.callVi (As := [vi t2, vi t1, vi t0, vi (xs (ix (l3 + 4)))]) (n := 4) (i := 0) (ci := 0) (st := []) (t_FU_feature t2 t1 t0 (xs (ix (l3 + 4))) s _) (pc' := 179) d_Law_law_176 rfl lm_Law_18 mk_FU_feature mv_FU_feature ⟨rfl, rfl⟩ ⟨by decide, by decide⟩ (HX_0 _ _) rfl rfl rfl rfl hc rfl (fun v1 s1 => ?_)
  refine G.aload_n (pc' := 180) d_Law_law_179 rfl rfl ?_
  refine G.aloadS_n (pc' := 181) d_Law_law_180 rfl rfl ?_
  refine G.iload_n (pc' := 182) d_Law_law_181 rfl rfl ?_
  refine G.iconst (v := 1) (pc' := 183) d_Law_law_182 rfl kI_1 ?_
  refine G.iadd (pc' := 184) d_Law_law_183 rfl ?_
  refine G.sld (pc' := 185) d_Law_law_184 rfl ?_
  refine G.aloadS_n (pc' := 186) d_Law_law_185 rfl rfl ?_
  refine G.iload_n (pc' := 187) d_Law_law_186 rfl rfl ?_
  refine G.iconst (v := 2) (pc' := 188) d_Law_law_187 rfl kI_2 ?_
  refine G.iadd (pc' := 189) d_Law_law_188 rfl ?_
  refine G.sld (pc' := 190) d_Law_law_189 rfl ?_
  refine G.aloadS_n (pc' := 191) d_Law_law_190 rfl rfl ?_
  refine G.iload_n (pc' := 192) d_Law_law_191 rfl rfl ?_
  refine G.iconst (v := 3) (pc' := 193) d_Law_law_192 rfl kI_3 ?_
  refine G.iadd (pc' := 194) d_Law_law_193 rfl ?_
  refine G.sld (pc' := 195) d_Law_law_194 rfl ?_
  refine G.bz (p1 := 198) (p2 := 199) (p3 := 202) (p4 := 203) d_Law_law_195 rfl (by decide) d_Law_law_198 rfl d_Law_law_199 (by decide) d_Law_law_202 rfl ?_
  exact t_Law_law_203 hc rec18 l3 (nz (xs (ix (l3 + 3)))) (xs (ix (l3 + 2))) (xs (ix (l3 + 1))) v1 hrec18 s1
theorem t_Law_law_257 {R : List AC} {L0 : Nat} {xs : Nat → Int32} {cu su : Nat} (hc : cu ≤ (mR q_Law_law).cells ∧ su ≤ (mR q_Law_law).slots) (rec18 : Int32 → Sg → Ro) (l3 : Int32) (t0 t1 t2 : Int32) (hrec18 : ∀ (l3 : Int32) (s : Sg), Gd q_Law_law (some (L0, xs)) 18 [some (vs), some (vr 0), some (vr 31), some (vi l3)] [] s R cu su (rec18 l3 s)) (s : Sg) : Gd q_Law_law (some (L0, xs)) 257 [some (vs), some (vr 0), some (vr 31), some (vi l3)] [vi t0, vi t1, vr 31, vi t2] s R cu su (f_Law_law_257 L0 xs rec18 l3 t0 t1 t2 s) := by
  unfold f_Law_law_257
  refine G.callVi (As := [vi t1, vi t0]) (n := 2) (i := 31) (ci := 8) (st := [vi t2]) (t_Mod_root t1 t0 s _) (pc' := 260) d_Law_law_257 rfl lm_Law_27 mk_Mod_root mv_Mod_root ⟨rfl, rfl⟩ ⟨by decide, by decide⟩ (HX_31 _ _) rfl rfl rfl rfl hc rfl (fun v1 s1 => ?_)
  refine G.icmp_eq (pc' := 263) (tgt := 771) d_Law_law_260 rfl (by decide) ?_ ?_
  · refine G.iinc (w := 7) (v := l3 + 7) (ρ' := [some (vs), some (vr 0), some (vr 31), some (vi (l3 + 7))]) (pc' := 774) d_Law_law_771 rfl rfl (by decide) kI_7 rfl rfl ?_
    refine G.goto (tgt := 18) d_Law_law_774 (by decide) ?_
    exact hrec18 (l3 + 7) s1
  · refine G.iconst (v := 0) (pc' := 264) d_Law_law_263 rfl kI_0 ?_
    exact G.zretK (by decide) d_Law_law_264 rfl hc
theorem t_Law_law_235 {R : List AC} {L0 : Nat} {xs : Nat → Int32} {cu su : Nat} (hc : cu ≤ (mR q_Law_law).cells ∧ su ≤ (mR q_Law_law).slots) (rec18 : Int32 → Sg → Ro) (l3 : Int32) (t0 t1 : Int32) (hrec18 : ∀ (l3 : Int32) (s : Sg), Gd q_Law_law (some (L0, xs)) 18 [some (vs), some (vr 0), some (vr 31), some (vi l3)] [] s R cu su (rec18 l3 s)) (s : Sg) : Gd q_Law_law (some (L0, xs)) 235 [some (vs), some (vr 0), some (vr 31), some (vi l3)] [vi t0, vi t1, vr 0] s R cu su (f_Law_law_235 L0 xs rec18 l3 t0 t1 s) := by
  unfold f_Law_law_235
  refine G.callVi (As := [vi t1, vi t0]) (n := 2) (i := 0) (ci := 0) (st := []) (t_FU_root t1 t0 s _) (pc' := 238) d_Law_law_235 rfl lm_Law_23 mk_FU_root mv_FU_root ⟨rfl, rfl⟩ ⟨by decide, by decide⟩ (HX_0 _ _) rfl rfl rfl rfl hc rfl (fun v1 s1 => ?_)
  refine G.aload_n (pc' := 239) d_Law_law_238 rfl rfl ?_
  refine G.aloadS_n (pc' := 240) d_Law_law_239 rfl rfl ?_
  refine G.iload_n (pc' := 241) d_Law_law_240 rfl rfl ?_
  refine G.iconst (v := 1) (pc' := 242) d_Law_law_241 rfl kI_1 ?_
  refine G.iadd (pc' := 243) d_Law_law_242 rfl ?_
  refine G.sld (pc' := 244) d_Law_law_243 rfl ?_
  refine G.aloadS_n (pc' := 245) d_Law_law_244 rfl rfl ?_
  refine G.iload_n (pc' := 246) d_Law_law_245 rfl rfl ?_
  refine G.iconst (v := 2) (pc' := 247) d_Law_law_246 rfl kI_2 ?_
  refine G.iadd (pc' := 248) d_Law_law_247 rfl ?_
  refine G.sld (pc' := 249) d_Law_law_248 rfl ?_
  refine G.bz (p1 := 252) (p2 := 253) (p3 := 256) (p4 := 257) d_Law_law_249 rfl (by decide) d_Law_law_252 rfl d_Law_law_253 (by decide) d_Law_law_256 rfl ?_
  exact t_Law_law_257 hc rec18 l3 (nz (xs (ix (l3 + 2)))) (xs (ix (l3 + 1))) v1 hrec18 s1
theorem t_Law_law_374 {R : List AC} {L0 : Nat} {xs : Nat → Int32} {cu su : Nat} (hc : cu ≤ (mR q_Law_law).cells ∧ su ≤ (mR q_Law_law).slots) (rec18 : Int32 → Sg → Ro) (l3 : Int32) (t0 t1 t2 t3 t4 t5 : Int32) (hrec18 : ∀ (l3 : Int32) (s : Sg), Gd q_Law_law (some (L0, xs)) 18 [some (vs), some (vr 0), some (vr 31), some (vi l3)] [] s R cu su (rec18 l3 s)) (s : Sg) : Gd q_Law_law (some (L0, xs)) 374 [some (vs), some (vr 0), some (vr 31), some (vi l3)] [vi t0, vi t1, vi t2, vi t3, vi t4, vr 31, vi t5] s R cu su (f_Law_law_374 L0 xs rec18 l3 t0 t1 t2 t3 t4 t5 s) := by
  unfold f_Law_law_374
  refine G.aloadS_n (pc' := 375) d_Law_law_374 rfl rfl ?_
  refine G.iload_n (pc' := 376) d_Law_law_375 rfl rfl ?_
  refine G.bipush (v := 6) (pc' := 378) d_Law_law_376 rfl kB_6 ?_
  refine G.iadd (pc' := 379) d_Law_law_378 rfl ?_
  refine G.sld (pc' := 380) d_Law_law_379 rfl ?_
  refine G.callVi (As := [vi t4, vi t3, vi t2, vi t1, vi t0, vi (xs (ix (l3 + 6)))]) (n := 6) (i := 31) (ci := 8) (st := [vi t5]) (t_Mod_user t4 t3 t2 t1 t0 (xs (ix (l3 + 6))) s _) (pc' := 383) d_Law_law_380 rfl lm_Law_32 mk_Mod_user mv_Mod_user ⟨rfl, rfl⟩ ⟨by decide, by decide⟩ (HX_31 _ _) rfl rfl rfl rfl hc rfl (fun v1 s1 => ?_)
  refine G.icmp_eq (pc' := 386) (tgt := 771) d_Law_law_383 rfl (by decide) ?_ ?_
  · refine G.iinc (w := 7) (v := l3 + 7) (ρ' := [some (vs), some (vr 0), some (vr 31), some (vi (l3 + 7))]) (pc' := 774) d_Law_law_771 rfl rfl (by decide) kI_7 rfl rfl ?_
    refine G.goto (tgt := 18) d_Law_law_774 (by decide) ?_
    exact hrec18 (l3 + 7) s1
  · refine G.iconst (v := 0) (pc' := 387) d_Law_law_386 rfl kI_0 ?_
    exact G.zretK (by decide) d_Law_law_387 rfl hc
theorem t_Law_law_361 {R : List AC} {L0 : Nat} {xs : Nat → Int32} {cu su : Nat} (hc : cu ≤ (mR q_Law_law).cells ∧ su ≤ (mR q_Law_law).slots) (rec18 : Int32 → Sg → Ro) (l3 : Int32) (t0 t1 t2 t3 t4 : Int32) (hrec18 : ∀ (l3 : Int32) (s : Sg), Gd q_Law_law (some (L0, xs)) 18 [some (vs), some (vr 0), some (vr 31), some (vi l3)] [] s R cu su (rec18 l3 s)) (s : Sg) : Gd q_Law_law (some (L0, xs)) 361 [some (vs), some (vr 0), some (vr 31), some (vi l3)] [vi t0, vi t1, vi t2, vi t3, vr 31, vi t4] s R cu su (f_Law_law_361 L0 xs rec18 l3 t0 t1 t2 t3 t4 s) := by
  unfold f_Law_law_361
  refine G.aloadS_n (pc' := 362) d_Law_law_361 rfl rfl ?_
  refine G.iload_n (pc' := 363) d_Law_law_362 rfl rfl ?_
  refine G.iconst (v := 5) (pc' := 364) d_Law_law_363 rfl kI_5 ?_
  refine G.iadd (pc' := 365) d_Law_law_364 rfl ?_
  refine G.sld (pc' := 366) d_Law_law_365 rfl ?_
  refine G.bz (p1 := 369) (p2 := 370) (p3 := 373) (p4 := 374) d_Law_law_366 rfl (by decide) d_Law_law_369 rfl d_Law_law_370 (by decide) d_Law_law_373 rfl ?_
  exact t_Law_law_374 hc rec18 l3 (nz (xs (ix (l3 + 5)))) t0 t1 t2 t3 t4 hrec18 s
theorem t_Law_law_348 {R : List AC} {L0 : Nat} {xs : Nat → Int32} {cu su : Nat} (hc : cu ≤ (mR q_Law_law).cells ∧ su ≤ (mR q_Law_law).slots) (rec18 : Int32 → Sg → Ro) (l3 : Int32) (t0 t1 t2 t3 : Int32) (hrec18 : ∀ (l3 : Int32) (s : Sg), Gd q_Law_law (some (L0, xs)) 18 [some (vs), some (vr 0), some (vr 31), some (vi l3)] [] s R cu su (rec18 l3 s)) (s : Sg) : Gd q_Law_law (some (L0, xs)) 348 [some (vs), some (vr 0), some (vr 31), some (vi l3)] [vi t0, vi t1, vi t2, vr 31, vi t3] s R cu su (f_Law_law_348 L0 xs rec18 l3 t0 t1 t2 t3 s) := by
  unfold f_Law_law_348
  refine G.aloadS_n (pc' := 349) d_Law_law_348 rfl rfl ?_
  refine G.iload_n (pc' := 350) d_Law_law_349 rfl rfl ?_
  refine G.iconst (v := 4) (pc' := 351) d_Law_law_350 rfl kI_4 ?_
  refine G.iadd (pc' := 352) d_Law_law_351 rfl ?_
  refine G.sld (pc' := 353) d_Law_law_352 rfl ?_
  refine G.bz (p1 := 356) (p2 := 357) (p3 := 360) (p4 := 361) d_Law_law_353 rfl (by decide) d_Law_law_356 rfl d_Law_law_357 (by decide) d_Law_law_360 rfl ?_
  exact t_Law_law_361 hc rec18 l3 (nz (xs (ix (l3 + 4)))) t0 t1 t2 t3 hrec18 s
theorem t_Law_law_315 {R : List AC} {L0 : Nat} {xs : Nat → Int32} {cu su : Nat} (hc : cu ≤ (mR q_Law_law).cells ∧ su ≤ (mR q_Law_law).slots) (rec18 : Int32 → Sg → Ro) (l3 : Int32) (t0 t1 t2 t3 t4 : Int32) (hrec18 : ∀ (l3 : Int32) (s : Sg), Gd q_Law_law (some (L0, xs)) 18 [some (vs), some (vr 0), some (vr 31), some (vi l3)] [] s R cu su (rec18 l3 s)) (s : Sg) : Gd q_Law_law (some (L0, xs)) 315 [some (vs), some (vr 0), some (vr 31), some (vi l3)] [vi t0, vi t1, vi t2, vi t3, vi t4, vr 0] s R cu su (f_Law_law_315 L0 xs rec18 l3 t0 t1 t2 t3 t4 s) := by
  unfold f_Law_law_315
  refine G.aloadS_n (pc' := 316) d_Law_law_315 rfl rfl ?_
  refine G.iload_n (pc' := 317) d_Law_law_316 rfl rfl ?_
  refine G.bipush (v := 6) (pc' := 319) d_Law_law_317 rfl kB_6 ?_
  refine G.iadd (pc' := 320) d_Law_law_319 rfl ?_
  refine G.sld (pc' := 321) d_Law_law_320 rfl ?_
  refine G.callVi (As := [vi t4, vi t3, vi t2, vi t1, vi t0, vi (xs (ix (l3 + 6)))]) (n := 6) (i := 0) (ci := 0) (st := []) (t_FU_user t4 t3 t2 t1 t0 (xs (ix (l3 + 6))) s _) (pc' := 324) d_Law_law_321 rfl lm_Law_28 mk_FU_user mv_FU_user ⟨rfl, rfl⟩ ⟨by decide, by decide⟩ (HX_0 _ _) rfl rfl rfl rfl hc rfl (fun v1 s1 => ?_)
  refine G.aload_n (pc' := 325) d_Law_law_324 rfl rfl ?_
  refine G.aloadS_n (pc' := 326) d_Law_law_325 rfl rfl ?_
  refine G.iload_n (pc' := 327) d_Law_law_326 rfl rfl ?_
  refine G.iconst (v := 1) (pc' := 328) d_Law_law_327 rfl kI_1 ?_
  refine G.iadd (pc' := 329) d_Law_law_328 rfl ?_
  refine G.sld (pc' := 330) d_Law_law_329 rfl ?_
  refine G.aloadS_n (pc' := 331) d_Law_law_330 rfl rfl ?_
  refine G.iload_n (pc' := 332) d_Law_law_331 rfl rfl ?_
  refine G.iconst (v := 2) (pc' := 333) d_Law_law_332 rfl kI_2 ?_
  refine G.iadd (pc' := 334) d_Law_law_333 rfl ?_
  refine G.sld (pc' := 335) d_Law_law_334 rfl ?_
  refine G.aloadS_n (pc' := 336) d_Law_law_335 rfl rfl ?_
  refine G.iload_n (pc' := 337) d_Law_law_336 rfl rfl ?_
  refine G.iconst (v := 3) (pc' := 338) d_Law_law_337 rfl kI_3 ?_
  refine G.iadd (pc' := 339) d_Law_law_338 rfl ?_
  refine G.sld (pc' := 340) d_Law_law_339 rfl ?_
  refine G.bz (p1 := 343) (p2 := 344) (p3 := 347) (p4 := 348) d_Law_law_340 rfl (by decide) d_Law_law_343 rfl d_Law_law_344 (by decide) d_Law_law_347 rfl ?_
  exact t_Law_law_348 hc rec18 l3 (nz (xs (ix (l3 + 3)))) (xs (ix (l3 + 2))) (xs (ix (l3 + 1))) v1 hrec18 s1
theorem t_Law_law_302 {R : List AC} {L0 : Nat} {xs : Nat → Int32} {cu su : Nat} (hc : cu ≤ (mR q_Law_law).cells ∧ su ≤ (mR q_Law_law).slots) (rec18 : Int32 → Sg → Ro) (l3 : Int32) (t0 t1 t2 t3 : Int32) (hrec18 : ∀ (l3 : Int32) (s : Sg), Gd q_Law_law (some (L0, xs)) 18 [some (vs), some (vr 0), some (vr 31), some (vi l3)] [] s R cu su (rec18 l3 s)) (s : Sg) : Gd q_Law_law (some (L0, xs)) 302 [some (vs), some (vr 0), some (vr 31), some (vi l3)] [vi t0, vi t1, vi t2, vi t3, vr 0] s R cu su (f_Law_law_302 L0 xs rec18 l3 t0 t1 t2 t3 s) := by
  unfold f_Law_law_302
  refine G.aloadS_n (pc' := 303) d_Law_law_302 rfl rfl ?_
  refine G.iload_n (pc' := 304) d_Law_law_303 rfl rfl ?_
  refine G.iconst (v := 5) (pc' := 305) d_Law_law_304 rfl kI_5 ?_
  refine G.iadd (pc' := 306) d_Law_law_305 rfl ?_
  refine G.sld (pc' := 307) d_Law_law_306 rfl ?_
  refine G.bz (p1 := 310) (p2 := 311) (p3 := 314) (p4 := 315) d_Law_law_307 rfl (by decide) d_Law_law_310 rfl d_Law_law_311 (by decide) d_Law_law_314 rfl ?_
  exact t_Law_law_315 hc rec18 l3 (nz (xs (ix (l3 + 5)))) t0 t1 t2 t3 hrec18 s
theorem t_Law_law_289 {R : List AC} {L0 : Nat} {xs : Nat → Int32} {cu su : Nat} (hc : cu ≤ (mR q_Law_law).cells ∧ su ≤ (mR q_Law_law).slots) (rec18 : Int32 → Sg → Ro) (l3 : Int32) (t0 t1 t2 : Int32) (hrec18 : ∀ (l3 : Int32) (s : Sg), Gd q_Law_law (some (L0, xs)) 18 [some (vs), some (vr 0), some (vr 31), some (vi l3)] [] s R cu su (rec18 l3 s)) (s : Sg) : Gd q_Law_law (some (L0, xs)) 289 [some (vs), some (vr 0), some (vr 31), some (vi l3)] [vi t0, vi t1, vi t2, vr 0] s R cu su (f_Law_law_289 L0 xs rec18 l3 t0 t1 t2 s) := by
  unfold f_Law_law_289
  refine G.aloadS_n (pc' := 290) d_Law_law_289 rfl rfl ?_
  refine G.iload_n (pc' := 291) d_Law_law_290 rfl rfl ?_
  refine G.iconst (v := 4) (pc' := 292) d_Law_law_291 rfl kI_4 ?_
  refine G.iadd (pc' := 293) d_Law_law_292 rfl ?_
  refine G.sld (pc' := 294) d_Law_law_293 rfl ?_
  refine G.bz (p1 := 297) (p2 := 298) (p3 := 301) (p4 := 302) d_Law_law_294 rfl (by decide) d_Law_law_297 rfl d_Law_law_298 (by decide) d_Law_law_301 rfl ?_
  exact t_Law_law_302 hc rec18 l3 (nz (xs (ix (l3 + 4)))) t0 t1 t2 hrec18 s
theorem t_Law_law_18 {R : List AC} {L0 : Nat} {xs : Nat → Int32} {cu su : Nat} (hc : cu ≤ (mR q_Law_law).cells ∧ su ≤ (mR q_Law_law).slots)  : ∀ (l3 : Int32) (s : Sg), Gd q_Law_law (some (L0, xs)) 18 [some (vs), some (vr 0), some (vr 31), some (vi l3)] [] s R cu su (f_Law_law_18 L0 xs l3 s) := by
  intro l3 s
  unfold f_Law_law_18
  refine G.loop1 (rf := fun l3 => [some (vs), some (vr 0), some (vr 31), some (vi l3)]) ?_ 4096 l3 s
  intro rec18 hrec18 l3 s
  refine G.iload_n (pc' := 19) d_Law_law_18 rfl rfl ?_
  refine G.aloadS_n (pc' := 20) d_Law_law_19 rfl rfl ?_
  refine G.slen (pc' := 21) d_Law_law_20 rfl ?_
  refine G.bipush (v := 7) (pc' := 23) d_Law_law_21 rfl kB_7 ?_
  refine G.isub (pc' := 24) d_Law_law_23 rfl ?_
  refine G.icmp_gt (pc' := 27) (tgt := 777) d_Law_law_24 rfl (by decide) ?_ ?_
  · refine G.iconst (v := 1) (pc' := 778) d_Law_law_777 rfl kI_1 ?_
    exact G.zretK (by decide) d_Law_law_778 rfl hc
  · refine G.aloadS_n (pc' := 28) d_Law_law_27 rfl rfl ?_
    refine G.iload_n (pc' := 29) d_Law_law_28 rfl rfl ?_
    refine G.sld (pc' := 30) d_Law_law_29 rfl ?_
    refine G.bipush (v := 15) (pc' := 32) d_Law_law_30 rfl kB_15 ?_
    refine G.iand (pc' := 33) d_Law_law_32 rfl ?_
    refine G.ite (fun gs => ?_) (fun gs0 => ?_)
    · refine G.tabIn (off := 75) (tgt := 108) d_Law_law_33 gs (by decide) (by decide +kernel) (by decide) ?_
      refine G.aload_n (pc' := 109) d_Law_law_108 rfl rfl ?_
      refine G.aloadS_n (pc' := 110) d_Law_law_109 rfl rfl ?_
      refine G.iload_n (pc' := 111) d_Law_law_110 rfl rfl ?_
      refine G.iconst (v := 1) (pc' := 112) d_Law_law_111 rfl kI_1 ?_
      refine G.iadd (pc' := 113) d_Law_law_112 rfl ?_
      refine G.sld (pc' := 114) d_Law_law_113 rfl ?_
      refine G.bz (p1 := 117) (p2 := 118) (p3 := 121) (p4 := 122) d_Law_law_114 rfl (by decide) d_Law_law_117 rfl d_Law_law_118 (by decide) d_Law_law_121 rfl ?_
      exact t_Law_law_122 hc rec18 l3 (nz (xs (ix (l3 + 1)))) hrec18 s
    refine G.ite (fun gs => ?_) (fun gs1 => ?_)
    · refine G.tabIn (off := 114) (tgt := 147) d_Law_law_33 gs (by decide) (by decide +kernel) (by decide) ?_
      refine G.aload_n (pc' := 148) d_Law_law_147 rfl rfl ?_
      refine G.aloadS_n (pc' := 149) d_Law_law_148 rfl rfl ?_
      refine G.iload_n (pc' := 150) d_Law_law_149 rfl rfl ?_
      refine G.iconst (v := 1) (pc' := 151) d_Law_law_150 rfl kI_1 ?_
      refine G.iadd (pc' := 152) d_Law_law_151 rfl ?_
      refine G.sld (pc' := 153) d_Law_law_152 rfl ?_
      refine G.aloadS_n (pc' := 154) d_Law_law_153 rfl rfl ?_
      refine G.iload_n (pc' := 155) d_Law_law_154 rfl rfl ?_
      refine G.iconst (v := 2) (pc' := 156) d_Law_law_155 rfl kI_2 ?_
      refine G.iadd (pc' := 157) d_Law_law_156 rfl ?_
      refine G.sld (pc' := 158) d_Law_law_157 rfl ?_
      refine G.aloadS_n (pc' := 159) d_Law_law_158 rfl rfl ?_
      refine G.iload_n (pc' := 160) d_Law_law_159 rfl rfl ?_
      refine G.iconst (v := 3) (pc' := 161) d_Law_law_160 rfl kI_3 ?_
      refine G.iadd (pc' := 162) d_Law_law_161 rfl ?_
      refine G.sld (pc' := 163) d_Law_law_162 rfl ?_
      refine G.bz (p1 := 166) (p2 := 167) (p3 := 170) (p4 := 171) d_Law_law_163 rfl (by decide) d_Law_law_166 rfl d_Law_law_167 (by decide) d_Law_law_170 rfl ?_
      exact t_Law_law_171 hc rec18 l3 (nz (xs (ix (l3 + 3)))) (xs (ix (l3 + 2))) (xs (ix (l3 + 1))) hrec18 s
    refine G.ite (fun gs => ?_) (fun gs2 => ?_)
    · refine G.tabIn (off := 183) (tgt := 216) d_Law_law_33 gs (by decide) (by decide +kernel) (by decide) ?_
      refine G.aload_n (pc' := 217) d_Law_law_216 rfl rfl ?_
      refine G.aloadS_n (pc' := 218) d_Law_law_217 rfl rfl ?_
      refine G.iload_n (pc' := 219) d_Law_law_218 rfl rfl ?_
      refine G.iconst (v := 1) (pc' := 220) d_Law_law_219 rfl kI_1 ?_
      refine G.iadd (pc' := 221) d_Law_law_220 rfl ?_
      refine G.sld (pc' := 222) d_Law_law_221 rfl ?_
      refine G.aloadS_n (pc' := 223) d_Law_law_222 rfl rfl ?_
      refine G.iload_n (pc' := 224) d_Law_law_223 rfl rfl ?_
      refine G.iconst (v := 2) (pc' := 225) d_Law_law_224 rfl kI_2 ?_
      refine G.iadd (pc' := 226) d_Law_law_225 rfl ?_
      refine G.sld (pc' := 227) d_Law_law_226 rfl ?_
      refine G.bz (p1 := 230) (p2 := 231) (p3 := 234) (p4 := 235) d_Law_law_227 rfl (by decide) d_Law_law_230 rfl d_Law_law_231 (by decide) d_Law_law_234 rfl ?_
      exact t_Law_law_235 hc rec18 l3 (nz (xs (ix (l3 + 2)))) (xs (ix (l3 + 1))) hrec18 s
    refine G.ite (fun gs => ?_) (fun gs3 => ?_)
    · refine G.tabIn (off := 232) (tgt := 265) d_Law_law_33 gs (by decide) (by decide +kernel) (by decide) ?_
      refine G.aload_n (pc' := 266) d_Law_law_265 rfl rfl ?_
      refine G.aloadS_n (pc' := 267) d_Law_law_266 rfl rfl ?_
      refine G.iload_n (pc' := 268) d_Law_law_267 rfl rfl ?_
      refine G.iconst (v := 1) (pc' := 269) d_Law_law_268 rfl kI_1 ?_
      refine G.iadd (pc' := 270) d_Law_law_269 rfl ?_
      refine G.sld (pc' := 271) d_Law_law_270 rfl ?_
      refine G.aloadS_n (pc' := 272) d_Law_law_271 rfl rfl ?_
      refine G.iload_n (pc' := 273) d_Law_law_272 rfl rfl ?_
      refine G.iconst (v := 2) (pc' := 274) d_Law_law_273 rfl kI_2 ?_
      refine G.iadd (pc' := 275) d_Law_law_274 rfl ?_
      refine G.sld (pc' := 276) d_Law_law_275 rfl ?_
      refine G.aloadS_n (pc' := 277) d_Law_law_276 rfl rfl ?_
      refine G.iload_n (pc' := 278) d_Law_law_277 rfl rfl ?_
      refine G.iconst (v := 3) (pc' := 279) d_Law_law_278 rfl kI_3 ?_
      refine G.iadd (pc' := 280) d_Law_law_279 rfl ?_
      refine G.sld (pc' := 281) d_Law_law_280 rfl ?_
      refine G.bz (p1 := 284) (p2 := 285) (p3 := 288) (p4 := 289) d_Law_law_281 rfl (by decide) d_Law_law_284 rfl d_Law_law_285 (by decide) d_Law_law_288 rfl ?_
      exact t_Law_law_289 hc rec18 l3 (nz (xs (ix (l3 + 3)))) (xs (ix (l3 + 2))) (xs (ix (l3 + 1))) hrec18 s
    refine G.ite (fun gs => ?_) (fun gs4 => ?_)
    · refine G.tabIn (off := 355) (tgt := 388) d_Law_law_33 gs (by decide) (by decide +kernel) (by decide) ?_
      refine G.aload_n (pc' := 389) d_Law_law_388 rfl rfl ?_
      refine G.aloadS_n (pc' := 390) d_Law_law_389 rfl rfl ?_
      refine G.iload_n (pc' := 391) d_Law_law_390 rfl rfl ?_
      refine G.iconst (v := 1) (pc' := 392) d_Law_law_391 rfl kI_1 ?_
      refine G.iadd (pc' := 393) d_Law_law_392 rfl ?_
      refine G.sld (pc' := 394) d_Law_law_393 rfl ?_
      refine G.aloadS_n (pc' := 395) d_Law_law_394 rfl rfl ?_
      refine G.iload_n (pc' := 396) d_Law_law_395 rfl rfl ?_
      refine G.iconst (v := 2) (pc' := 397) d_Law_law_396 rfl kI_2 ?_
      refine G.iadd (pc' := 398) d_Law_law_397 rfl ?_
      refine G.sld (pc' := 399) d_Law_law_398 rfl ?_
      refine G.callVi (As := [vi (xs (ix (l3 + 1))), vi (xs (ix (l3 + 2)))]) (n := 2) (i := 0) (ci := 0) (st := []) (t_FU_asks (xs (ix (l3 + 1))) (xs (ix (l3 + 2))) s _) (pc' := 402) d_Law_law_399 rfl lm_Law_33 mk_FU_asks mv_FU_asks ⟨rfl, rfl⟩ ⟨by decide, by decide⟩ (HX_0 _ _) rfl rfl rfl rfl hc rfl (fun v1 s1 => ?_)
      refine G.aload_n (pc' := 403) d_Law_law_402 rfl rfl ?_
      refine G.aloadS_n (pc' := 404) d_Law_law_403 rfl rfl ?_
      refine G.iload_n (pc' := 405) d_Law_law_404 rfl rfl ?_
      refine G.iconst (v := 1) (pc' := 406) d_Law_law_405 rfl kI_1 ?_
      refine G.iadd (pc' := 407) d_Law_law_406 rfl ?_
      refine G.sld (pc' := 408) d_Law_law_407 rfl ?_
      refine G.aloadS_n (pc' := 409) d_Law_law_408 rfl rfl ?_
      refine G.iload_n (pc' := 410) d_Law_law_409 rfl rfl ?_
      refine G.iconst (v := 2) (pc' := 411) d_Law_law_410 rfl kI_2 ?_
      refine G.iadd (pc' := 412) d_Law_law_411 rfl ?_
      refine G.sld (pc' := 413) d_Law_law_412 rfl ?_
      refine G.callVi (As := [vi (xs (ix (l3 + 1))), vi (xs (ix (l3 + 2)))]) (n := 2) (i := 31) (ci := 8) (st := [vi v1]) (t_Mod_asks (xs (ix (l3 + 1))) (xs (ix (l3 + 2))) s1 _) (pc' := 416) d_Law_law_413 rfl lm_Law_37 mk_Mod_asks mv_Mod_asks ⟨rfl, rfl⟩ ⟨by decide, by decide⟩ (HX_31 _ _) rfl rfl rfl rfl hc rfl (fun v2 s2 => ?_)
      refine G.icmp_eq (pc' := 419) (tgt := 771) d_Law_law_416 rfl (by decide) ?_ ?_
      · refine G.iinc (w := 7) (v := l3 + 7) (ρ' := [some (vs), some (vr 0), some (vr 31), some (vi (l3 + 7))]) (pc' := 774) d_Law_law_771 rfl rfl (by decide) kI_7 rfl rfl ?_
        refine G.goto (tgt := 18) d_Law_law_774 (by decide) ?_
        exact hrec18 (l3 + 7) s2
      · refine G.iconst (v := 0) (pc' := 420) d_Law_law_419 rfl kI_0 ?_
        exact G.zretK (by decide) d_Law_law_420 rfl hc
    refine G.ite (fun gs => ?_) (fun gs5 => ?_)
    · refine G.tabIn (off := 388) (tgt := 421) d_Law_law_33 gs (by decide) (by decide +kernel) (by decide) ?_
      refine G.aload_n (pc' := 422) d_Law_law_421 rfl rfl ?_
      refine G.aloadS_n (pc' := 423) d_Law_law_422 rfl rfl ?_
      refine G.iload_n (pc' := 424) d_Law_law_423 rfl rfl ?_
      refine G.iconst (v := 1) (pc' := 425) d_Law_law_424 rfl kI_1 ?_
      refine G.iadd (pc' := 426) d_Law_law_425 rfl ?_
      refine G.sld (pc' := 427) d_Law_law_426 rfl ?_
      refine G.aloadS_n (pc' := 428) d_Law_law_427 rfl rfl ?_
      refine G.iload_n (pc' := 429) d_Law_law_428 rfl rfl ?_
      refine G.iconst (v := 2) (pc' := 430) d_Law_law_429 rfl kI_2 ?_
      refine G.iadd (pc' := 431) d_Law_law_430 rfl ?_
      refine G.sld (pc' := 432) d_Law_law_431 rfl ?_
      refine G.aloadS_n (pc' := 433) d_Law_law_432 rfl rfl ?_
      refine G.iload_n (pc' := 434) d_Law_law_433 rfl rfl ?_
      refine G.iconst (v := 3) (pc' := 435) d_Law_law_434 rfl kI_3 ?_
      refine G.iadd (pc' := 436) d_Law_law_435 rfl ?_
      refine G.sld (pc' := 437) d_Law_law_436 rfl ?_
      refine G.aloadS_n (pc' := 438) d_Law_law_437 rfl rfl ?_
      refine G.iload_n (pc' := 439) d_Law_law_438 rfl rfl ?_
      refine G.iconst (v := 4) (pc' := 440) d_Law_law_439 rfl kI_4 ?_
      refine G.iadd (pc' := 441) d_Law_law_440 rfl ?_
      refine G.sld (pc' := 442) d_Law_law_441 rfl ?_
      refine G.callVi (As := [vi (xs (ix (l3 + 1))), vi (xs (ix (l3 + 2))), vi (xs (ix (l3 + 3))), vi (xs (ix (l3 + 4)))]) (n := 4) (i := 0) (ci := 0) (st := []) (t_FU_turn (xs (ix (l3 + 1))) (xs (ix (l3 + 2))) (xs (ix (l3 + 3))) (xs (ix (l3 + 4))) s _) (pc' := 445) d_Law_law_442 rfl lm_Law_38 mk_FU_turn mv_FU_turn ⟨rfl, rfl⟩ ⟨by decide, by decide⟩ (HX_0 _ _) rfl rfl rfl rfl hc rfl (fun v3 s3 => ?_)
      refine G.aload_n (pc' := 446) d_Law_law_445 rfl rfl ?_
      refine G.aloadS_n (pc' := 447) d_Law_law_446 rfl rfl ?_
      refine G.iload_n (pc' := 448) d_Law_law_447 rfl rfl ?_
      refine G.iconst (v := 1) (pc' := 449) d_Law_law_448 rfl kI_1 ?_
      refine G.iadd (pc' := 450) d_Law_law_449 rfl ?_
      refine G.sld (pc' := 451) d_Law_law_450 rfl ?_
      refine G.aloadS_n (pc' := 452) d_Law_law_451 rfl rfl ?_
      refine G.iload_n (pc' := 453) d_Law_law_452 rfl rfl ?_
      refine G.iconst (v := 2) (pc' := 454) d_Law_law_453 rfl kI_2 ?_
      refine G.iadd (pc' := 455) d_Law_law_454 rfl ?_
      refine G.sld (pc' := 456) d_Law_law_455 rfl ?_
      refine G.aloadS_n (pc' := 457) d_Law_law_456 rfl rfl ?_
      refine G.iload_n (pc' := 458) d_Law_law_457 rfl rfl ?_
      refine G.iconst (v := 3) (pc' := 459) d_Law_law_458 rfl kI_3 ?_
      refine G.iadd (pc' := 460) d_Law_law_459 rfl ?_
      refine G.sld (pc' := 461) d_Law_law_460 rfl ?_
      refine G.aloadS_n (pc' := 462) d_Law_law_461 rfl rfl ?_
      refine G.iload_n (pc' := 463) d_Law_law_462 rfl rfl ?_
      refine G.iconst (v := 4) (pc' := 464) d_Law_law_463 rfl kI_4 ?_
      refine G.iadd (pc' := 465) d_Law_law_464 rfl ?_
      refine G.sld (pc' := 466) d_Law_law_465 rfl ?_
      refine G.callVi (As := [vi (xs (ix (l3 + 1))), vi (xs (ix (l3 + 2))), vi (xs (ix (l3 + 3))), vi (xs (ix (l3 + 4)))]) (n := 4) (i := 31) (ci := 8) (st := [vi v3]) (t_Mod_turn (xs (ix (l3 + 1))) (xs (ix (l3 + 2))) (xs (ix (l3 + 3))) (xs (ix (l3 + 4))) s3 _) (pc' := 469) d_Law_law_466 rfl lm_Law_42 mk_Mod_turn mv_Mod_turn ⟨rfl, rfl⟩ ⟨by decide, by decide⟩ (HX_31 _ _) rfl rfl rfl rfl hc rfl (fun v4 s4 => ?_)
      refine G.icmp_eq (pc' := 472) (tgt := 771) d_Law_law_469 rfl (by decide) ?_ ?_
      · refine G.iinc (w := 7) (v := l3 + 7) (ρ' := [some (vs), some (vr 0), some (vr 31), some (vi (l3 + 7))]) (pc' := 774) d_Law_law_771 rfl rfl (by decide) kI_7 rfl rfl ?_
        refine G.goto (tgt := 18) d_Law_law_774 (by decide) ?_
        exact hrec18 (l3 + 7) s4
      · refine G.iconst (v := 0) (pc' := 473) d_Law_law_472 rfl kI_0 ?_
        exact G.zretK (by decide) d_Law_law_473 rfl hc
    refine G.ite (fun gs => ?_) (fun gs6 => ?_)
    · refine G.tabIn (off := 441) (tgt := 474) d_Law_law_33 gs (by decide) (by decide +kernel) (by decide) ?_
      refine G.aload_n (pc' := 475) d_Law_law_474 rfl rfl ?_
      refine G.aloadS_n (pc' := 476) d_Law_law_475 rfl rfl ?_
      refine G.iload_n (pc' := 477) d_Law_law_476 rfl rfl ?_
      refine G.iconst (v := 1) (pc' := 478) d_Law_law_477 rfl kI_1 ?_
      refine G.iadd (pc' := 479) d_Law_law_478 rfl ?_
      refine G.sld (pc' := 480) d_Law_law_479 rfl ?_
      refine G.callVi (As := [vi (xs (ix (l3 + 1)))]) (n := 1) (i := 0) (ci := 0) (st := []) (t_FU_run (xs (ix (l3 + 1))) s _) (pc' := 483) d_Law_law_480 rfl lm_Law_43 mk_FU_run mv_FU_run ⟨rfl, rfl⟩ ⟨by decide, by decide⟩ (HX_0 _ _) rfl rfl rfl rfl hc rfl (fun v5 s5 => ?_)
      refine G.aload_n (pc' := 484) d_Law_law_483 rfl rfl ?_
      refine G.aloadS_n (pc' := 485) d_Law_law_484 rfl rfl ?_
      refine G.iload_n (pc' := 486) d_Law_law_485 rfl rfl ?_
      refine G.iconst (v := 1) (pc' := 487) d_Law_law_486 rfl kI_1 ?_
      refine G.iadd (pc' := 488) d_Law_law_487 rfl ?_
      refine G.sld (pc' := 489) d_Law_law_488 rfl ?_
      refine G.callVi (As := [vi (xs (ix (l3 + 1)))]) (n := 1) (i := 31) (ci := 8) (st := [vi v5]) (t_Mod_run (xs (ix (l3 + 1))) s5 _) (pc' := 492) d_Law_law_489 rfl lm_Law_47 mk_Mod_run mv_Mod_run ⟨rfl, rfl⟩ ⟨by decide, by decide⟩ (HX_31 _ _) rfl rfl rfl rfl hc rfl (fun v6 s6 => ?_)
      refine G.icmp_eq (pc' := 495) (tgt := 771) d_Law_law_492 rfl (by decide) ?_ ?_
      · refine G.iinc (w := 7) (v := l3 + 7) (ρ' := [some (vs), some (vr 0), some (vr 31), some (vi (l3 + 7))]) (pc' := 774) d_Law_law_771 rfl rfl (by decide) kI_7 rfl rfl ?_
        refine G.goto (tgt := 18) d_Law_law_774 (by decide) ?_
        exact hrec18 (l3 + 7) s6
      · refine G.iconst (v := 0) (pc' := 496) d_Law_law_495 rfl kI_0 ?_
        exact G.zretK (by decide) d_Law_law_496 rfl hc
    refine G.ite (fun gs => ?_) (fun gs7 => ?_)
    · refine G.tabIn (off := 464) (tgt := 497) d_Law_law_33 gs (by decide) (by decide +kernel) (by decide) ?_
      refine G.aload_n (pc' := 498) d_Law_law_497 rfl rfl ?_
      refine G.aloadS_n (pc' := 499) d_Law_law_498 rfl rfl ?_
      refine G.iload_n (pc' := 500) d_Law_law_499 rfl rfl ?_
      refine G.iconst (v := 1) (pc' := 501) d_Law_law_500 rfl kI_1 ?_
      refine G.iadd (pc' := 502) d_Law_law_501 rfl ?_
      refine G.sld (pc' := 503) d_Law_law_502 rfl ?_
      refine G.aloadS_n (pc' := 504) d_Law_law_503 rfl rfl ?_
      refine G.iload_n (pc' := 505) d_Law_law_504 rfl rfl ?_
      refine G.iconst (v := 2) (pc' := 506) d_Law_law_505 rfl kI_2 ?_
      refine G.iadd (pc' := 507) d_Law_law_506 rfl ?_
      refine G.sld (pc' := 508) d_Law_law_507 rfl ?_
      refine G.callVi (As := [vi (xs (ix (l3 + 1))), vi (xs (ix (l3 + 2)))]) (n := 2) (i := 0) (ci := 0) (st := []) (t_FU_there (xs (ix (l3 + 1))) (xs (ix (l3 + 2))) s _) (pc' := 511) d_Law_law_508 rfl lm_Law_48 mk_FU_there mv_FU_there ⟨rfl, rfl⟩ ⟨by decide, by decide⟩ (HX_0 _ _) rfl rfl rfl rfl hc rfl (fun v7 s7 => ?_)
      refine G.aload_n (pc' := 512) d_Law_law_511 rfl rfl ?_
      refine G.aloadS_n (pc' := 513) d_Law_law_512 rfl rfl ?_
      refine G.iload_n (pc' := 514) d_Law_law_513 rfl rfl ?_
      refine G.iconst (v := 1) (pc' := 515) d_Law_law_514 rfl kI_1 ?_
      refine G.iadd (pc' := 516) d_Law_law_515 rfl ?_
      refine G.sld (pc' := 517) d_Law_law_516 rfl ?_
      refine G.aloadS_n (pc' := 518) d_Law_law_517 rfl rfl ?_
      refine G.iload_n (pc' := 519) d_Law_law_518 rfl rfl ?_
      refine G.iconst (v := 2) (pc' := 520) d_Law_law_519 rfl kI_2 ?_
      refine G.iadd (pc' := 521) d_Law_law_520 rfl ?_
      refine G.sld (pc' := 522) d_Law_law_521 rfl ?_
      refine G.callVi (As := [vi (xs (ix (l3 + 1))), vi (xs (ix (l3 + 2)))]) (n := 2) (i := 31) (ci := 8) (st := [vi v7]) (t_Mod_there (xs (ix (l3 + 1))) (xs (ix (l3 + 2))) s7 _) (pc' := 525) d_Law_law_522 rfl lm_Law_51 mk_Mod_there mv_Mod_there ⟨rfl, rfl⟩ ⟨by decide, by decide⟩ (HX_31 _ _) rfl rfl rfl rfl hc rfl (fun v8 s8 => ?_)
      refine G.icmp_eq (pc' := 528) (tgt := 771) d_Law_law_525 rfl (by decide) ?_ ?_
      · refine G.iinc (w := 7) (v := l3 + 7) (ρ' := [some (vs), some (vr 0), some (vr 31), some (vi (l3 + 7))]) (pc' := 774) d_Law_law_771 rfl rfl (by decide) kI_7 rfl rfl ?_
        refine G.goto (tgt := 18) d_Law_law_774 (by decide) ?_
        exact hrec18 (l3 + 7) s8
      · refine G.iconst (v := 0) (pc' := 529) d_Law_law_528 rfl kI_0 ?_
        exact G.zretK (by decide) d_Law_law_529 rfl hc
    refine G.ite (fun gs => ?_) (fun gs8 => ?_)
    · refine G.tabIn (off := 497) (tgt := 530) d_Law_law_33 gs (by decide) (by decide +kernel) (by decide) ?_
      refine G.aload_n (pc' := 531) d_Law_law_530 rfl rfl ?_
      refine G.aloadS_n (pc' := 532) d_Law_law_531 rfl rfl ?_
      refine G.iload_n (pc' := 533) d_Law_law_532 rfl rfl ?_
      refine G.iconst (v := 1) (pc' := 534) d_Law_law_533 rfl kI_1 ?_
      refine G.iadd (pc' := 535) d_Law_law_534 rfl ?_
      refine G.sld (pc' := 536) d_Law_law_535 rfl ?_
      refine G.aloadS_n (pc' := 537) d_Law_law_536 rfl rfl ?_
      refine G.iload_n (pc' := 538) d_Law_law_537 rfl rfl ?_
      refine G.iconst (v := 2) (pc' := 539) d_Law_law_538 rfl kI_2 ?_
      refine G.iadd (pc' := 540) d_Law_law_539 rfl ?_
      refine G.sld (pc' := 541) d_Law_law_540 rfl ?_
      refine G.callVi (As := [vi (xs (ix (l3 + 1))), vi (xs (ix (l3 + 2)))]) (n := 2) (i := 0) (ci := 0) (st := []) (t_FU_live (xs (ix (l3 + 1))) (xs (ix (l3 + 2))) s _) (pc' := 544) d_Law_law_541 rfl lm_Law_52 mk_FU_live mv_FU_live ⟨rfl, rfl⟩ ⟨by decide, by decide⟩ (HX_0 _ _) rfl rfl rfl rfl hc rfl (fun v9 s9 => ?_)
      refine G.aload_n (pc' := 545) d_Law_law_544 rfl rfl ?_
      refine G.aloadS_n (pc' := 546) d_Law_law_545 rfl rfl ?_
      refine G.iload_n (pc' := 547) d_Law_law_546 rfl rfl ?_
      refine G.iconst (v := 1) (pc' := 548) d_Law_law_547 rfl kI_1 ?_
      refine G.iadd (pc' := 549) d_Law_law_548 rfl ?_
      refine G.sld (pc' := 550) d_Law_law_549 rfl ?_
      refine G.aloadS_n (pc' := 551) d_Law_law_550 rfl rfl ?_
      refine G.iload_n (pc' := 552) d_Law_law_551 rfl rfl ?_
      refine G.iconst (v := 2) (pc' := 553) d_Law_law_552 rfl kI_2 ?_
      refine G.iadd (pc' := 554) d_Law_law_553 rfl ?_
      refine G.sld (pc' := 555) d_Law_law_554 rfl ?_
      refine G.callVi (As := [vi (xs (ix (l3 + 1))), vi (xs (ix (l3 + 2)))]) (n := 2) (i := 31) (ci := 8) (st := [vi v9]) (t_Mod_live (xs (ix (l3 + 1))) (xs (ix (l3 + 2))) s9 _) (pc' := 558) d_Law_law_555 rfl lm_Law_55 mk_Mod_live mv_Mod_live ⟨rfl, rfl⟩ ⟨by decide, by decide⟩ (HX_31 _ _) rfl rfl rfl rfl hc rfl (fun v10 s10 => ?_)
      refine G.icmp_eq (pc' := 561) (tgt := 771) d_Law_law_558 rfl (by decide) ?_ ?_
      · refine G.iinc (w := 7) (v := l3 + 7) (ρ' := [some (vs), some (vr 0), some (vr 31), some (vi (l3 + 7))]) (pc' := 774) d_Law_law_771 rfl rfl (by decide) kI_7 rfl rfl ?_
        refine G.goto (tgt := 18) d_Law_law_774 (by decide) ?_
        exact hrec18 (l3 + 7) s10
      · refine G.iconst (v := 0) (pc' := 562) d_Law_law_561 rfl kI_0 ?_
        exact G.zretK (by decide) d_Law_law_562 rfl hc
    refine G.ite (fun gs => ?_) (fun gs9 => ?_)
    · refine G.tabIn (off := 530) (tgt := 563) d_Law_law_33 gs (by decide) (by decide +kernel) (by decide) ?_
      refine G.aload_n (pc' := 564) d_Law_law_563 rfl rfl ?_
      refine G.aloadS_n (pc' := 565) d_Law_law_564 rfl rfl ?_
      refine G.iload_n (pc' := 566) d_Law_law_565 rfl rfl ?_
      refine G.iconst (v := 1) (pc' := 567) d_Law_law_566 rfl kI_1 ?_
      refine G.iadd (pc' := 568) d_Law_law_567 rfl ?_
      refine G.sld (pc' := 569) d_Law_law_568 rfl ?_
      refine G.aloadS_n (pc' := 570) d_Law_law_569 rfl rfl ?_
      refine G.iload_n (pc' := 571) d_Law_law_570 rfl rfl ?_
      refine G.iconst (v := 2) (pc' := 572) d_Law_law_571 rfl kI_2 ?_
      refine G.iadd (pc' := 573) d_Law_law_572 rfl ?_
      refine G.sld (pc' := 574) d_Law_law_573 rfl ?_
      refine G.callVi (As := [vi (xs (ix (l3 + 1))), vi (xs (ix (l3 + 2)))]) (n := 2) (i := 0) (ci := 0) (st := []) (t_FU_on (xs (ix (l3 + 1))) (xs (ix (l3 + 2))) s _) (pc' := 577) d_Law_law_574 rfl lm_Law_56 mk_FU_on mv_FU_on ⟨rfl, rfl⟩ ⟨by decide, by decide⟩ (HX_0 _ _) rfl rfl rfl rfl hc rfl (fun v11 s11 => ?_)
      refine G.aload_n (pc' := 578) d_Law_law_577 rfl rfl ?_
      refine G.aloadS_n (pc' := 579) d_Law_law_578 rfl rfl ?_
      refine G.iload_n (pc' := 580) d_Law_law_579 rfl rfl ?_
      refine G.iconst (v := 1) (pc' := 581) d_Law_law_580 rfl kI_1 ?_
      refine G.iadd (pc' := 582) d_Law_law_581 rfl ?_
      refine G.sld (pc' := 583) d_Law_law_582 rfl ?_
      refine G.aloadS_n (pc' := 584) d_Law_law_583 rfl rfl ?_
      refine G.iload_n (pc' := 585) d_Law_law_584 rfl rfl ?_
      refine G.iconst (v := 2) (pc' := 586) d_Law_law_585 rfl kI_2 ?_
      refine G.iadd (pc' := 587) d_Law_law_586 rfl ?_
      refine G.sld (pc' := 588) d_Law_law_587 rfl ?_
      refine G.callVi (As := [vi (xs (ix (l3 + 1))), vi (xs (ix (l3 + 2)))]) (n := 2) (i := 31) (ci := 8) (st := [vi v11]) (t_Mod_on (xs (ix (l3 + 1))) (xs (ix (l3 + 2))) s11 _) (pc' := 591) d_Law_law_588 rfl lm_Law_59 mk_Mod_on mv_Mod_on ⟨rfl, rfl⟩ ⟨by decide, by decide⟩ (HX_31 _ _) rfl rfl rfl rfl hc rfl (fun v12 s12 => ?_)
      refine G.icmp_eq (pc' := 594) (tgt := 771) d_Law_law_591 rfl (by decide) ?_ ?_
      · refine G.iinc (w := 7) (v := l3 + 7) (ρ' := [some (vs), some (vr 0), some (vr 31), some (vi (l3 + 7))]) (pc' := 774) d_Law_law_771 rfl rfl (by decide) kI_7 rfl rfl ?_
        refine G.goto (tgt := 18) d_Law_law_774 (by decide) ?_
        exact hrec18 (l3 + 7) s12
      · refine G.iconst (v := 0) (pc' := 595) d_Law_law_594 rfl kI_0 ?_
        exact G.zretK (by decide) d_Law_law_595 rfl hc
    refine G.ite (fun gs => ?_) (fun gs10 => ?_)
    · refine G.tabIn (off := 563) (tgt := 596) d_Law_law_33 gs (by decide) (by decide +kernel) (by decide) ?_
      refine G.aload_n (pc' := 597) d_Law_law_596 rfl rfl ?_
      refine G.aloadS_n (pc' := 598) d_Law_law_597 rfl rfl ?_
      refine G.iload_n (pc' := 599) d_Law_law_598 rfl rfl ?_
      refine G.iconst (v := 1) (pc' := 600) d_Law_law_599 rfl kI_1 ?_
      refine G.iadd (pc' := 601) d_Law_law_600 rfl ?_
      refine G.sld (pc' := 602) d_Law_law_601 rfl ?_
      refine G.aloadS_n (pc' := 603) d_Law_law_602 rfl rfl ?_
      refine G.iload_n (pc' := 604) d_Law_law_603 rfl rfl ?_
      refine G.iconst (v := 2) (pc' := 605) d_Law_law_604 rfl kI_2 ?_
      refine G.iadd (pc' := 606) d_Law_law_605 rfl ?_
      refine G.sld (pc' := 607) d_Law_law_606 rfl ?_
      refine G.callVi (As := [vi (xs (ix (l3 + 1))), vi (xs (ix (l3 + 2)))]) (n := 2) (i := 0) (ci := 0) (st := []) (t_FU_reasons (xs (ix (l3 + 1))) (xs (ix (l3 + 2))) s _) (pc' := 610) d_Law_law_607 rfl lm_Law_60 mk_FU_reasons mv_FU_reasons ⟨rfl, rfl⟩ ⟨by decide, by decide⟩ (HX_0 _ _) rfl rfl rfl rfl hc rfl (fun v13 s13 => ?_)
      refine G.aload_n (pc' := 611) d_Law_law_610 rfl rfl ?_
      refine G.aloadS_n (pc' := 612) d_Law_law_611 rfl rfl ?_
      refine G.iload_n (pc' := 613) d_Law_law_612 rfl rfl ?_
      refine G.iconst (v := 1) (pc' := 614) d_Law_law_613 rfl kI_1 ?_
      refine G.iadd (pc' := 615) d_Law_law_614 rfl ?_
      refine G.sld (pc' := 616) d_Law_law_615 rfl ?_
      refine G.aloadS_n (pc' := 617) d_Law_law_616 rfl rfl ?_
      refine G.iload_n (pc' := 618) d_Law_law_617 rfl rfl ?_
      refine G.iconst (v := 2) (pc' := 619) d_Law_law_618 rfl kI_2 ?_
      refine G.iadd (pc' := 620) d_Law_law_619 rfl ?_
      refine G.sld (pc' := 621) d_Law_law_620 rfl ?_
      refine G.callVi (As := [vi (xs (ix (l3 + 1))), vi (xs (ix (l3 + 2)))]) (n := 2) (i := 31) (ci := 8) (st := [vi v13]) (t_Mod_reasons (xs (ix (l3 + 1))) (xs (ix (l3 + 2))) s13 _) (pc' := 624) d_Law_law_621 rfl lm_Law_63 mk_Mod_reasons mv_Mod_reasons ⟨rfl, rfl⟩ ⟨by decide, by decide⟩ (HX_31 _ _) rfl rfl rfl rfl hc rfl (fun v14 s14 => ?_)
      refine G.icmp_eq (pc' := 627) (tgt := 771) d_Law_law_624 rfl (by decide) ?_ ?_
      · refine G.iinc (w := 7) (v := l3 + 7) (ρ' := [some (vs), some (vr 0), some (vr 31), some (vi (l3 + 7))]) (pc' := 774) d_Law_law_771 rfl rfl (by decide) kI_7 rfl rfl ?_
        refine G.goto (tgt := 18) d_Law_law_774 (by decide) ?_
        exact hrec18 (l3 + 7) s14
      · refine G.iconst (v := 0) (pc' := 628) d_Law_law_627 rfl kI_0 ?_
        exact G.zretK (by decide) d_Law_law_628 rfl hc
    refine G.ite (fun gs => ?_) (fun gs11 => ?_)
    · refine G.tabIn (off := 596) (tgt := 629) d_Law_law_33 gs (by decide) (by decide +kernel) (by decide) ?_
      refine G.aload_n (pc' := 630) d_Law_law_629 rfl rfl ?_
      refine G.aloadS_n (pc' := 631) d_Law_law_630 rfl rfl ?_
      refine G.iload_n (pc' := 632) d_Law_law_631 rfl rfl ?_
      refine G.iconst (v := 1) (pc' := 633) d_Law_law_632 rfl kI_1 ?_
      refine G.iadd (pc' := 634) d_Law_law_633 rfl ?_
      refine G.sld (pc' := 635) d_Law_law_634 rfl ?_
      refine G.aloadS_n (pc' := 636) d_Law_law_635 rfl rfl ?_
      refine G.iload_n (pc' := 637) d_Law_law_636 rfl rfl ?_
      refine G.iconst (v := 2) (pc' := 638) d_Law_law_637 rfl kI_2 ?_
      refine G.iadd (pc' := 639) d_Law_law_638 rfl ?_
      refine G.sld (pc' := 640) d_Law_law_639 rfl ?_
      refine G.aloadS_n (pc' := 641) d_Law_law_640 rfl rfl ?_
      refine G.iload_n (pc' := 642) d_Law_law_641 rfl rfl ?_
      refine G.iconst (v := 3) (pc' := 643) d_Law_law_642 rfl kI_3 ?_
      refine G.iadd (pc' := 644) d_Law_law_643 rfl ?_
      refine G.sld (pc' := 645) d_Law_law_644 rfl ?_
      refine G.aloadS_n (pc' := 646) d_Law_law_645 rfl rfl ?_
      refine G.iload_n (pc' := 647) d_Law_law_646 rfl rfl ?_
      refine G.iconst (v := 4) (pc' := 648) d_Law_law_647 rfl kI_4 ?_
      refine G.iadd (pc' := 649) d_Law_law_648 rfl ?_
      refine G.sld (pc' := 650) d_Law_law_649 rfl ?_
      refine G.callVi (As := [vi (xs (ix (l3 + 1))), vi (xs (ix (l3 + 2))), vi (xs (ix (l3 + 3))), vi (xs (ix (l3 + 4)))]) (n := 4) (i := 0) (ci := 0) (st := []) (t_FU_reason (xs (ix (l3 + 1))) (xs (ix (l3 + 2))) (xs (ix (l3 + 3))) (xs (ix (l3 + 4))) s _) (pc' := 653) d_Law_law_650 rfl lm_Law_64 mk_FU_reason mv_FU_reason ⟨rfl, rfl⟩ ⟨by decide, by decide⟩ (HX_0 _ _) rfl rfl rfl rfl hc rfl (fun v15 s15 => ?_)
      refine G.aload_n (pc' := 654) d_Law_law_653 rfl rfl ?_
      refine G.aloadS_n (pc' := 655) d_Law_law_654 rfl rfl ?_
      refine G.iload_n (pc' := 656) d_Law_law_655 rfl rfl ?_
      refine G.iconst (v := 1) (pc' := 657) d_Law_law_656 rfl kI_1 ?_
      refine G.iadd (pc' := 658) d_Law_law_657 rfl ?_
      refine G.sld (pc' := 659) d_Law_law_658 rfl ?_
      refine G.aloadS_n (pc' := 660) d_Law_law_659 rfl rfl ?_
      refine G.iload_n (pc' := 661) d_Law_law_660 rfl rfl ?_
      refine G.iconst (v := 2) (pc' := 662) d_Law_law_661 rfl kI_2 ?_
      refine G.iadd (pc' := 663) d_Law_law_662 rfl ?_
      refine G.sld (pc' := 664) d_Law_law_663 rfl ?_
      refine G.aloadS_n (pc' := 665) d_Law_law_664 rfl rfl ?_
      refine G.iload_n (pc' := 666) d_Law_law_665 rfl rfl ?_
      refine G.iconst (v := 3) (pc' := 667) d_Law_law_666 rfl kI_3 ?_
      refine G.iadd (pc' := 668) d_Law_law_667 rfl ?_
      refine G.sld (pc' := 669) d_Law_law_668 rfl ?_
      refine G.aloadS_n (pc' := 670) d_Law_law_669 rfl rfl ?_
      refine G.iload_n (pc' := 671) d_Law_law_670 rfl rfl ?_
      refine G.iconst (v := 4) (pc' := 672) d_Law_law_671 rfl kI_4 ?_
      refine G.iadd (pc' := 673) d_Law_law_672 rfl ?_
      refine G.sld (pc' := 674) d_Law_law_673 rfl ?_
      refine G.callVi (As := [vi (xs (ix (l3 + 1))), vi (xs (ix (l3 + 2))), vi (xs (ix (l3 + 3))), vi (xs (ix (l3 + 4)))]) (n := 4) (i := 31) (ci := 8) (st := [vi v15]) (t_Mod_reason (xs (ix (l3 + 1))) (xs (ix (l3 + 2))) (xs (ix (l3 + 3))) (xs (ix (l3 + 4))) s15 _) (pc' := 677) d_Law_law_674 rfl lm_Law_67 mk_Mod_reason mv_Mod_reason ⟨rfl, rfl⟩ ⟨by decide, by decide⟩ (HX_31 _ _) rfl rfl rfl rfl hc rfl (fun v16 s16 => ?_)
      refine G.icmp_eq (pc' := 680) (tgt := 771) d_Law_law_677 rfl (by decide) ?_ ?_
      · refine G.iinc (w := 7) (v := l3 + 7) (ρ' := [some (vs), some (vr 0), some (vr 31), some (vi (l3 + 7))]) (pc' := 774) d_Law_law_771 rfl rfl (by decide) kI_7 rfl rfl ?_
        refine G.goto (tgt := 18) d_Law_law_774 (by decide) ?_
        exact hrec18 (l3 + 7) s16
      · refine G.iconst (v := 0) (pc' := 681) d_Law_law_680 rfl kI_0 ?_
        exact G.zretK (by decide) d_Law_law_681 rfl hc
    refine G.ite (fun gs => ?_) (fun gs12 => ?_)
    · refine G.tabIn (off := 649) (tgt := 682) d_Law_law_33 gs (by decide) (by decide +kernel) (by decide) ?_
      refine G.aload_n (pc' := 683) d_Law_law_682 rfl rfl ?_
      refine G.aloadS_n (pc' := 684) d_Law_law_683 rfl rfl ?_
      refine G.iload_n (pc' := 685) d_Law_law_684 rfl rfl ?_
      refine G.iconst (v := 1) (pc' := 686) d_Law_law_685 rfl kI_1 ?_
      refine G.iadd (pc' := 687) d_Law_law_686 rfl ?_
      refine G.sld (pc' := 688) d_Law_law_687 rfl ?_
      refine G.aloadS_n (pc' := 689) d_Law_law_688 rfl rfl ?_
      refine G.iload_n (pc' := 690) d_Law_law_689 rfl rfl ?_
      refine G.iconst (v := 2) (pc' := 691) d_Law_law_690 rfl kI_2 ?_
      refine G.iadd (pc' := 692) d_Law_law_691 rfl ?_
      refine G.sld (pc' := 693) d_Law_law_692 rfl ?_
      refine G.callVi (As := [vi (xs (ix (l3 + 1))), vi (xs (ix (l3 + 2)))]) (n := 2) (i := 0) (ci := 0) (st := []) (t_FU_clash (xs (ix (l3 + 1))) (xs (ix (l3 + 2))) s _) (pc' := 696) d_Law_law_693 rfl lm_Law_68 mk_FU_clash mv_FU_clash ⟨rfl, rfl⟩ ⟨by decide, by decide⟩ (HX_0 _ _) rfl rfl rfl rfl hc rfl (fun v17 s17 => ?_)
      refine G.aload_n (pc' := 697) d_Law_law_696 rfl rfl ?_
      refine G.aloadS_n (pc' := 698) d_Law_law_697 rfl rfl ?_
      refine G.iload_n (pc' := 699) d_Law_law_698 rfl rfl ?_
      refine G.iconst (v := 1) (pc' := 700) d_Law_law_699 rfl kI_1 ?_
      refine G.iadd (pc' := 701) d_Law_law_700 rfl ?_
      refine G.sld (pc' := 702) d_Law_law_701 rfl ?_
      refine G.aloadS_n (pc' := 703) d_Law_law_702 rfl rfl ?_
      refine G.iload_n (pc' := 704) d_Law_law_703 rfl rfl ?_
      refine G.iconst (v := 2) (pc' := 705) d_Law_law_704 rfl kI_2 ?_
      refine G.iadd (pc' := 706) d_Law_law_705 rfl ?_
      refine G.sld (pc' := 707) d_Law_law_706 rfl ?_
      refine G.callVi (As := [vi (xs (ix (l3 + 1))), vi (xs (ix (l3 + 2)))]) (n := 2) (i := 31) (ci := 8) (st := [vi v17]) (t_Mod_clash (xs (ix (l3 + 1))) (xs (ix (l3 + 2))) s17 _) (pc' := 710) d_Law_law_707 rfl lm_Law_71 mk_Mod_clash mv_Mod_clash ⟨rfl, rfl⟩ ⟨by decide, by decide⟩ (HX_31 _ _) rfl rfl rfl rfl hc rfl (fun v18 s18 => ?_)
      refine G.icmp_eq (pc' := 713) (tgt := 771) d_Law_law_710 rfl (by decide) ?_ ?_
      · refine G.iinc (w := 7) (v := l3 + 7) (ρ' := [some (vs), some (vr 0), some (vr 31), some (vi (l3 + 7))]) (pc' := 774) d_Law_law_771 rfl rfl (by decide) kI_7 rfl rfl ?_
        refine G.goto (tgt := 18) d_Law_law_774 (by decide) ?_
        exact hrec18 (l3 + 7) s18
      · refine G.iconst (v := 0) (pc' := 714) d_Law_law_713 rfl kI_0 ?_
        exact G.zretK (by decide) d_Law_law_714 rfl hc
    refine G.ite (fun gs => ?_) (fun gs13 => ?_)
    · refine G.tabIn (off := 682) (tgt := 715) d_Law_law_33 gs (by decide) (by decide +kernel) (by decide) ?_
      refine G.aload_n (pc' := 716) d_Law_law_715 rfl rfl ?_
      refine G.aloadS_n (pc' := 717) d_Law_law_716 rfl rfl ?_
      refine G.iload_n (pc' := 718) d_Law_law_717 rfl rfl ?_
      refine G.iconst (v := 1) (pc' := 719) d_Law_law_718 rfl kI_1 ?_
      refine G.iadd (pc' := 720) d_Law_law_719 rfl ?_
      refine G.sld (pc' := 721) d_Law_law_720 rfl ?_
      refine G.aloadS_n (pc' := 722) d_Law_law_721 rfl rfl ?_
      refine G.iload_n (pc' := 723) d_Law_law_722 rfl rfl ?_
      refine G.iconst (v := 2) (pc' := 724) d_Law_law_723 rfl kI_2 ?_
      refine G.iadd (pc' := 725) d_Law_law_724 rfl ?_
      refine G.sld (pc' := 726) d_Law_law_725 rfl ?_
      refine G.callVi (As := [vi (xs (ix (l3 + 1))), vi (xs (ix (l3 + 2)))]) (n := 2) (i := 0) (ci := 0) (st := []) (t_FU_without (xs (ix (l3 + 1))) (xs (ix (l3 + 2))) s _) (pc' := 729) d_Law_law_726 rfl lm_Law_72 mk_FU_without mv_FU_without ⟨rfl, rfl⟩ ⟨by decide, by decide⟩ (HX_0 _ _) rfl rfl rfl rfl hc rfl (fun v19 s19 => ?_)
      refine G.aload_n (pc' := 730) d_Law_law_729 rfl rfl ?_
      refine G.aloadS_n (pc' := 731) d_Law_law_730 rfl rfl ?_
      refine G.iload_n (pc' := 732) d_Law_law_731 rfl rfl ?_
      refine G.iconst (v := 1) (pc' := 733) d_Law_law_732 rfl kI_1 ?_
      refine G.iadd (pc' := 734) d_Law_law_733 rfl ?_
      refine G.sld (pc' := 735) d_Law_law_734 rfl ?_
      refine G.aloadS_n (pc' := 736) d_Law_law_735 rfl rfl ?_
      refine G.iload_n (pc' := 737) d_Law_law_736 rfl rfl ?_
      refine G.iconst (v := 2) (pc' := 738) d_Law_law_737 rfl kI_2 ?_
      refine G.iadd (pc' := 739) d_Law_law_738 rfl ?_
      refine G.sld (pc' := 740) d_Law_law_739 rfl ?_
      refine G.callVi (As := [vi (xs (ix (l3 + 1))), vi (xs (ix (l3 + 2)))]) (n := 2) (i := 31) (ci := 8) (st := [vi v19]) (t_Mod_without (xs (ix (l3 + 1))) (xs (ix (l3 + 2))) s19 _) (pc' := 743) d_Law_law_740 rfl lm_Law_75 mk_Mod_without mv_Mod_without ⟨rfl, rfl⟩ ⟨by decide, by decide⟩ (HX_31 _ _) rfl rfl rfl rfl hc rfl (fun v20 s20 => ?_)
      refine G.icmp_eq (pc' := 746) (tgt := 771) d_Law_law_743 rfl (by decide) ?_ ?_
      · refine G.iinc (w := 7) (v := l3 + 7) (ρ' := [some (vs), some (vr 0), some (vr 31), some (vi (l3 + 7))]) (pc' := 774) d_Law_law_771 rfl rfl (by decide) kI_7 rfl rfl ?_
        refine G.goto (tgt := 18) d_Law_law_774 (by decide) ?_
        exact hrec18 (l3 + 7) s20
      · refine G.iconst (v := 0) (pc' := 747) d_Law_law_746 rfl kI_0 ?_
        exact G.zretK (by decide) d_Law_law_747 rfl hc
    refine G.ite (fun gs => ?_) (fun gs14 => ?_)
    · refine G.tabIn (off := 715) (tgt := 748) d_Law_law_33 gs (by decide) (by decide +kernel) (by decide) ?_
      refine G.aload_n (pc' := 749) d_Law_law_748 rfl rfl ?_
      refine G.aloadS_n (pc' := 750) d_Law_law_749 rfl rfl ?_
      refine G.iload_n (pc' := 751) d_Law_law_750 rfl rfl ?_
      refine G.iconst (v := 1) (pc' := 752) d_Law_law_751 rfl kI_1 ?_
      refine G.iadd (pc' := 753) d_Law_law_752 rfl ?_
      refine G.sld (pc' := 754) d_Law_law_753 rfl ?_
      refine G.callVi (As := [vi (xs (ix (l3 + 1)))]) (n := 1) (i := 0) (ci := 0) (st := []) (t_FU_left (xs (ix (l3 + 1))) s _) (pc' := 757) d_Law_law_754 rfl lm_Law_76 mk_FU_left mv_FU_left ⟨rfl, rfl⟩ ⟨by decide, by decide⟩ (HX_0 _ _) rfl rfl rfl rfl hc rfl (fun v21 s21 => ?_)
      refine G.aload_n (pc' := 758) d_Law_law_757 rfl rfl ?_
      refine G.aloadS_n (pc' := 759) d_Law_law_758 rfl rfl ?_
      refine G.iload_n (pc' := 760) d_Law_law_759 rfl rfl ?_
      refine G.iconst (v := 1) (pc' := 761) d_Law_law_760 rfl kI_1 ?_
      refine G.iadd (pc' := 762) d_Law_law_761 rfl ?_
      refine G.sld (pc' := 763) d_Law_law_762 rfl ?_
      refine G.callVi (As := [vi (xs (ix (l3 + 1)))]) (n := 1) (i := 31) (ci := 8) (st := [vi v21]) (t_Mod_left (xs (ix (l3 + 1))) s21 _) (pc' := 766) d_Law_law_763 rfl lm_Law_79 mk_Mod_left mv_Mod_left ⟨rfl, rfl⟩ ⟨by decide, by decide⟩ (HX_31 _ _) rfl rfl rfl rfl hc rfl (fun v22 s22 => ?_)
      refine G.icmp_eq (pc' := 769) (tgt := 771) d_Law_law_766 rfl (by decide) ?_ ?_
      · refine G.iinc (w := 7) (v := l3 + 7) (ρ' := [some (vs), some (vr 0), some (vr 31), some (vi (l3 + 7))]) (pc' := 774) d_Law_law_771 rfl rfl (by decide) kI_7 rfl rfl ?_
        refine G.goto (tgt := 18) d_Law_law_774 (by decide) ?_
        exact hrec18 (l3 + 7) s22
      · refine G.iconst (v := 0) (pc' := 770) d_Law_law_769 rfl kI_0 ?_
        exact G.zretK (by decide) d_Law_law_770 rfl hc
    refine G.tabOut (tgt := 771) d_Law_law_33 (sw_out0_14 gs0 gs1 gs2 gs3 gs4 gs5 gs6 gs7 gs8 gs9 gs10 gs11 gs12 gs13 gs14) (by decide) ?_
    refine G.iinc (w := 7) (v := l3 + 7) (ρ' := [some (vs), some (vr 0), some (vr 31), some (vi (l3 + 7))]) (pc' := 774) d_Law_law_771 rfl rfl (by decide) kI_7 rfl rfl ?_
    refine G.goto (tgt := 18) d_Law_law_774 (by decide) ?_
    exact hrec18 (l3 + 7) s
theorem t_law {R : List AC} {L0 : Nat} {xs : Nat → Int32} {cu su : Nat} (hc : cu ≤ (mR q_Law_law).cells ∧ su ≤ (mR q_Law_law).slots) (s : Sg) : Gd q_Law_law (some (L0, xs)) 16 [some (vs), some (vr 0), some (vr 31), none] [] s R cu su (f_Law_law L0 xs s) := by
  unfold f_Law_law
  refine G.iconst (v := 0) (pc' := 17) d_Law_law_16 rfl kI_0 ?_
  refine G.istore_n (ρ' := [some (vs), some (vr 0), some (vr 31), some (vi 0)]) (pc' := 18) d_Law_law_17 rfl (by decide) rfl ?_
  exact t_Law_law_18 hc 0 s
