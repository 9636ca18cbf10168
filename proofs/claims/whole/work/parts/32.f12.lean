def P_X11_chunk (mo : MO) (mr : MR) (ms : Nat) (mt : A) (dd : A) (wi : A) (hi : A) (gt : A) (sp : A) (ta : A) (li : A) (sr : A) (co : A) (hb : aH) (n : Nat) (res : Out (MW × A) Unit) : Option Value → aH → Nat → Prop := fun r1 h2 n2 => ∃ (a : Unit) (s : (MW × A)), res = fok a s ∧ r1 = none ∧ h2 = HM mo s.1 mr ms mt s.2 dd wi hi gt sp ta li sr co hb ∧ n = n2
abbrev Q_X11_chunk_68 (mo : MO) (mr : MR) (ms : Nat) (mt : A) (dd : A) (wi : A) (hi : A) (gt : A) (sp : A) (ta : A) (li : A) (sr : A) (co : A) (hb : aH) (n : Nat) (k : Int32 → Int32 → Int32 → Int32 → Int32 → Int32 → Int32 → MW → A → Out (MW × A) Unit) : Prop := ∀ (v2 : Int32) (v3 : Int32) (v4 : Int32) (v5 : Int32) (v6 : Int32) (v7 : Int32) (t0 : Int32) (mw : MW) (mu : A) (res : Out (MW × A) Unit), k v2 v3 v4 v5 v6 v7 t0 mw mu = res → res ≠ fno → AW (fun _ _ => True) mX11_chunk (rmD 2 0 0) 0 0 (P_X11_chunk mo mr ms mt dd wi hi gt sp ta li sr co hb n res) (fun _ _ _ => False) 0 0 68 [(0, .ref 31), (2, .int v2), (3, .int v3), (4, .int v4), (5, .int v5), (6, .int v6), (7, .int v7)] [.int t0] (HM mo mw mr ms mt mu dd wi hi gt sp ta li sr co hb) n
abbrev Q_X11_chunk_140 (mo : MO) (mr : MR) (ms : Nat) (mt : A) (dd : A) (wi : A) (hi : A) (gt : A) (sp : A) (ta : A) (li : A) (sr : A) (co : A) (hb : aH) (n : Nat) (k : Int32 → Int32 → Int32 → Int32 → Int32 → MW → A → Out (MW × A) Unit) : Prop := ∀ (v2 : Int32) (v4 : Int32) (v6 : Int32) (v7 : Int32) (v8 : Int32) (mw : MW) (mu : A) (res : Out (MW × A) Unit), k v2 v4 v6 v7 v8 mw mu = res → res ≠ fno → AW (fun _ _ => True) mX11_chunk (rmD 2 0 0) 0 0 (P_X11_chunk mo mr ms mt dd wi hi gt sp ta li sr co hb n res) (fun _ _ _ => False) 0 0 140 [(0, .ref 31), (2, .int v2), (4, .int v4), (6, .int v6), (7, .int v7), (8, .int v8)] [] (HM mo mw mr ms mt mu dd wi hi gt sp ta li sr co hb) n
abbrev Q_X11_chunk_218 (mo : MO) (mr : MR) (ms : Nat) (mt : A) (dd : A) (wi : A) (hi : A) (gt : A) (sp : A) (ta : A) (li : A) (sr : A) (co : A) (hb : aH) (n : Nat) (k : Int32 → Int32 → MW → A → Out (MW × A) Unit) : Prop := ∀ (v2 : Int32) (v8 : Int32) (mw : MW) (mu : A) (res : Out (MW × A) Unit), k v2 v8 mw mu = res → res ≠ fno → AW (fun _ _ => True) mX11_chunk (rmD 2 0 0) 0 0 (P_X11_chunk mo mr ms mt dd wi hi gt sp ta li sr co hb n res) (fun _ _ _ => False) 0 0 218 [(0, .ref 31), (2, .int v2), (8, .int v8)] [] (HM mo mw mr ms mt mu dd wi hi gt sp ta li sr co hb) n
abbrev Q_X11_chunk_233 (mo : MO) (mr : MR) (ms : Nat) (mt : A) (dd : A) (wi : A) (hi : A) (gt : A) (sp : A) (ta : A) (li : A) (sr : A) (co : A) (hb : aH) (n : Nat) (k : Int32 → Int32 → Int32 → MW → A → Out (MW × A) Unit) : Prop := ∀ (v2 : Int32) (v8 : Int32) (t0 : Int32) (mw : MW) (mu : A) (res : Out (MW × A) Unit), k v2 v8 t0 mw mu = res → res ≠ fno → AW (fun _ _ => True) mX11_chunk (rmD 2 0 0) 0 0 (P_X11_chunk mo mr ms mt dd wi hi gt sp ta li sr co hb n res) (fun _ _ _ => False) 0 0 233 [(0, .ref 31), (2, .int v2), (8, .int v8)] [.int t0, .ref 31] (HM mo mw mr ms mt mu dd wi hi gt sp ta li sr co hb) n
def F_X11_chunk_233   (v2 : Int32) (v8 : Int32) (t0 : Int32) (mw : MW) (mu : A) : Out (MW × A) Unit := fon (F_X11_put_ t0 mw mu) (fun z233 s233 => fon (F_X11_put_ (v2 >>> ((24 : Int32) &&& 31)) s233.1 s233.2) (fun z241 s241 => fon (F_X11_put_ (v2 >>> ((16 : Int32) &&& 31)) s241.1 s241.2) (fun z249 s249 => fon (F_X11_put_ (v2 >>> ((8 : Int32) &&& 31)) s249.1 s249.2) (fun z257 s257 => if v8 = 0 then (fon (F_X11_put_ v2 s257.1 s257.2) (fun z267 s267 => fok () (s267.1, s267.2)) (fun _ _ => fno)) else (fok () (s257.1, s257.2))) (fun _ _ => fno)) (fun _ _ => fno)) (fun _ _ => fno)) (fun _ _ => fno)
set_option maxHeartbeats 1000000 in
set_option maxRecDepth 100000 in
theorem b_X11_chunk_233 (mo : MO) (mr : MR) (ms : Nat) (mt : A) (dd : A) (wi : A) (hi : A) (gt : A) (sp : A) (ta : A) (li : A) (sr : A) (co : A) (hb : aH) (n : Nat)   : Q_X11_chunk_233 mo mr ms mt dd wi hi gt sp ta li sr co hb n (F_X11_chunk_233 ) := by
  intro v2 v8 t0 mw mu res hE hF
  unfold F_X11_chunk_233 at hE
  refine aw_callV dX11_chunk_233 at_mod cvX11_280 rfl (kF_X11_put_ mo mw mr ms mt mu dd wi hi gt sp ta li sr co hb _  t0 (fon_ne hE hF)) rfl (Nat.le_of_ble_eq_true rfl) (by decide) (by decide) (by decide) (by decide) (fun _ _ _ hf => False.elim hf) (fun r233 h233 n233 hp233 => ?_)
  obtain ⟨z233, s233, e233, rfl, rfl, rfl⟩ := hp233
  replace hE := fon_ok e233 hE
  refine aw_aload_n dX11_chunk_236 rfl ?_
  refine aw_iload_n dX11_chunk_237 rfl ?_
  refine aw_bipush (v := 24) dX11_chunk_238 (by decide) ?_
  refine aw_ishr dX11_chunk_240 ?_
  refine aw_callV dX11_chunk_241 at_mod cvX11_280 rfl (kF_X11_put_ mo s233.1 mr ms mt s233.2 dd wi hi gt sp ta li sr co hb _  (v2 >>> ((24 : Int32) &&& 31)) (fon_ne hE hF)) rfl (Nat.le_of_ble_eq_true rfl) (by decide) (by decide) (by decide) (by decide) (fun _ _ _ hf => False.elim hf) (fun r241 h241 n241 hp241 => ?_)
  obtain ⟨z241, s241, e241, rfl, rfl, rfl⟩ := hp241
  replace hE := fon_ok e241 hE
  refine aw_aload_n dX11_chunk_244 rfl ?_
  refine aw_iload_n dX11_chunk_245 rfl ?_
  refine aw_bipush (v := 16) dX11_chunk_246 (by decide) ?_
  refine aw_ishr dX11_chunk_248 ?_
  refine aw_callV dX11_chunk_249 at_mod cvX11_280 rfl (kF_X11_put_ mo s241.1 mr ms mt s241.2 dd wi hi gt sp ta li sr co hb _  (v2 >>> ((16 : Int32) &&& 31)) (fon_ne hE hF)) rfl (Nat.le_of_ble_eq_true rfl) (by decide) (by decide) (by decide) (by decide) (fun _ _ _ hf => False.elim hf) (fun r249 h249 n249 hp249 => ?_)
  obtain ⟨z249, s249, e249, rfl, rfl, rfl⟩ := hp249
  replace hE := fon_ok e249 hE
  refine aw_aload_n dX11_chunk_252 rfl ?_
  refine aw_iload_n dX11_chunk_253 rfl ?_
  refine aw_bipush (v := 8) dX11_chunk_254 (by decide) ?_
  refine aw_ishr dX11_chunk_256 ?_
  refine aw_callV dX11_chunk_257 at_mod cvX11_280 rfl (kF_X11_put_ mo s249.1 mr ms mt s249.2 dd wi hi gt sp ta li sr co hb _  (v2 >>> ((8 : Int32) &&& 31)) (fon_ne hE hF)) rfl (Nat.le_of_ble_eq_true rfl) (by decide) (by decide) (by decide) (by decide) (fun _ _ _ hf => False.elim hf) (fun r257 h257 n257 hp257 => ?_)
  obtain ⟨z257, s257, e257, rfl, rfl, rfl⟩ := hp257
  replace hE := fon_ok e257 hE
  refine aw_iload dX11_chunk_260 rfl ?_
  refine aw_if_ne (tgt := 270) dX11_chunk_262 (by decide) (fun c262 => ?_) (fun c262 => ?_)
  · replace hE := fif hE c262
    exact aw_vret dX11_chunk_270 rfl (Nat.zero_le _) (Nat.zero_le _) (Nat.zero_le _) (Nat.zero_le _) ⟨_, _, hE.symm, rfl, rfl, rfl⟩
  · replace hE := fit hE c262
    refine aw_aload_n dX11_chunk_265 rfl ?_
    refine aw_iload_n dX11_chunk_266 rfl ?_
    refine aw_callV dX11_chunk_267 at_mod cvX11_280 rfl (kF_X11_put_ mo s257.1 mr ms mt s257.2 dd wi hi gt sp ta li sr co hb _  v2 (fon_ne hE hF)) rfl (Nat.le_of_ble_eq_true rfl) (by decide) (by decide) (by decide) (by decide) (fun _ _ _ hf => False.elim hf) (fun r267 h267 n267 hp267 => ?_)
    obtain ⟨z267, s267, e267, rfl, rfl, rfl⟩ := hp267
    replace hE := fon_ok e267 hE
    exact aw_vret dX11_chunk_270 rfl (Nat.zero_le _) (Nat.zero_le _) (Nat.zero_le _) (Nat.zero_le _) ⟨_, _, hE.symm, rfl, rfl, rfl⟩
def F_X11_chunk_218   (v2 : Int32) (v8 : Int32) (mw : MW) (mu : A) : Out (MW × A) Unit := if v8 = 0 then (F_X11_chunk_233  v2 v8 (255 : Int32) mw mu) else (F_X11_chunk_233  v2 v8 (254 : Int32) mw mu)
set_option maxHeartbeats 1000000 in
set_option maxRecDepth 100000 in
theorem b_X11_chunk_218 (mo : MO) (mr : MR) (ms : Nat) (mt : A) (dd : A) (wi : A) (hi : A) (gt : A) (sp : A) (ta : A) (li : A) (sr : A) (co : A) (hb : aH) (n : Nat)   : Q_X11_chunk_218 mo mr ms mt dd wi hi gt sp ta li sr co hb n (F_X11_chunk_218 ) := by
  intro v2 v8 mw mu res hE hF
  unfold F_X11_chunk_218 at hE
  refine aw_aload_n dX11_chunk_218 rfl ?_
  refine aw_iload dX11_chunk_219 rfl ?_
  refine aw_if_eq (tgt := 230) dX11_chunk_221 (by decide) (fun c221 => ?_) (fun c221 => ?_)
  · replace hE := fit hE c221
    refine aw_sipush (v := 255) dX11_chunk_230 (by decide) ?_
    exact aw_lv _ (List.forall_mem_cons.mpr ⟨rfl, (List.forall_mem_cons.mpr ⟨rfl, (List.forall_mem_cons.mpr ⟨rfl, fun _ h => absurd h List.not_mem_nil⟩)⟩)⟩) (b_X11_chunk_233 mo mr ms mt dd wi hi gt sp ta li sr co hb n   v2 v8 (255 : Int32) mw mu _ hE hF)
  · replace hE := fif hE c221
    refine aw_sipush (v := 254) dX11_chunk_224 (by decide) ?_
    refine aw_goto (tgt := 233) dX11_chunk_227 (by decide) ?_
    exact aw_lv _ (List.forall_mem_cons.mpr ⟨rfl, (List.forall_mem_cons.mpr ⟨rfl, (List.forall_mem_cons.mpr ⟨rfl, fun _ h => absurd h List.not_mem_nil⟩)⟩)⟩) (b_X11_chunk_233 mo mr ms mt dd wi hi gt sp ta li sr co hb n   v2 v8 (254 : Int32) mw mu _ hE hF)
def F_X11_chunk_140   (v2 : Int32) (v4 : Int32) (v6 : Int32) (v7 : Int32) (v8 : Int32) (mw : MW) (mu : A) : Out (MW × A) Unit := if v8 = 0 then (F_X11_chunk_218  v2 v8 mw mu) else (if v4 < (-32) then (F_X11_chunk_218  v2 v8 mw mu) else (if 32 ≤ v4 then (F_X11_chunk_218  v2 v8 mw mu) else (if v6 < (-8) then (F_X11_chunk_218  v2 v8 mw mu) else (if 8 ≤ v6 then (F_X11_chunk_218  v2 v8 mw mu) else (if v7 < (-8) then (F_X11_chunk_218  v2 v8 mw mu) else (if 8 ≤ v7 then (F_X11_chunk_218  v2 v8 mw mu) else (fon (F_X11_put_ (160 + v4) mw mu) (fun z194 s194 => fon (F_X11_put_ (((16 * (v6 + 8)) + v7) + 8) s194.1 s194.2) (fun z212 s212 => fok () (s212.1, s212.2)) (fun _ _ => fno)) (fun _ _ => fno))))))))
set_option maxHeartbeats 1000000 in
set_option maxRecDepth 100000 in
theorem b_X11_chunk_140 (mo : MO) (mr : MR) (ms : Nat) (mt : A) (dd : A) (wi : A) (hi : A) (gt : A) (sp : A) (ta : A) (li : A) (sr : A) (co : A) (hb : aH) (n : Nat)   : Q_X11_chunk_140 mo mr ms mt dd wi hi gt sp ta li sr co hb n (F_X11_chunk_140 ) := by
  intro v2 v4 v6 v7 v8 mw mu res hE hF
  unfold F_X11_chunk_140 at hE
  refine aw_iload dX11_chunk_140 rfl ?_
  refine aw_if_eq (tgt := 218) dX11_chunk_142 (by decide) (fun c142 => ?_) (fun c142 => ?_)
  · replace hE := fit hE c142
    exact aw_lv _ (List.forall_mem_cons.mpr ⟨rfl, (List.forall_mem_cons.mpr ⟨rfl, (List.forall_mem_cons.mpr ⟨rfl, fun _ h => absurd h List.not_mem_nil⟩)⟩)⟩) (b_X11_chunk_218 mo mr ms mt dd wi hi gt sp ta li sr co hb n   v2 v8 mw mu _ hE hF)
  · replace hE := fif hE c142
    refine aw_iload dX11_chunk_145 rfl ?_
    refine aw_bipush (v := (-32)) dX11_chunk_147 (by decide) ?_
    refine aw_icmp_lt (tgt := 218) dX11_chunk_149 (by decide) (fun c149 => ?_) (fun c149 => ?_)
    · replace hE := fit hE c149
      exact aw_lv _ (List.forall_mem_cons.mpr ⟨rfl, (List.forall_mem_cons.mpr ⟨rfl, (List.forall_mem_cons.mpr ⟨rfl, fun _ h => absurd h List.not_mem_nil⟩)⟩)⟩) (b_X11_chunk_218 mo mr ms mt dd wi hi gt sp ta li sr co hb n   v2 v8 mw mu _ hE hF)
    · replace hE := fif hE c149
      refine aw_iload dX11_chunk_152 rfl ?_
      refine aw_bipush (v := 32) dX11_chunk_154 (by decide) ?_
      refine aw_icmp_ge (tgt := 218) dX11_chunk_156 (by decide) (fun c156 => ?_) (fun c156 => ?_)
      · replace hE := fit hE c156
        exact aw_lv _ (List.forall_mem_cons.mpr ⟨rfl, (List.forall_mem_cons.mpr ⟨rfl, (List.forall_mem_cons.mpr ⟨rfl, fun _ h => absurd h List.not_mem_nil⟩)⟩)⟩) (b_X11_chunk_218 mo mr ms mt dd wi hi gt sp ta li sr co hb n   v2 v8 mw mu _ hE hF)
      · replace hE := fif hE c156
        refine aw_iload dX11_chunk_159 rfl ?_
        refine aw_bipush (v := (-8)) dX11_chunk_161 (by decide) ?_
        refine aw_icmp_lt (tgt := 218) dX11_chunk_163 (by decide) (fun c163 => ?_) (fun c163 => ?_)
        · replace hE := fit hE c163
          exact aw_lv _ (List.forall_mem_cons.mpr ⟨rfl, (List.forall_mem_cons.mpr ⟨rfl, (List.forall_mem_cons.mpr ⟨rfl, fun _ h => absurd h List.not_mem_nil⟩)⟩)⟩) (b_X11_chunk_218 mo mr ms mt dd wi hi gt sp ta li sr co hb n   v2 v8 mw mu _ hE hF)
        · replace hE := fif hE c163
          refine aw_iload dX11_chunk_166 rfl ?_
          refine aw_bipush (v := 8) dX11_chunk_168 (by decide) ?_
          refine aw_icmp_ge (tgt := 218) dX11_chunk_170 (by decide) (fun c170 => ?_) (fun c170 => ?_)
          · replace hE := fit hE c170
            exact aw_lv _ (List.forall_mem_cons.mpr ⟨rfl, (List.forall_mem_cons.mpr ⟨rfl, (List.forall_mem_cons.mpr ⟨rfl, fun _ h => absurd h List.not_mem_nil⟩)⟩)⟩) (b_X11_chunk_218 mo mr ms mt dd wi hi gt sp ta li sr co hb n   v2 v8 mw mu _ hE hF)
          · replace hE := fif hE c170
            refine aw_iload dX11_chunk_173 rfl ?_
            refine aw_bipush (v := (-8)) dX11_chunk_175 (by decide) ?_
            refine aw_icmp_lt (tgt := 218) dX11_chunk_177 (by decide) (fun c177 => ?_) (fun c177 => ?_)
            · replace hE := fit hE c177
              exact aw_lv _ (List.forall_mem_cons.mpr ⟨rfl, (List.forall_mem_cons.mpr ⟨rfl, (List.forall_mem_cons.mpr ⟨rfl, fun _ h => absurd h List.not_mem_nil⟩)⟩)⟩) (b_X11_chunk_218 mo mr ms mt dd wi hi gt sp ta li sr co hb n   v2 v8 mw mu _ hE hF)
            · replace hE := fif hE c177
              refine aw_iload dX11_chunk_180 rfl ?_
              refine aw_bipush (v := 8) dX11_chunk_182 (by decide) ?_
              refine aw_icmp_ge (tgt := 218) dX11_chunk_184 (by decide) (fun c184 => ?_) (fun c184 => ?_)
              · replace hE := fit hE c184
                exact aw_lv _ (List.forall_mem_cons.mpr ⟨rfl, (List.forall_mem_cons.mpr ⟨rfl, (List.forall_mem_cons.mpr ⟨rfl, fun _ h => absurd h List.not_mem_nil⟩)⟩)⟩) (b_X11_chunk_218 mo mr ms mt dd wi hi gt sp ta li sr co hb n   v2 v8 mw mu _ hE hF)
              · replace hE := fif hE c184
                refine aw_aload_n dX11_chunk_187 rfl ?_
                refine aw_sipush (v := 160) dX11_chunk_188 (by decide) ?_
                refine aw_iload dX11_chunk_191 rfl ?_
                refine aw_iadd dX11_chunk_193 ?_
                refine aw_callV dX11_chunk_194 at_mod cvX11_280 rfl (kF_X11_put_ mo mw mr ms mt mu dd wi hi gt sp ta li sr co hb _  (160 + v4) (fon_ne hE hF)) rfl (Nat.le_of_ble_eq_true rfl) (by decide) (by decide) (by decide) (by decide) (fun _ _ _ hf => False.elim hf) (fun r194 h194 n194 hp194 => ?_)
                obtain ⟨z194, s194, e194, rfl, rfl, rfl⟩ := hp194
                replace hE := fon_ok e194 hE
                refine aw_aload_n dX11_chunk_197 rfl ?_
                refine aw_bipush (v := 16) dX11_chunk_198 (by decide) ?_
                refine aw_iload dX11_chunk_200 rfl ?_
                refine aw_bipush (v := 8) dX11_chunk_202 (by decide) ?_
                refine aw_iadd dX11_chunk_204 ?_
                refine aw_imul dX11_chunk_205 ?_
                refine aw_iload dX11_chunk_206 rfl ?_
                refine aw_iadd dX11_chunk_208 ?_
                refine aw_bipush (v := 8) dX11_chunk_209 (by decide) ?_
                refine aw_iadd dX11_chunk_211 ?_
                refine aw_callV dX11_chunk_212 at_mod cvX11_280 rfl (kF_X11_put_ mo s194.1 mr ms mt s194.2 dd wi hi gt sp ta li sr co hb _  (((16 * (v6 + 8)) + v7) + 8) (fon_ne hE hF)) rfl (Nat.le_of_ble_eq_true rfl) (by decide) (by decide) (by decide) (by decide) (fun _ _ _ hf => False.elim hf) (fun r212 h212 n212 hp212 => ?_)
                obtain ⟨z212, s212, e212, rfl, rfl, rfl⟩ := hp212
                replace hE := fon_ok e212 hE
                refine aw_goto (tgt := 270) dX11_chunk_215 (by decide) ?_
                exact aw_vret dX11_chunk_270 rfl (Nat.zero_le _) (Nat.zero_le _) (Nat.zero_le _) (Nat.zero_le _) ⟨_, _, hE.symm, rfl, rfl, rfl⟩
def F_X11_chunk_68   (v2 : Int32) (v3 : Int32) (v4 : Int32) (v5 : Int32) (v6 : Int32) (v7 : Int32) (t0 : Int32) (mw : MW) (mu : A) : Out (MW × A) Unit := if t0 = 0 then (F_X11_chunk_140  v2 v4 v6 v7 t0 mw mu) else (if v3 < (-2) then (F_X11_chunk_140  v2 v4 v6 v7 t0 mw mu) else (if 2 ≤ v3 then (F_X11_chunk_140  v2 v4 v6 v7 t0 mw mu) else (if v4 < (-2) then (F_X11_chunk_140  v2 v4 v6 v7 t0 mw mu) else (if 2 ≤ v4 then (F_X11_chunk_140  v2 v4 v6 v7 t0 mw mu) else (if v5 < (-2) then (F_X11_chunk_140  v2 v4 v6 v7 t0 mw mu) else (if 2 ≤ v5 then (F_X11_chunk_140  v2 v4 v6 v7 t0 mw mu) else (fon (F_X11_put_ ((((64 + (16 * (v3 + 2))) + (4 * (v4 + 2))) + v5) + 2) mw mu) (fun z134 s134 => fok () (s134.1, s134.2)) (fun _ _ => fno))))))))
set_option maxHeartbeats 1000000 in
set_option maxRecDepth 100000 in
theorem b_X11_chunk_68 (mo : MO) (mr : MR) (ms : Nat) (mt : A) (dd : A) (wi : A) (hi : A) (gt : A) (sp : A) (ta : A) (li : A) (sr : A) (co : A) (hb : aH) (n : Nat)   : Q_X11_chunk_68 mo mr ms mt dd wi hi gt sp ta li sr co hb n (F_X11_chunk_68 ) := by
  intro v2 v3 v4 v5 v6 v7 t0 mw mu res hE hF
  unfold F_X11_chunk_68 at hE
  refine aw_istore (lv2 := [(8, _), (0, _), (2, _), (3, _), (4, _), (5, _), (6, _), (7, _)]) dX11_chunk_68 (by decide) rfl ?_
  refine aw_iload dX11_chunk_70 rfl ?_
  refine aw_if_eq (tgt := 140) dX11_chunk_72 (by decide) (fun c72 => ?_) (fun c72 => ?_)
  · replace hE := fit hE c72
    exact aw_lv _ (List.forall_mem_cons.mpr ⟨rfl, (List.forall_mem_cons.mpr ⟨rfl, (List.forall_mem_cons.mpr ⟨rfl, (List.forall_mem_cons.mpr ⟨rfl, (List.forall_mem_cons.mpr ⟨rfl, (List.forall_mem_cons.mpr ⟨rfl, fun _ h => absurd h List.not_mem_nil⟩)⟩)⟩)⟩)⟩)⟩) (b_X11_chunk_140 mo mr ms mt dd wi hi gt sp ta li sr co hb n   v2 v4 v6 v7 t0 mw mu _ hE hF)
  · replace hE := fif hE c72
    refine aw_iload_n dX11_chunk_75 rfl ?_
    refine aw_bipush (v := (-2)) dX11_chunk_76 (by decide) ?_
    refine aw_icmp_lt (tgt := 140) dX11_chunk_78 (by decide) (fun c78 => ?_) (fun c78 => ?_)
    · replace hE := fit hE c78
      exact aw_lv _ (List.forall_mem_cons.mpr ⟨rfl, (List.forall_mem_cons.mpr ⟨rfl, (List.forall_mem_cons.mpr ⟨rfl, (List.forall_mem_cons.mpr ⟨rfl, (List.forall_mem_cons.mpr ⟨rfl, (List.forall_mem_cons.mpr ⟨rfl, fun _ h => absurd h List.not_mem_nil⟩)⟩)⟩)⟩)⟩)⟩) (b_X11_chunk_140 mo mr ms mt dd wi hi gt sp ta li sr co hb n   v2 v4 v6 v7 t0 mw mu _ hE hF)
    · replace hE := fif hE c78
      refine aw_iload_n dX11_chunk_81 rfl ?_
      refine aw_iconst (v := 2) dX11_chunk_82 (by decide) ?_
      refine aw_icmp_ge (tgt := 140) dX11_chunk_83 (by decide) (fun c83 => ?_) (fun c83 => ?_)
      · replace hE := fit hE c83
        exact aw_lv _ (List.forall_mem_cons.mpr ⟨rfl, (List.forall_mem_cons.mpr ⟨rfl, (List.forall_mem_cons.mpr ⟨rfl, (List.forall_mem_cons.mpr ⟨rfl, (List.forall_mem_cons.mpr ⟨rfl, (List.forall_mem_cons.mpr ⟨rfl, fun _ h => absurd h List.not_mem_nil⟩)⟩)⟩)⟩)⟩)⟩) (b_X11_chunk_140 mo mr ms mt dd wi hi gt sp ta li sr co hb n   v2 v4 v6 v7 t0 mw mu _ hE hF)
      · replace hE := fif hE c83
        refine aw_iload dX11_chunk_86 rfl ?_
        refine aw_bipush (v := (-2)) dX11_chunk_88 (by decide) ?_
        refine aw_icmp_lt (tgt := 140) dX11_chunk_90 (by decide) (fun c90 => ?_) (fun c90 => ?_)
        · replace hE := fit hE c90
          exact aw_lv _ (List.forall_mem_cons.mpr ⟨rfl, (List.forall_mem_cons.mpr ⟨rfl, (List.forall_mem_cons.mpr ⟨rfl, (List.forall_mem_cons.mpr ⟨rfl, (List.forall_mem_cons.mpr ⟨rfl, (List.forall_mem_cons.mpr ⟨rfl, fun _ h => absurd h List.not_mem_nil⟩)⟩)⟩)⟩)⟩)⟩) (b_X11_chunk_140 mo mr ms mt dd wi hi gt sp ta li sr co hb n   v2 v4 v6 v7 t0 mw mu _ hE hF)
        · replace hE := fif hE c90
          refine aw_iload dX11_chunk_93 rfl ?_
          refine aw_iconst (v := 2) dX11_chunk_95 (by decide) ?_
          refine aw_icmp_ge (tgt := 140) dX11_chunk_96 (by decide) (fun c96 => ?_) (fun c96 => ?_)
          · replace hE := fit hE c96
            exact aw_lv _ (List.forall_mem_cons.mpr ⟨rfl, (List.forall_mem_cons.mpr ⟨rfl, (List.forall_mem_cons.mpr ⟨rfl, (List.forall_mem_cons.mpr ⟨rfl, (List.forall_mem_cons.mpr ⟨rfl, (List.forall_mem_cons.mpr ⟨rfl, fun _ h => absurd h List.not_mem_nil⟩)⟩)⟩)⟩)⟩)⟩) (b_X11_chunk_140 mo mr ms mt dd wi hi gt sp ta li sr co hb n   v2 v4 v6 v7 t0 mw mu _ hE hF)
          · replace hE := fif hE c96
            refine aw_iload dX11_chunk_99 rfl ?_
            refine aw_bipush (v := (-2)) dX11_chunk_101 (by decide) ?_
            refine aw_icmp_lt (tgt := 140) dX11_chunk_103 (by decide) (fun c103 => ?_) (fun c103 => ?_)
            · replace hE := fit hE c103
              exact aw_lv _ (List.forall_mem_cons.mpr ⟨rfl, (List.forall_mem_cons.mpr ⟨rfl, (List.forall_mem_cons.mpr ⟨rfl, (List.forall_mem_cons.mpr ⟨rfl, (List.forall_mem_cons.mpr ⟨rfl, (List.forall_mem_cons.mpr ⟨rfl, fun _ h => absurd h List.not_mem_nil⟩)⟩)⟩)⟩)⟩)⟩) (b_X11_chunk_140 mo mr ms mt dd wi hi gt sp ta li sr co hb n   v2 v4 v6 v7 t0 mw mu _ hE hF)
            · replace hE := fif hE c103
              refine aw_iload dX11_chunk_106 rfl ?_
              refine aw_iconst (v := 2) dX11_chunk_108 (by decide) ?_
              refine aw_icmp_ge (tgt := 140) dX11_chunk_109 (by decide) (fun c109 => ?_) (fun c109 => ?_)
              · replace hE := fit hE c109
                exact aw_lv _ (List.forall_mem_cons.mpr ⟨rfl, (List.forall_mem_cons.mpr ⟨rfl, (List.forall_mem_cons.mpr ⟨rfl, (List.forall_mem_cons.mpr ⟨rfl, (List.forall_mem_cons.mpr ⟨rfl, (List.forall_mem_cons.mpr ⟨rfl, fun _ h => absurd h List.not_mem_nil⟩)⟩)⟩)⟩)⟩)⟩) (b_X11_chunk_140 mo mr ms mt dd wi hi gt sp ta li sr co hb n   v2 v4 v6 v7 t0 mw mu _ hE hF)
              · replace hE := fif hE c109
                refine aw_aload_n dX11_chunk_112 rfl ?_
                refine aw_bipush (v := 64) dX11_chunk_113 (by decide) ?_
                refine aw_bipush (v := 16) dX11_chunk_115 (by decide) ?_
                refine aw_iload_n dX11_chunk_117 rfl ?_
                refine aw_iconst (v := 2) dX11_chunk_118 (by decide) ?_
                refine aw_iadd dX11_chunk_119 ?_
                refine aw_imul dX11_chunk_120 ?_
                refine aw_iadd dX11_chunk_121 ?_
                refine aw_iconst (v := 4) dX11_chunk_122 (by decide) ?_
                refine aw_iload dX11_chunk_123 rfl ?_
                refine aw_iconst (v := 2) dX11_chunk_125 (by decide) ?_
                refine aw_iadd dX11_chunk_126 ?_
                refine aw_imul dX11_chunk_127 ?_
                refine aw_iadd dX11_chunk_128 ?_
                refine aw_iload dX11_chunk_129 rfl ?_
                refine aw_iadd dX11_chunk_131 ?_
                refine aw_iconst (v := 2) dX11_chunk_132 (by decide) ?_
                refine aw_iadd dX11_chunk_133 ?_
                refine aw_callV dX11_chunk_134 at_mod cvX11_280 rfl (kF_X11_put_ mo mw mr ms mt mu dd wi hi gt sp ta li sr co hb _  ((((64 + (16 * (v3 + 2))) + (4 * (v4 + 2))) + v5) + 2) (fon_ne hE hF)) rfl (Nat.le_of_ble_eq_true rfl) (by decide) (by decide) (by decide) (by decide) (fun _ _ _ hf => False.elim hf) (fun r134 h134 n134 hp134 => ?_)
                obtain ⟨z134, s134, e134, rfl, rfl, rfl⟩ := hp134
                replace hE := fon_ok e134 hE
                refine aw_goto (tgt := 270) dX11_chunk_137 (by decide) ?_
                exact aw_vret dX11_chunk_270 rfl (Nat.zero_le _) (Nat.zero_le _) (Nat.zero_le _) (Nat.zero_le _) ⟨_, _, hE.symm, rfl, rfl, rfl⟩
def F_X11_chunk (a1 : Int32) (a2 : Int32) (mw : MW) (mu : A) : Out (MW × A) Unit := if (a1 &&& 255) = (a2 &&& 255) then (F_X11_chunk_68  a2 ((((us a2 24) - (us a1 24))).toInt8.toInt32) ((((a2 >>> ((16 : Int32) &&& 31)) - (a1 >>> ((16 : Int32) &&& 31)))).toInt8.toInt32) ((((a2 >>> ((8 : Int32) &&& 31)) - (a1 >>> ((8 : Int32) &&& 31)))).toInt8.toInt32) ((((((us a2 24) - (us a1 24))).toInt8.toInt32 - (((a2 >>> ((16 : Int32) &&& 31)) - (a1 >>> ((16 : Int32) &&& 31)))).toInt8.toInt32)).toInt8.toInt32) ((((((a2 >>> ((8 : Int32) &&& 31)) - (a1 >>> ((8 : Int32) &&& 31)))).toInt8.toInt32 - (((a2 >>> ((16 : Int32) &&& 31)) - (a1 >>> ((16 : Int32) &&& 31)))).toInt8.toInt32)).toInt8.toInt32) (1 : Int32) mw mu) else (F_X11_chunk_68  a2 ((((us a2 24) - (us a1 24))).toInt8.toInt32) ((((a2 >>> ((16 : Int32) &&& 31)) - (a1 >>> ((16 : Int32) &&& 31)))).toInt8.toInt32) ((((a2 >>> ((8 : Int32) &&& 31)) - (a1 >>> ((8 : Int32) &&& 31)))).toInt8.toInt32) ((((((us a2 24) - (us a1 24))).toInt8.toInt32 - (((a2 >>> ((16 : Int32) &&& 31)) - (a1 >>> ((16 : Int32) &&& 31)))).toInt8.toInt32)).toInt8.toInt32) ((((((a2 >>> ((8 : Int32) &&& 31)) - (a1 >>> ((8 : Int32) &&& 31)))).toInt8.toInt32 - (((a2 >>> ((16 : Int32) &&& 31)) - (a1 >>> ((16 : Int32) &&& 31)))).toInt8.toInt32)).toInt8.toInt32) (0 : Int32) mw mu)
set_option maxHeartbeats 1000000 in
set_option maxRecDepth 100000 in
theorem kF_X11_chunk (mo : MO) (mw : MW) (mr : MR) (ms : Nat) (mt : A) (mu : A) (dd : A) (wi : A) (hi : A) (gt : A) (sp : A) (ta : A) (li : A) (sr : A) (co : A) (hb : aH) (n : Nat)  (a1 : Int32) (a2 : Int32) (hF : F_X11_chunk a1 a2 mw mu ≠ fno) : AM mX11_chunk 2 [.ref 31, .int a1, .int a2] (HM mo mw mr ms mt mu dd wi hi gt sp ta li sr co hb) n 0 0 0 0 (P_X11_chunk mo mr ms mt dd wi hi gt sp ta li sr co hb n (F_X11_chunk a1 a2 mw mu)) (fun _ _ _ => False) := by
  generalize hE : F_X11_chunk a1 a2 mw mu = res at hF ⊢
  refine aw_of (by decide +kernel) rfl (Nat.le_of_ble_eq_true rfl) ?_
  unfold F_X11_chunk at hE
  refine aw_iload_n dX11_chunk_0 rfl ?_
  refine aw_bipush (v := 24) dX11_chunk_1 (by decide) ?_
  refine aw_iushr dX11_chunk_3 ?_
  refine aw_iload_n dX11_chunk_4 rfl ?_
  refine aw_bipush (v := 24) dX11_chunk_5 (by decide) ?_
  refine aw_iushr dX11_chunk_7 ?_
  refine aw_isub dX11_chunk_8 ?_
  refine aw_i2b dX11_chunk_9 ?_
  refine aw_istore_n (lv2 := [(3, _), (0, _), (1, _), (2, _)]) dX11_chunk_10 (by decide) rfl ?_
  refine aw_iload_n dX11_chunk_11 rfl ?_
  refine aw_bipush (v := 16) dX11_chunk_12 (by decide) ?_
  refine aw_ishr dX11_chunk_14 ?_
  refine aw_iload_n dX11_chunk_15 rfl ?_
  refine aw_bipush (v := 16) dX11_chunk_16 (by decide) ?_
  refine aw_ishr dX11_chunk_18 ?_
  refine aw_isub dX11_chunk_19 ?_
  refine aw_i2b dX11_chunk_20 ?_
  refine aw_istore (lv2 := [(4, _), (3, _), (0, _), (1, _), (2, _)]) dX11_chunk_21 (by decide) rfl ?_
  refine aw_iload_n dX11_chunk_23 rfl ?_
  refine aw_bipush (v := 8) dX11_chunk_24 (by decide) ?_
  refine aw_ishr dX11_chunk_26 ?_
  refine aw_iload_n dX11_chunk_27 rfl ?_
  refine aw_bipush (v := 8) dX11_chunk_28 (by decide) ?_
  refine aw_ishr dX11_chunk_30 ?_
  refine aw_isub dX11_chunk_31 ?_
  refine aw_i2b dX11_chunk_32 ?_
  refine aw_istore (lv2 := [(5, _), (4, _), (3, _), (0, _), (1, _), (2, _)]) dX11_chunk_33 (by decide) rfl ?_
  refine aw_iload_n dX11_chunk_35 rfl ?_
  refine aw_iload dX11_chunk_36 rfl ?_
  refine aw_isub dX11_chunk_38 ?_
  refine aw_i2b dX11_chunk_39 ?_
  refine aw_istore (lv2 := [(6, _), (5, _), (4, _), (3, _), (0, _), (1, _), (2, _)]) dX11_chunk_40 (by decide) rfl ?_
  refine aw_iload dX11_chunk_42 rfl ?_
  refine aw_iload dX11_chunk_44 rfl ?_
  refine aw_isub dX11_chunk_46 ?_
  refine aw_i2b dX11_chunk_47 ?_
  refine aw_istore (lv2 := [(7, _), (6, _), (5, _), (4, _), (3, _), (0, _), (1, _), (2, _)]) dX11_chunk_48 (by decide) rfl ?_
  refine aw_iload_n dX11_chunk_50 rfl ?_
  refine aw_sipush (v := 255) dX11_chunk_51 (by decide) ?_
  refine aw_iand dX11_chunk_54 ?_
  refine aw_iload_n dX11_chunk_55 rfl ?_
  refine aw_sipush (v := 255) dX11_chunk_56 (by decide) ?_
  refine aw_iand dX11_chunk_59 ?_
  refine aw_icmp_ne (tgt := 67) dX11_chunk_60 (by decide) (fun c60 => ?_) (fun c60 => ?_)
  · replace hE := fif hE c60
    refine aw_iconst (v := 0) dX11_chunk_67 (by decide) ?_
    exact aw_lv _ (List.forall_mem_cons.mpr ⟨rfl, (List.forall_mem_cons.mpr ⟨rfl, (List.forall_mem_cons.mpr ⟨rfl, (List.forall_mem_cons.mpr ⟨rfl, (List.forall_mem_cons.mpr ⟨rfl, (List.forall_mem_cons.mpr ⟨rfl, (List.forall_mem_cons.mpr ⟨rfl, fun _ h => absurd h List.not_mem_nil⟩)⟩)⟩)⟩)⟩)⟩)⟩) (b_X11_chunk_68 mo mr ms mt dd wi hi gt sp ta li sr co hb n   a2 ((((us a2 24) - (us a1 24))).toInt8.toInt32) ((((a2 >>> ((16 : Int32) &&& 31)) - (a1 >>> ((16 : Int32) &&& 31)))).toInt8.toInt32) ((((a2 >>> ((8 : Int32) &&& 31)) - (a1 >>> ((8 : Int32) &&& 31)))).toInt8.toInt32) ((((((us a2 24) - (us a1 24))).toInt8.toInt32 - (((a2 >>> ((16 : Int32) &&& 31)) - (a1 >>> ((16 : Int32) &&& 31)))).toInt8.toInt32)).toInt8.toInt32) ((((((a2 >>> ((8 : Int32) &&& 31)) - (a1 >>> ((8 : Int32) &&& 31)))).toInt8.toInt32 - (((a2 >>> ((16 : Int32) &&& 31)) - (a1 >>> ((16 : Int32) &&& 31)))).toInt8.toInt32)).toInt8.toInt32) (0 : Int32) mw mu _ hE hF)
  · replace hE := fit hE c60
    refine aw_iconst (v := 1) dX11_chunk_63 (by decide) ?_
    refine aw_goto (tgt := 68) dX11_chunk_64 (by decide) ?_
    exact aw_lv _ (List.forall_mem_cons.mpr ⟨rfl, (List.forall_mem_cons.mpr ⟨rfl, (List.forall_mem_cons.mpr ⟨rfl, (List.forall_mem_cons.mpr ⟨rfl, (List.forall_mem_cons.mpr ⟨rfl, (List.forall_mem_cons.mpr ⟨rfl, (List.forall_mem_cons.mpr ⟨rfl, fun _ h => absurd h List.not_mem_nil⟩)⟩)⟩)⟩)⟩)⟩)⟩) (b_X11_chunk_68 mo mr ms mt dd wi hi gt sp ta li sr co hb n   a2 ((((us a2 24) - (us a1 24))).toInt8.toInt32) ((((a2 >>> ((16 : Int32) &&& 31)) - (a1 >>> ((16 : Int32) &&& 31)))).toInt8.toInt32) ((((a2 >>> ((8 : Int32) &&& 31)) - (a1 >>> ((8 : Int32) &&& 31)))).toInt8.toInt32) ((((((us a2 24) - (us a1 24))).toInt8.toInt32 - (((a2 >>> ((16 : Int32) &&& 31)) - (a1 >>> ((16 : Int32) &&& 31)))).toInt8.toInt32)).toInt8.toInt32) ((((((a2 >>> ((8 : Int32) &&& 31)) - (a1 >>> ((8 : Int32) &&& 31)))).toInt8.toInt32 - (((a2 >>> ((16 : Int32) &&& 31)) - (a1 >>> ((16 : Int32) &&& 31)))).toInt8.toInt32)).toInt8.toInt32) (1 : Int32) mw mu _ hE hF)
def P_X11_at (mo : MO) (mw : MW) (mr : MR) (ms : Nat) (mt : A) (mu : A) (dd : A) (wi : A) (hi : A) (gt : A) (sp : A) (ta : A) (li : A) (sr : A) (co : A) (hb : aH) (n : Nat) (res : Out Unit Int32) : Option Value → aH → Nat → Prop := fun r1 h2 n2 => ∃ (a : Int32) (s : Unit), res = fok a s ∧ r1 = some (.int a) ∧ h2 = HM mo mw mr ms mt mu dd wi hi gt sp ta li sr co hb ∧ n = n2
def F_X11_at (a1 : Int32) (a2 : Int32) (a3 : Int32) (dd : A) (wi : A) : Out Unit Int32 := if inb a1 4 then (if inb (((4096 * a1) + ((wi (Int32.toNatClampNeg a1)) * a3)) + a2) 16384 then (fok ((dd (Int32.toNatClampNeg (((4096 * a1) + ((wi (Int32.toNatClampNeg a1)) * a3)) + a2))) : Int32) ()) else fno) else fno
set_option maxHeartbeats 1000000 in
set_option maxRecDepth 100000 in
theorem kF_X11_at (mo : MO) (mw : MW) (mr : MR) (ms : Nat) (mt : A) (mu : A) (dd : A) (wi : A) (hi : A) (gt : A) (sp : A) (ta : A) (li : A) (sr : A) (co : A) (hb : aH) (n : Nat)  (a1 : Int32) (a2 : Int32) (a3 : Int32) (hF : F_X11_at a1 a2 a3 dd wi ≠ fno) : AM mX11_at 1 [.ref 31, .int a1, .int a2, .int a3] (HM mo mw mr ms mt mu dd wi hi gt sp ta li sr co hb) n 0 0 0 0 (P_X11_at mo mw mr ms mt mu dd wi hi gt sp ta li sr co hb n (F_X11_at a1 a2 a3 dd wi)) (fun _ _ _ => False) := by
  generalize hE : F_X11_at a1 a2 a3 dd wi = res at hF ⊢
  refine aw_of (by decide +kernel) rfl (Nat.le_of_ble_eq_true rfl) ?_
  unfold F_X11_at at hE
  refine aw_aload_n dX11_at_0 rfl ?_
  refine aw_getf (v := .ref 34) dX11_at_1 flX11_17_10 at_mod rfl ?_
  refine aw_sipush (v := 4096) dX11_at_4 (by decide) ?_
  refine aw_iload_n dX11_at_7 rfl ?_
  refine aw_imul dX11_at_8 ?_
  refine aw_aload_n dX11_at_9 rfl ?_
  refine aw_getf (v := .ref 35) dX11_at_10 flX11_21_10 at_mod rfl ?_
  refine aw_iload_n dX11_at_13 rfl ?_
  obtain ⟨g14, hE⟩ := fgd hE hF
  refine aw_iald (f := wi) dX11_at_14 at_mwide (vp_in_iff.mpr g14) ?_
  refine aw_iload_n dX11_at_15 rfl ?_
  refine aw_imul dX11_at_16 ?_
  refine aw_iadd dX11_at_17 ?_
  refine aw_iload_n dX11_at_18 rfl ?_
  refine aw_iadd dX11_at_19 ?_
  obtain ⟨g20, hE⟩ := fgd hE hF
  refine aw_iald (f := dd) dX11_at_20 at_mdots (vp_in_iff.mpr g20) ?_
  exact aw_iret dX11_at_21 rfl (Nat.zero_le _) (Nat.zero_le _) (Nat.zero_le _) (Nat.zero_le _) ⟨_, _, hE.symm, rfl, rfl, rfl⟩
def P_X11_colourOf (mo : MO) (mw : MW) (mr : MR) (ms : Nat) (mt : A) (mu : A) (dd : A) (wi : A) (hi : A) (gt : A) (sp : A) (ta : A) (li : A) (sr : A) (co : A) (hb : aH) (n : Nat) (res : Out Unit Int32) : Option Value → aH → Nat → Prop := fun r1 h2 n2 => ∃ (a : Int32) (s : Unit), res = fok a s ∧ r1 = some (.int a) ∧ h2 = HM mo mw mr ms mt mu dd wi hi gt sp ta li sr co hb ∧ n = n2
abbrev Q_X11_colourOf_2 (mo : MO) (mw : MW) (mr : MR) (ms : Nat) (mt : A) (mu : A) (dd : A) (wi : A) (hi : A) (gt : A) (sp : A) (ta : A) (li : A) (sr : A) (co : A) (hb : aH) (n : Nat) (k : Int32 → Int32 → Out Unit Int32) : Prop := ∀ (v1 : Int32) (v2 : Int32) (res : Out Unit Int32), k v1 v2 = res → res ≠ fno → AW (fun _ _ => True) mX11_colourOf (rmD 1 0 0) 0 0 (P_X11_colourOf mo mw mr ms mt mu dd wi hi gt sp ta li sr co hb n res) (fun _ _ _ => False) 0 0 2 [(0, .ref 31), (1, .int v1), (2, .int v2)] [] (HM mo mw mr ms mt mu dd wi hi gt sp ta li sr co hb) n
def F_X11_colourOf_2 (mw : MW) (co : A) (k2 : Int32 → Int32 → Out Unit Int32) (v1 : Int32) (v2 : Int32) : Out Unit Int32 := if (mw_cm mw) ≤ v2 then (fok ((-1) : Int32) ()) else (if inb v2 256 then (if (co (Int32.toNatClampNeg v2)) = v1 then (fok (v2 : Int32) ()) else (k2 v1 (v2 + 1))) else fno)
set_option maxHeartbeats 1000000 in
set_option maxRecDepth 100000 in
theorem b_X11_colourOf_2 (mo : MO) (mw : MW) (mr : MR) (ms : Nat) (mt : A) (mu : A) (dd : A) (wi : A) (hi : A) (gt : A) (sp : A) (ta : A) (li : A) (sr : A) (co : A) (hb : aH) (n : Nat)  (k2 : Int32 → Int32 → Out Unit Int32) (hk2 : Q_X11_colourOf_2 mo mw mr ms mt mu dd wi hi gt sp ta li sr co hb n k2) : Q_X11_colourOf_2 mo mw mr ms mt mu dd wi hi gt sp ta li sr co hb n (F_X11_colourOf_2 mw co k2) := by
  intro v1 v2 res hE hF
  unfold F_X11_colourOf_2 at hE
  refine aw_iload_n dX11_colourOf_2 rfl ?_
  refine aw_aload_n dX11_colourOf_3 rfl ?_
  refine aw_getf (v := .int (mw_cm mw)) dX11_colourOf_4 flX11_262_10 at_mod rfl ?_
  refine aw_icmp_ge (tgt := 28) dX11_colourOf_7 (by decide) (fun c7 => ?_) (fun c7 => ?_)
  · replace hE := fit hE c7
    refine aw_iconst (v := (-1)) dX11_colourOf_28 (by decide) ?_
    exact aw_iret dX11_colourOf_29 rfl (Nat.zero_le _) (Nat.zero_le _) (Nat.zero_le _) (Nat.zero_le _) ⟨_, _, hE.symm, rfl, rfl, rfl⟩
  · replace hE := fif hE c7
    refine aw_aload_n dX11_colourOf_10 rfl ?_
    refine aw_getf (v := .ref 42) dX11_colourOf_11 flX11_58_10 at_mod rfl ?_
    refine aw_iload_n dX11_colourOf_14 rfl ?_
    obtain ⟨g15, hE⟩ := fgd hE hF
    refine aw_iald (f := co) dX11_colourOf_15 at_mcols (vp_in_iff.mpr g15) ?_
    refine aw_iload_n dX11_colourOf_16 rfl ?_
    refine aw_icmp_ne (tgt := 22) dX11_colourOf_17 (by decide) (fun c17 => ?_) (fun c17 => ?_)
    · replace hE := fif hE c17
      refine aw_iinc (v := (v2 + 1)) (lv2 := [(2, _), (0, _), (1, _)]) dX11_colourOf_22 rfl (incE (by decide)) (by decide) rfl ?_
      refine aw_goto (tgt := 2) dX11_colourOf_25 (by decide) ?_
      exact aw_lv _ (List.forall_mem_cons.mpr ⟨rfl, (List.forall_mem_cons.mpr ⟨rfl, (List.forall_mem_cons.mpr ⟨rfl, fun _ h => absurd h List.not_mem_nil⟩)⟩)⟩) (hk2 v1 (v2 + 1) _ hE hF)
    · replace hE := fit hE c17
      refine aw_iload_n dX11_colourOf_20 rfl ?_
      exact aw_iret dX11_colourOf_21 rfl (Nat.zero_le _) (Nat.zero_le _) (Nat.zero_le _) (Nat.zero_le _) ⟨_, _, hE.symm, rfl, rfl, rfl⟩
def F_X11_colourOf (a1 : Int32) (mw : MW) (co : A) : Out Unit Int32 := lp (fun _ _ => fno) (F_X11_colourOf_2 mw co) FU a1 (0 : Int32)
set_option maxHeartbeats 1000000 in
set_option maxRecDepth 100000 in
theorem kF_X11_colourOf (mo : MO) (mw : MW) (mr : MR) (ms : Nat) (mt : A) (mu : A) (dd : A) (wi : A) (hi : A) (gt : A) (sp : A) (ta : A) (li : A) (sr : A) (co : A) (hb : aH) (n : Nat)  (a1 : Int32) (hF : F_X11_colourOf a1 mw co ≠ fno) : AM mX11_colourOf 1 [.ref 31, .int a1] (HM mo mw mr ms mt mu dd wi hi gt sp ta li sr co hb) n 0 0 0 0 (P_X11_colourOf mo mw mr ms mt mu dd wi hi gt sp ta li sr co hb n (F_X11_colourOf a1 mw co)) (fun _ _ _ => False) := by
  generalize hE : F_X11_colourOf a1 mw co = res at hF ⊢
  refine aw_of (by decide +kernel) rfl (Nat.le_of_ble_eq_true rfl) ?_
  unfold F_X11_colourOf at hE
  refine aw_iconst (v := 0) dX11_colourOf_0 (by decide) ?_
  refine aw_istore_n (lv2 := [(2, _), (0, _), (1, _)]) dX11_colourOf_1 (by decide) rfl ?_
  exact aw_lv _ (List.forall_mem_cons.mpr ⟨rfl, (List.forall_mem_cons.mpr ⟨rfl, (List.forall_mem_cons.mpr ⟨rfl, fun _ h => absurd h List.not_mem_nil⟩)⟩)⟩) (lp_ind (Q_X11_colourOf_2 mo mw mr ms mt mu dd wi hi gt sp ta li sr co hb n) (fun _ _ res hq hF => (hF hq.symm).elim) (fun k hk => b_X11_colourOf_2 mo mw mr ms mt mu dd wi hi gt sp ta li sr co hb n   k hk) FU a1 (0 : Int32) _ hE hF)
def P_X11_putLow (mo : MO) (mr : MR) (ms : Nat) (mt : A) (dd : A) (wi : A) (hi : A) (gt : A) (sp : A) (ta : A) (li : A) (sr : A) (co : A) (hb : aH) (n : Nat) (res : Out (MW × A) Unit) : Option Value → aH → Nat → Prop := fun r1 h2 n2 => ∃ (a : Unit) (s : (MW × A)), res = fok a s ∧ r1 = none ∧ h2 = HM mo s.1 mr ms mt s.2 dd wi hi gt sp ta li sr co hb ∧ n = n2
abbrev Q_X11_putLow_2 (mo : MO) (mr : MR) (ms : Nat) (mt : A) (dd : A) (wi : A) (hi : A) (gt : A) (sp : A) (ta : A) (li : A) (sr : A) (co : A) (hb : aH) (n : Nat) (k : Int32 → Int32 → Int32 → MW → A → Out (MW × A) Unit) : Prop := ∀ (v1 : Int32) (v2 : Int32) (v3 : Int32) (mw : MW) (mu : A) (res : Out (MW × A) Unit), k v1 v2 v3 mw mu = res → res ≠ fno → AW (fun _ _ => True) mX11_putLow (rmD 2 0 0) 0 0 (P_X11_putLow mo mr ms mt dd wi hi gt sp ta li sr co hb n res) (fun _ _ _ => False) 0 0 2 [(0, .ref 31), (1, .int v1), (2, .int v2), (3, .int v3)] [] (HM mo mw mr ms mt mu dd wi hi gt sp ta li sr co hb) n
def F_X11_putLow_2  (k2 : Int32 → Int32 → Int32 → MW → A → Out (MW × A) Unit) (v1 : Int32) (v2 : Int32) (v3 : Int32) (mw : MW) (mu : A) : Out (MW × A) Unit := if v2 ≤ v3 then (fok () (mw, mu)) else (fon (F_X11_put_ (v1 >>> ((8 * v3) &&& 31)) mw mu) (fun z14 s14 => k2 v1 v2 (v3 + 1) s14.1 s14.2) (fun _ _ => fno))
set_option maxHeartbeats 1000000 in
set_option maxRecDepth 100000 in
theorem b_X11_putLow_2 (mo : MO) (mr : MR) (ms : Nat) (mt : A) (dd : A) (wi : A) (hi : A) (gt : A) (sp : A) (ta : A) (li : A) (sr : A) (co : A) (hb : aH) (n : Nat)  (k2 : Int32 → Int32 → Int32 → MW → A → Out (MW × A) Unit) (hk2 : Q_X11_putLow_2 mo mr ms mt dd wi hi gt sp ta li sr co hb n k2) : Q_X11_putLow_2 mo mr ms mt dd wi hi gt sp ta li sr co hb n (F_X11_putLow_2 k2) := by
  intro v1 v2 v3 mw mu res hE hF
  unfold F_X11_putLow_2 at hE
  refine aw_iload_n dX11_putLow_2 rfl ?_
  refine aw_iload_n dX11_putLow_3 rfl ?_
  refine aw_icmp_ge (tgt := 23) dX11_putLow_4 (by decide) (fun c4 => ?_) (fun c4 => ?_)
  · replace hE := fit hE c4
    exact aw_vret dX11_putLow_23 rfl (Nat.zero_le _) (Nat.zero_le _) (Nat.zero_le _) (Nat.zero_le _) ⟨_, _, hE.symm, rfl, rfl, rfl⟩
  · replace hE := fif hE c4
    refine aw_aload_n dX11_putLow_7 rfl ?_
    refine aw_iload_n dX11_putLow_8 rfl ?_
    refine aw_bipush (v := 8) dX11_putLow_9 (by decide) ?_
    refine aw_iload_n dX11_putLow_11 rfl ?_
    refine aw_imul dX11_putLow_12 ?_
    refine aw_ishr dX11_putLow_13 ?_
    refine aw_callV dX11_putLow_14 at_mod cvX11_280 rfl (kF_X11_put_ mo mw mr ms mt mu dd wi hi gt sp ta li sr co hb _  (v1 >>> ((8 * v3) &&& 31)) (fon_ne hE hF)) rfl (Nat.le_of_ble_eq_true rfl) (by decide) (by decide) (by decide) (by decide) (fun _ _ _ hf => False.elim hf) (fun r14 h14 n14 hp14 => ?_)
    obtain ⟨z14, s14, e14, rfl, rfl, rfl⟩ := hp14
    replace hE := fon_ok e14 hE
    refine aw_iinc (v := (v3 + 1)) (lv2 := [(3, _), (0, _), (1, _), (2, _)]) dX11_putLow_17 rfl (incE (by decide)) (by decide) rfl ?_
    refine aw_goto (tgt := 2) dX11_putLow_20 (by decide) ?_
    exact aw_lv _ (List.forall_mem_cons.mpr ⟨rfl, (List.forall_mem_cons.mpr ⟨rfl, (List.forall_mem_cons.mpr ⟨rfl, (List.forall_mem_cons.mpr ⟨rfl, fun _ h => absurd h List.not_mem_nil⟩)⟩)⟩)⟩) (hk2 v1 v2 (v3 + 1) s14.1 s14.2 _ hE hF)
def F_X11_putLow (a1 : Int32) (a2 : Int32) (mw : MW) (mu : A) : Out (MW × A) Unit := lp (fun _ _ _ _ _ => fno) (F_X11_putLow_2 ) FU a1 a2 (0 : Int32) mw mu
set_option maxHeartbeats 1000000 in
set_option maxRecDepth 100000 in
theorem kF_X11_putLow (mo : MO) (mw : MW) (mr : MR) (ms : Nat) (mt : A) (mu : A) (dd : A) (wi : A) (hi : A) (gt : A) (sp : A) (ta : A) (li : A) (sr : A) (co : A) (hb : aH) (n : Nat)  (a1 : Int32) (a2 : Int32) (hF : F_X11_putLow a1 a2 mw mu ≠ fno) : AM mX11_putLow 2 [.ref 31, .int a1, .int a2] (HM mo mw mr ms mt mu dd wi hi gt sp ta li sr co hb) n 0 0 0 0 (P_X11_putLow mo mr ms mt dd wi hi gt sp ta li sr co hb n (F_X11_putLow a1 a2 mw mu)) (fun _ _ _ => False) := by
  generalize hE : F_X11_putLow a1 a2 mw mu = res at hF ⊢
  refine aw_of (by decide +kernel) rfl (Nat.le_of_ble_eq_true rfl) ?_
  unfold F_X11_putLow at hE
  refine aw_iconst (v := 0) dX11_putLow_0 (by decide) ?_
  refine aw_istore_n (lv2 := [(3, _), (0, _), (1, _), (2, _)]) dX11_putLow_1 (by decide) rfl ?_
  exact aw_lv _ (List.forall_mem_cons.mpr ⟨rfl, (List.forall_mem_cons.mpr ⟨rfl, (List.forall_mem_cons.mpr ⟨rfl, (List.forall_mem_cons.mpr ⟨rfl, fun _ h => absurd h List.not_mem_nil⟩)⟩)⟩)⟩) (lp_ind (Q_X11_putLow_2 mo mr ms mt dd wi hi gt sp ta li sr co hb n) (fun _ _ _ _ _ res hq hF => (hF hq.symm).elim) (fun k hk => b_X11_putLow_2 mo mr ms mt dd wi hi gt sp ta li sr co hb n   k hk) FU a1 a2 (0 : Int32) mw mu _ hE hF)
def P_X11_putBack (mo : MO) (mr : MR) (ms : Nat) (mt : A) (dd : A) (wi : A) (hi : A) (gt : A) (sp : A) (ta : A) (li : A) (sr : A) (co : A) (hb : aH) (n : Nat) (res : Out (MW × A) Unit) : Option Value → aH → Nat → Prop := fun r1 h2 n2 => ∃ (a : Unit) (s : (MW × A)), res = fok a s ∧ r1 = none ∧ h2 = HM mo s.1 mr ms mt s.2 dd wi hi gt sp ta li sr co hb ∧ n = n2
def F_X11_putBack (a1 : Int32) (a2 : Int32) (mw : MW) (mu : A) : Out (MW × A) Unit := fon (F_X11_put_ (a1 >>> ((8 : Int32) &&& 31)) mw mu) (fun z5 s5 => fon (F_X11_put_ (a1 >>> ((16 : Int32) &&& 31)) s5.1 s5.2) (fun z13 s13 => fon (F_X11_put_ (a1 >>> ((24 : Int32) &&& 31)) s13.1 s13.2) (fun z21 s21 => if a2 = 4 then (fon (F_X11_put_ a1 s21.1 s21.2) (fun z31 s31 => fok () (s31.1, s31.2)) (fun _ _ => fno)) else (fok () (s21.1, s21.2))) (fun _ _ => fno)) (fun _ _ => fno)) (fun _ _ => fno)
set_option maxHeartbeats 1000000 in
set_option maxRecDepth 100000 in
theorem kF_X11_putBack (mo : MO) (mw : MW) (mr : MR) (ms : Nat) (mt : A) (mu : A) (dd : A) (wi : A) (hi : A) (gt : A) (sp : A) (ta : A) (li : A) (sr : A) (co : A) (hb : aH) (n : Nat)  (a1 : Int32) (a2 : Int32) (hF : F_X11_putBack a1 a2 mw mu ≠ fno) : AM mX11_putBack 2 [.ref 31, .int a1, .int a2] (HM mo mw mr ms mt mu dd wi hi gt sp ta li sr co hb) n 0 0 0 0 (P_X11_putBack mo mr ms mt dd wi hi gt sp ta li sr co hb n (F_X11_putBack a1 a2 mw mu)) (fun _ _ _ => False) := by
  generalize hE : F_X11_putBack a1 a2 mw mu = res at hF ⊢
  refine aw_of (by decide +kernel) rfl (Nat.le_of_ble_eq_true rfl) ?_
  unfold F_X11_putBack at hE
  refine aw_aload_n dX11_putBack_0 rfl ?_
  refine aw_iload_n dX11_putBack_1 rfl ?_
  refine aw_bipush (v := 8) dX11_putBack_2 (by decide) ?_
  refine aw_ishr dX11_putBack_4 ?_
  refine aw_callV dX11_putBack_5 at_mod cvX11_280 rfl (kF_X11_put_ mo mw mr ms mt mu dd wi hi gt sp ta li sr co hb _  (a1 >>> ((8 : Int32) &&& 31)) (fon_ne hE hF)) rfl (Nat.le_of_ble_eq_true rfl) (by decide) (by decide) (by decide) (by decide) (fun _ _ _ hf => False.elim hf) (fun r5 h5 n5 hp5 => ?_)
  obtain ⟨z5, s5, e5, rfl, rfl, rfl⟩ := hp5
  replace hE := fon_ok e5 hE
  refine aw_aload_n dX11_putBack_8 rfl ?_
  refine aw_iload_n dX11_putBack_9 rfl ?_
  refine aw_bipush (v := 16) dX11_putBack_10 (by decide) ?_
  refine aw_ishr dX11_putBack_12 ?_
  refine aw_callV dX11_putBack_13 at_mod cvX11_280 rfl (kF_X11_put_ mo s5.1 mr ms mt s5.2 dd wi hi gt sp ta li sr co hb _  (a1 >>> ((16 : Int32) &&& 31)) (fon_ne hE hF)) rfl (Nat.le_of_ble_eq_true rfl) (by decide) (by decide) (by decide) (by decide) (fun _ _ _ hf => False.elim hf) (fun r13 h13 n13 hp13 => ?_)
  obtain ⟨z13, s13, e13, rfl, rfl, rfl⟩ := hp13
  replace hE := fon_ok e13 hE
  refine aw_aload_n dX11_putBack_16 rfl ?_
  refine aw_iload_n dX11_putBack_17 rfl ?_
  refine aw_bipush (v := 24) dX11_putBack_18 (by decide) ?_
  refine aw_ishr dX11_putBack_20 ?_
  refine aw_callV dX11_putBack_21 at_mod cvX11_280 rfl (kF_X11_put_ mo s13.1 mr ms mt s13.2 dd wi hi gt sp ta li sr co hb _  (a1 >>> ((24 : Int32) &&& 31)) (fon_ne hE hF)) rfl (Nat.le_of_ble_eq_true rfl) (by decide) (by decide) (by decide) (by decide) (fun _ _ _ hf => False.elim hf) (fun r21 h21 n21 hp21 => ?_)
  obtain ⟨z21, s21, e21, rfl, rfl, rfl⟩ := hp21
  replace hE := fon_ok e21 hE
  refine aw_iload_n dX11_putBack_24 rfl ?_
  refine aw_iconst (v := 4) dX11_putBack_25 (by decide) ?_
  refine aw_icmp_ne (tgt := 34) dX11_putBack_26 (by decide) (fun c26 => ?_) (fun c26 => ?_)
  · replace hE := fif hE c26
    exact aw_vret dX11_putBack_34 rfl (Nat.zero_le _) (Nat.zero_le _) (Nat.zero_le _) (Nat.zero_le _) ⟨_, _, hE.symm, rfl, rfl, rfl⟩
  · replace hE := fit hE c26
    refine aw_aload_n dX11_putBack_29 rfl ?_
    refine aw_iload_n dX11_putBack_30 rfl ?_
    refine aw_callV dX11_putBack_31 at_mod cvX11_280 rfl (kF_X11_put_ mo s21.1 mr ms mt s21.2 dd wi hi gt sp ta li sr co hb _  a1 (fon_ne hE hF)) rfl (Nat.le_of_ble_eq_true rfl) (by decide) (by decide) (by decide) (by decide) (fun _ _ _ hf => False.elim hf) (fun r31 h31 n31 hp31 => ?_)
    obtain ⟨z31, s31, e31, rfl, rfl, rfl⟩ := hp31
    replace hE := fon_ok e31 hE
    exact aw_vret dX11_putBack_34 rfl (Nat.zero_le _) (Nat.zero_le _) (Nat.zero_le _) (Nat.zero_le _) ⟨_, _, hE.symm, rfl, rfl, rfl⟩
def P_X11_mend (mo : MO) (mw : MW) (mr : MR) (ms : Nat) (mt : A) (dd : A) (wi : A) (hi : A) (gt : A) (sp : A) (ta : A) (li : A) (sr : A) (co : A) (hb : aH) (n : Nat) (res : Out A Unit) : Option Value → aH → Nat → Prop := fun r1 h2 n2 => ∃ (a : Unit) (s : A), res = fok a s ∧ r1 = none ∧ h2 = HM mo mw mr ms mt s dd wi hi gt sp ta li sr co hb ∧ n = n2
abbrev Q_X11_mend_2 (mo : MO) (mw : MW) (mr : MR) (ms : Nat) (mt : A) (dd : A) (wi : A) (hi : A) (gt : A) (sp : A) (ta : A) (li : A) (sr : A) (co : A) (hb : aH) (n : Nat) (k : Int32 → Int32 → Int32 → A → Out A Unit) : Prop := ∀ (v1 : Int32) (v2 : Int32) (v3 : Int32) (mu : A) (res : Out A Unit), k v1 v2 v3 mu = res → res ≠ fno → AW (fun _ _ => True) mX11_mend (rmD 1 0 0) 0 0 (P_X11_mend mo mw mr ms mt dd wi hi gt sp ta li sr co hb n res) (fun _ _ _ => False) 0 0 2 [(0, .ref 31), (1, .int v1), (2, .int v2), (3, .int v3)] [] (HM mo mw mr ms mt mu dd wi hi gt sp ta li sr co hb) n
def F_X11_mend_2  (k2 : Int32 → Int32 → Int32 → A → Out A Unit) (v1 : Int32) (v2 : Int32) (v3 : Int32) (mu : A) : Out A Unit := if 4 ≤ v3 then (fok () mu) else (if inb (v1 + v3) 65536 then (k2 v1 v2 (v3 + 1) (upd mu (Int32.toNatClampNeg (v1 + v3)) (vp_nar .byte ((v2 >>> ((8 * v3) &&& 31))).toInt8.toInt32))) else fno)
set_option maxHeartbeats 1000000 in
set_option maxRecDepth 100000 in
theorem b_X11_mend_2 (mo : MO) (mw : MW) (mr : MR) (ms : Nat) (mt : A) (dd : A) (wi : A) (hi : A) (gt : A) (sp : A) (ta : A) (li : A) (sr : A) (co : A) (hb : aH) (n : Nat)  (k2 : Int32 → Int32 → Int32 → A → Out A Unit) (hk2 : Q_X11_mend_2 mo mw mr ms mt dd wi hi gt sp ta li sr co hb n k2) : Q_X11_mend_2 mo mw mr ms mt dd wi hi gt sp ta li sr co hb n (F_X11_mend_2 k2) := by
  intro v1 v2 v3 mu res hE hF
  unfold F_X11_mend_2 at hE
  refine aw_iload_n dX11_mend_2 rfl ?_
  refine aw_iconst (v := 4) dX11_mend_3 (by decide) ?_
  refine aw_icmp_ge (tgt := 28) dX11_mend_4 (by decide) (fun c4 => ?_) (fun c4 => ?_)
  · replace hE := fit hE c4
    exact aw_vret dX11_mend_28 rfl (Nat.zero_le _) (Nat.zero_le _) (Nat.zero_le _) (Nat.zero_le _) ⟨_, _, hE.symm, rfl, rfl, rfl⟩
  · replace hE := fif hE c4
    refine aw_aload_n dX11_mend_7 rfl ?_
    refine aw_getf (v := .ref 33) dX11_mend_8 flX11_14_10 at_mod rfl ?_
    refine aw_iload_n dX11_mend_11 rfl ?_
    refine aw_iload_n dX11_mend_12 rfl ?_
    refine aw_iadd dX11_mend_13 ?_
    refine aw_iload_n dX11_mend_14 rfl ?_
    refine aw_bipush (v := 8) dX11_mend_15 (by decide) ?_
    refine aw_iload_n dX11_mend_17 rfl ?_
    refine aw_imul dX11_mend_18 ?_
    refine aw_ishr dX11_mend_19 ?_
    refine aw_i2b dX11_mend_20 ?_
    obtain ⟨g21, hE⟩ := fgd hE hF
    refine aw_bast (f := mu) dX11_mend_21 at_mout (vp_in_iff.mpr g21) ?_
    refine aw_eqh (h2 := HM mo mw mr ms mt (upd mu (Int32.toNatClampNeg (v1 + v3)) (vp_nar .byte ((v2 >>> ((8 * v3) &&& 31))).toInt8.toInt32)) dd wi hi gt sp ta li sr co hb) up_mout ?_
    refine aw_iinc (v := (v3 + 1)) (lv2 := [(3, _), (0, _), (1, _), (2, _)]) dX11_mend_22 rfl (incE (by decide)) (by decide) rfl ?_
    refine aw_goto (tgt := 2) dX11_mend_25 (by decide) ?_
    exact aw_lv _ (List.forall_mem_cons.mpr ⟨rfl, (List.forall_mem_cons.mpr ⟨rfl, (List.forall_mem_cons.mpr ⟨rfl, (List.forall_mem_cons.mpr ⟨rfl, fun _ h => absurd h List.not_mem_nil⟩)⟩)⟩)⟩) (hk2 v1 v2 (v3 + 1) (upd mu (Int32.toNatClampNeg (v1 + v3)) (vp_nar .byte ((v2 >>> ((8 * v3) &&& 31))).toInt8.toInt32)) _ hE hF)
def F_X11_mend (a1 : Int32) (a2 : Int32) (mu : A) : Out A Unit := lp (fun _ _ _ _ => fno) (F_X11_mend_2 ) FU a1 a2 (0 : Int32) mu
set_option maxHeartbeats 1000000 in
set_option maxRecDepth 100000 in
theorem kF_X11_mend (mo : MO) (mw : MW) (mr : MR) (ms : Nat) (mt : A) (mu : A) (dd : A) (wi : A) (hi : A) (gt : A) (sp : A) (ta : A) (li : A) (sr : A) (co : A) (hb : aH) (n : Nat)  (a1 : Int32) (a2 : Int32) (hF : F_X11_mend a1 a2 mu ≠ fno) : AM mX11_mend 1 [.ref 31, .int a1, .int a2] (HM mo mw mr ms mt mu dd wi hi gt sp ta li sr co hb) n 0 0 0 0 (P_X11_mend mo mw mr ms mt dd wi hi gt sp ta li sr co hb n (F_X11_mend a1 a2 mu)) (fun _ _ _ => False) := by
  generalize hE : F_X11_mend a1 a2 mu = res at hF ⊢
  refine aw_of (by decide +kernel) rfl (Nat.le_of_ble_eq_true rfl) ?_
  unfold F_X11_mend at hE
  refine aw_iconst (v := 0) dX11_mend_0 (by decide) ?_
  refine aw_istore_n (lv2 := [(3, _), (0, _), (1, _), (2, _)]) dX11_mend_1 (by decide) rfl ?_
  exact aw_lv _ (List.forall_mem_cons.mpr ⟨rfl, (List.forall_mem_cons.mpr ⟨rfl, (List.forall_mem_cons.mpr ⟨rfl, (List.forall_mem_cons.mpr ⟨rfl, fun _ h => absurd h List.not_mem_nil⟩)⟩)⟩)⟩) (lp_ind (Q_X11_mend_2 mo mw mr ms mt dd wi hi gt sp ta li sr co hb n) (fun _ _ _ _ res hq hF => (hF hq.symm).elim) (fun k hk => b_X11_mend_2 mo mw mr ms mt dd wi hi gt sp ta li sr co hb n   k hk) FU a1 a2 (0 : Int32) mu _ hE hF)
def P_X11_isLike (mo : MO) (mw : MW) (mr : MR) (ms : Nat) (mt : A) (mu : A) (dd : A) (wi : A) (hi : A) (gt : A) (sp : A) (ta : A) (li : A) (sr : A) (co : A) (hb : aH) (n : Nat) (res : Out Unit Int32) : Option Value → aH → Nat → Prop := fun r1 h2 n2 => ∃ (a : Int32) (s : Unit), res = fok a s ∧ r1 = some (.int a) ∧ h2 = HM mo mw mr ms mt mu dd wi hi gt sp ta li sr co hb ∧ n = n2
abbrev Q_X11_isLike_35 (mo : MO) (mw : MW) (mr : MR) (ms : Nat) (mt : A) (mu : A) (dd : A) (wi : A) (hi : A) (gt : A) (sp : A) (ta : A) (li : A) (sr : A) (co : A) (hb : aH) (n : Nat) (k : Out Unit Int32) : Prop := ∀  (res : Out Unit Int32), k  = res → res ≠ fno → AW (fun _ _ => True) mX11_isLike (rmD 2 0 0) 0 0 (P_X11_isLike mo mw mr ms mt mu dd wi hi gt sp ta li sr co hb n res) (fun _ _ _ => False) 0 0 35 [] [] (HM mo mw mr ms mt mu dd wi hi gt sp ta li sr co hb) n
def F_X11_isLike_35 (dd : A) (wi : A)   : Out Unit Int32 := fok (0 : Int32) ()
set_option maxHeartbeats 1000000 in
set_option maxRecDepth 100000 in
theorem b_X11_isLike_35 (mo : MO) (mw : MW) (mr : MR) (ms : Nat) (mt : A) (mu : A) (dd : A) (wi : A) (hi : A) (gt : A) (sp : A) (ta : A) (li : A) (sr : A) (co : A) (hb : aH) (n : Nat)   : Q_X11_isLike_35 mo mw mr ms mt mu dd wi hi gt sp ta li sr co hb n (F_X11_isLike_35 dd wi) := by
  intro res hE hF
  unfold F_X11_isLike_35 at hE
  refine aw_iconst (v := 0) dX11_isLike_35 (by decide) ?_
  exact aw_zret dX11_isLike_36 rfl (narB (by decide)) (Nat.zero_le _) (Nat.zero_le _) (Nat.zero_le _) (Nat.zero_le _) ⟨_, _, hE.symm, rfl, rfl, rfl⟩
def F_X11_isLike (a1 : Int32) (a2 : Int32) (a3 : Int32) (dd : A) (wi : A) : Out Unit Int32 := if inb a1 4 then (if (wi (Int32.toNatClampNeg a1)) ≤ (a2 + 1) then (F_X11_isLike_35 dd wi ) else (fon (F_X11_at a1 (a2 + 1) a3 dd wi) (fun z18 s18 => fon (F_X11_at a1 a2 a3 dd wi) (fun z25 s25 => if z18 = z25 then (fok (1 : Int32) ()) else (F_X11_isLike_35 dd wi )) (fun _ _ => fno)) (fun _ _ => fno))) else fno
set_option maxHeartbeats 1000000 in
set_option maxRecDepth 100000 in
theorem kF_X11_isLike (mo : MO) (mw : MW) (mr : MR) (ms : Nat) (mt : A) (mu : A) (dd : A) (wi : A) (hi : A) (gt : A) (sp : A) (ta : A) (li : A) (sr : A) (co : A) (hb : aH) (n : Nat)  (a1 : Int32) (a2 : Int32) (a3 : Int32) (hF : F_X11_isLike a1 a2 a3 dd wi ≠ fno) : AM mX11_isLike 2 [.ref 31, .int a1, .int a2, .int a3] (HM mo mw mr ms mt mu dd wi hi gt sp ta li sr co hb) n 0 0 0 0 (P_X11_isLike mo mw mr ms mt mu dd wi hi gt sp ta li sr co hb n (F_X11_isLike a1 a2 a3 dd wi)) (fun _ _ _ => False) := by
  generalize hE : F_X11_isLike a1 a2 a3 dd wi = res at hF ⊢
  refine aw_of (by decide +kernel) rfl (Nat.le_of_ble_eq_true rfl) ?_
  unfold F_X11_isLike at hE
  refine aw_iload_n dX11_isLike_0 rfl ?_
  refine aw_iconst (v := 1) dX11_isLike_1 (by decide) ?_
  refine aw_iadd dX11_isLike_2 ?_
  refine aw_aload_n dX11_isLike_3 rfl ?_
  refine aw_getf (v := .ref 35) dX11_isLike_4 flX11_21_10 at_mod rfl ?_
  refine aw_iload_n dX11_isLike_7 rfl ?_
  obtain ⟨g8, hE⟩ := fgd hE hF
  refine aw_iald (f := wi) dX11_isLike_8 at_mwide (vp_in_iff.mpr g8) ?_
  refine aw_icmp_ge (tgt := 35) dX11_isLike_9 (by decide) (fun c9 => ?_) (fun c9 => ?_)
  · replace hE := fit hE c9
    exact aw_lv _ (fun _ h => absurd h List.not_mem_nil) (b_X11_isLike_35 mo mw mr ms mt mu dd wi hi gt sp ta li sr co hb n    _ hE hF)
  · replace hE := fif hE c9
    refine aw_aload_n dX11_isLike_12 rfl ?_
    refine aw_iload_n dX11_isLike_13 rfl ?_
    refine aw_iload_n dX11_isLike_14 rfl ?_
    refine aw_iconst (v := 1) dX11_isLike_15 (by decide) ?_
    refine aw_iadd dX11_isLike_16 ?_
    refine aw_iload_n dX11_isLike_17 rfl ?_
    refine aw_callV dX11_isLike_18 at_mod cvX11_291 rfl (kF_X11_at mo mw mr ms mt mu dd wi hi gt sp ta li sr co hb _  a1 (a2 + 1) a3 (fon_ne hE hF)) rfl (Nat.le_of_ble_eq_true rfl) (by decide) (by decide) (by decide) (by decide) (fun _ _ _ hf => False.elim hf) (fun r18 h18 n18 hp18 => ?_)
    obtain ⟨z18, s18, e18, rfl, rfl, rfl⟩ := hp18
    replace hE := fon_ok e18 hE
    refine aw_aload_n dX11_isLike_21 rfl ?_
    refine aw_iload_n dX11_isLike_22 rfl ?_
    refine aw_iload_n dX11_isLike_23 rfl ?_
    refine aw_iload_n dX11_isLike_24 rfl ?_
    refine aw_callV dX11_isLike_25 at_mod cvX11_291 rfl (kF_X11_at mo mw mr ms mt mu dd wi hi gt sp ta li sr co hb _  a1 a2 a3 (fon_ne hE hF)) rfl (Nat.le_of_ble_eq_true rfl) (by decide) (by decide) (by decide) (by decide) (fun _ _ _ hf => False.elim hf) (fun r25 h25 n25 hp25 => ?_)
    obtain ⟨z25, s25, e25, rfl, rfl, rfl⟩ := hp25
    replace hE := fon_ok e25 hE
    refine aw_icmp_ne (tgt := 35) dX11_isLike_28 (by decide) (fun c28 => ?_) (fun c28 => ?_)
    · replace hE := fif hE c28
      exact aw_lv _ (fun _ h => absurd h List.not_mem_nil) (b_X11_isLike_35 mo mw mr ms mt mu dd wi hi gt sp ta li sr co hb n    _ hE hF)
    · replace hE := fit hE c28
      refine aw_iconst (v := 1) dX11_isLike_31 (by decide) ?_
      refine aw_goto (tgt := 36) dX11_isLike_32 (by decide) ?_
      exact aw_zret dX11_isLike_36 rfl (narB (by decide)) (Nat.zero_le _) (Nat.zero_le _) (Nat.zero_le _) (Nat.zero_le _) ⟨_, _, hE.symm, rfl, rfl, rfl⟩
def P_X11_sample (mo : MO) (mw : MW) (mr : MR) (ms : Nat) (mt : A) (mu : A) (dd : A) (wi : A) (hi : A) (gt : A) (sp : A) (ta : A) (li : A) (sr : A) (co : A) (hb : aH) (n : Nat) (res : Out Unit Int32) : Option Value → aH → Nat → Prop := fun r1 h2 n2 => ∃ (a : Int32) (s : Unit), res = fok a s ∧ r1 = some (.int a) ∧ h2 = HM mo mw mr ms mt mu dd wi hi gt sp ta li sr co hb ∧ n = n2
def F_X11_sample (a1 : Int32) (a2 : Int32) (a3 : Int32) (a4 : Int32) (a5 : Int32) (mw : MW) (dd : A) (wi : A) (co : A) : Out Unit Int32 := if inb a1 4 then (if a2 < (wi (Int32.toNatClampNeg a1)) then (fon (F_X11_at a1 a2 a3 dd wi) (fun z16 s16 => if a5 = 1 then (fon (F_X11_colourOf z16 mw co) (fun z30 s30 => fok (z30 : Int32) ()) (fun _ _ => fno)) else (fok (((z16 >>> ((24 - (8 * a4)) &&& 31)) &&& 255) : Int32) ())) (fun _ _ => fno)) else (fok (0 : Int32) ())) else fno
set_option maxHeartbeats 1000000 in
set_option maxRecDepth 100000 in
theorem kF_X11_sample (mo : MO) (mw : MW) (mr : MR) (ms : Nat) (mt : A) (mu : A) (dd : A) (wi : A) (hi : A) (gt : A) (sp : A) (ta : A) (li : A) (sr : A) (co : A) (hb : aH) (n : Nat)  (a1 : Int32) (a2 : Int32) (a3 : Int32) (a4 : Int32) (a5 : Int32) (hF : F_X11_sample a1 a2 a3 a4 a5 mw dd wi co ≠ fno) : AM mX11_sample 2 [.ref 31, .int a1, .int a2, .int a3, .int a4, .int a5] (HM mo mw mr ms mt mu dd wi hi gt sp ta li sr co hb) n 0 0 0 0 (P_X11_sample mo mw mr ms mt mu dd wi hi gt sp ta li sr co hb n (F_X11_sample a1 a2 a3 a4 a5 mw dd wi co)) (fun _ _ _ => False) := by
  generalize hE : F_X11_sample a1 a2 a3 a4 a5 mw dd wi co = res at hF ⊢
  refine aw_of (by decide +kernel) rfl (Nat.le_of_ble_eq_true rfl) ?_
  unfold F_X11_sample at hE
  refine aw_iload_n dX11_sample_0 rfl ?_
  refine aw_aload_n dX11_sample_1 rfl ?_
  refine aw_getf (v := .ref 35) dX11_sample_2 flX11_21_10 at_mod rfl ?_
  refine aw_iload_n dX11_sample_5 rfl ?_
  obtain ⟨g6, hE⟩ := fgd hE hF
  refine aw_iald (f := wi) dX11_sample_6 at_mwide (vp_in_iff.mpr g6) ?_
  refine aw_icmp_lt (tgt := 12) dX11_sample_7 (by decide) (fun c7 => ?_) (fun c7 => ?_)
  · replace hE := fit hE c7
    refine aw_aload_n dX11_sample_12 rfl ?_
    refine aw_iload_n dX11_sample_13 rfl ?_
    refine aw_iload_n dX11_sample_14 rfl ?_
    refine aw_iload_n dX11_sample_15 rfl ?_
    refine aw_callV dX11_sample_16 at_mod cvX11_291 rfl (kF_X11_at mo mw mr ms mt mu dd wi hi gt sp ta li sr co hb _  a1 a2 a3 (fon_ne hE hF)) rfl (Nat.le_of_ble_eq_true rfl) (by decide) (by decide) (by decide) (by decide) (fun _ _ _ hf => False.elim hf) (fun r16 h16 n16 hp16 => ?_)
    obtain ⟨z16, s16, e16, rfl, rfl, rfl⟩ := hp16
    replace hE := fon_ok e16 hE
    refine aw_istore (lv2 := [(6, _), (0, _), (1, _), (2, _), (3, _), (4, _), (5, _)]) dX11_sample_19 (by decide) rfl ?_
    refine aw_iload dX11_sample_21 rfl ?_
    refine aw_iconst (v := 1) dX11_sample_23 (by decide) ?_
    refine aw_icmp_ne (tgt := 36) dX11_sample_24 (by decide) (fun c24 => ?_) (fun c24 => ?_)
    · replace hE := fif hE c24
      refine aw_iload dX11_sample_36 rfl ?_
      refine aw_bipush (v := 24) dX11_sample_38 (by decide) ?_
      refine aw_bipush (v := 8) dX11_sample_40 (by decide) ?_
      refine aw_iload dX11_sample_42 rfl ?_
      refine aw_imul dX11_sample_44 ?_
      refine aw_isub dX11_sample_45 ?_
      refine aw_ishr dX11_sample_46 ?_
      refine aw_sipush (v := 255) dX11_sample_47 (by decide) ?_
      refine aw_iand dX11_sample_50 ?_
      exact aw_iret dX11_sample_51 rfl (Nat.zero_le _) (Nat.zero_le _) (Nat.zero_le _) (Nat.zero_le _) ⟨_, _, hE.symm, rfl, rfl, rfl⟩
    · replace hE := fit hE c24
      refine aw_aload_n dX11_sample_27 rfl ?_
      refine aw_iload dX11_sample_28 rfl ?_
      refine aw_callV dX11_sample_30 at_mod cvX11_265 rfl (kF_X11_colourOf mo mw mr ms mt mu dd wi hi gt sp ta li sr co hb _  z16 (fon_ne hE hF)) rfl (Nat.le_of_ble_eq_true rfl) (by decide) (by decide) (by decide) (by decide) (fun _ _ _ hf => False.elim hf) (fun r30 h30 n30 hp30 => ?_)
      obtain ⟨z30, s30, e30, rfl, rfl, rfl⟩ := hp30
      replace hE := fon_ok e30 hE
      refine aw_goto (tgt := 51) dX11_sample_33 (by decide) ?_
      exact aw_iret dX11_sample_51 rfl (Nat.zero_le _) (Nat.zero_le _) (Nat.zero_le _) (Nat.zero_le _) ⟨_, _, hE.symm, rfl, rfl, rfl⟩
  · replace hE := fif hE c7
    refine aw_iconst (v := 0) dX11_sample_10 (by decide) ?_
    exact aw_iret dX11_sample_11 rfl (Nat.zero_le _) (Nat.zero_le _) (Nat.zero_le _) (Nat.zero_le _) ⟨_, _, hE.symm, rfl, rfl, rfl⟩
