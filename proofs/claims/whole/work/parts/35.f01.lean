def P_X11_readTarga (mo : MO) (mw : MW) (ms : Nat) (mt : A) (mu : A) (dd : A) (wi : A) (hi : A) (sp : A) (li : A) (sr : A) (co : A) (hb : aH) (n : Nat) (res : Out (MR × A × A) Int32) : Option Value → aH → Nat → Prop := fun r1 h2 n2 => ∃ (a : Int32) (s : (MR × A × A)), res = fok a s ∧ r1 = some (.int a) ∧ h2 = HM mo mw s.1 ms mt mu dd wi hi s.2.1 sp s.2.2 li sr co hb ∧ n = n2
abbrev Q_X11_readTarga_81 (mo : MO) (mw : MW) (ms : Nat) (mt : A) (mu : A) (dd : A) (wi : A) (hi : A) (sp : A) (li : A) (sr : A) (co : A) (hb : aH) (n : Nat) (k : Int32 → Int32 → Int32 → MR → A → A → Out (MR × A × A) Int32) : Prop := ∀ (v1 : Int32) (v2 : Int32) (v3 : Int32) (mr : MR) (gt : A) (ta : A) (res : Out (MR × A × A) Int32), k v1 v2 v3 mr gt ta = res → res ≠ fno → AW (fun _ _ => True) mX11_readTarga (rmD 6 0 0) 0 0 (P_X11_readTarga mo mw ms mt mu dd wi hi sp li sr co hb n res) (fun _ _ _ => False) 0 0 81 [(0, .ref 31), (1, .int v1), (2, .int v2), (3, .int v3)] [] (HM mo mw mr ms mt mu dd wi hi gt sp ta li sr co hb) n
abbrev Q_X11_readTarga_86 (mo : MO) (mw : MW) (ms : Nat) (mt : A) (mu : A) (dd : A) (wi : A) (hi : A) (sp : A) (li : A) (sr : A) (co : A) (hb : aH) (n : Nat) (k : Int32 → Int32 → Int32 → Int32 → MR → A → A → Out (MR × A × A) Int32) : Prop := ∀ (v1 : Int32) (v2 : Int32) (v3 : Int32) (t0 : Int32) (mr : MR) (gt : A) (ta : A) (res : Out (MR × A × A) Int32), k v1 v2 v3 t0 mr gt ta = res → res ≠ fno → AW (fun _ _ => True) mX11_readTarga (rmD 6 0 0) 0 0 (P_X11_readTarga mo mw ms mt mu dd wi hi sp li sr co hb n res) (fun _ _ _ => False) 0 0 86 [(0, .ref 31), (1, .int v1), (2, .int v2), (3, .int v3)] [.int t0] (HM mo mw mr ms mt mu dd wi hi gt sp ta li sr co hb) n
abbrev Q_X11_readTarga_99 (mo : MO) (mw : MW) (ms : Nat) (mt : A) (mu : A) (dd : A) (wi : A) (hi : A) (sp : A) (li : A) (sr : A) (co : A) (hb : aH) (n : Nat) (k : Int32 → Int32 → Int32 → Int32 → MR → A → A → Out (MR × A × A) Int32) : Prop := ∀ (v1 : Int32) (v2 : Int32) (v3 : Int32) (v4 : Int32) (mr : MR) (gt : A) (ta : A) (res : Out (MR × A × A) Int32), k v1 v2 v3 v4 mr gt ta = res → res ≠ fno → AW (fun _ _ => True) mX11_readTarga (rmD 6 0 0) 0 0 (P_X11_readTarga mo mw ms mt mu dd wi hi sp li sr co hb n res) (fun _ _ _ => False) 0 0 99 [(0, .ref 31), (1, .int v1), (2, .int v2), (3, .int v3), (4, .int v4)] [] (HM mo mw mr ms mt mu dd wi hi gt sp ta li sr co hb) n
abbrev Q_X11_readTarga_104 (mo : MO) (mw : MW) (ms : Nat) (mt : A) (mu : A) (dd : A) (wi : A) (hi : A) (sp : A) (li : A) (sr : A) (co : A) (hb : aH) (n : Nat) (k : Int32 → Int32 → Int32 → Int32 → Int32 → MR → A → A → Out (MR × A × A) Int32) : Prop := ∀ (v1 : Int32) (v2 : Int32) (v3 : Int32) (v4 : Int32) (t0 : Int32) (mr : MR) (gt : A) (ta : A) (res : Out (MR × A × A) Int32), k v1 v2 v3 v4 t0 mr gt ta = res → res ≠ fno → AW (fun _ _ => True) mX11_readTarga (rmD 6 0 0) 0 0 (P_X11_readTarga mo mw ms mt mu dd wi hi sp li sr co hb n res) (fun _ _ _ => False) 0 0 104 [(0, .ref 31), (1, .int v1), (2, .int v2), (3, .int v3), (4, .int v4)] [.int t0] (HM mo mw mr ms mt mu dd wi hi gt sp ta li sr co hb) n
abbrev Q_X11_readTarga_127 (mo : MO) (mw : MW) (ms : Nat) (mt : A) (mu : A) (dd : A) (wi : A) (hi : A) (sp : A) (li : A) (sr : A) (co : A) (hb : aH) (n : Nat) (k : Int32 → Int32 → Int32 → Int32 → Int32 → MR → A → A → Out (MR × A × A) Int32) : Prop := ∀ (v1 : Int32) (v2 : Int32) (v3 : Int32) (v4 : Int32) (v5 : Int32) (mr : MR) (gt : A) (ta : A) (res : Out (MR × A × A) Int32), k v1 v2 v3 v4 v5 mr gt ta = res → res ≠ fno → AW (fun _ _ => True) mX11_readTarga (rmD 6 0 0) 0 0 (P_X11_readTarga mo mw ms mt mu dd wi hi sp li sr co hb n res) (fun _ _ _ => False) 0 0 127 [(0, .ref 31), (1, .int v1), (2, .int v2), (3, .int v3), (4, .int v4), (5, .int v5)] [] (HM mo mw mr ms mt mu dd wi hi gt sp ta li sr co hb) n
abbrev Q_X11_readTarga_136 (mo : MO) (mw : MW) (ms : Nat) (mt : A) (mu : A) (dd : A) (wi : A) (hi : A) (sp : A) (li : A) (sr : A) (co : A) (hb : aH) (n : Nat) (k : MR → A → A → Out (MR × A × A) Int32) : Prop := ∀ (mr : MR) (gt : A) (ta : A) (res : Out (MR × A × A) Int32), k mr gt ta = res → res ≠ fno → AW (fun _ _ => True) mX11_readTarga (rmD 6 0 0) 0 0 (P_X11_readTarga mo mw ms mt mu dd wi hi sp li sr co hb n res) (fun _ _ _ => False) 0 0 136 [(0, .ref 31)] [] (HM mo mw mr ms mt mu dd wi hi gt sp ta li sr co hb) n
abbrev Q_X11_readTarga_143 (mo : MO) (mw : MW) (ms : Nat) (mt : A) (mu : A) (dd : A) (wi : A) (hi : A) (sp : A) (li : A) (sr : A) (co : A) (hb : aH) (n : Nat) (k : Int32 → Int32 → Int32 → Int32 → Int32 → MR → A → A → Out (MR × A × A) Int32) : Prop := ∀ (v1 : Int32) (v2 : Int32) (v3 : Int32) (v4 : Int32) (v5 : Int32) (mr : MR) (gt : A) (ta : A) (res : Out (MR × A × A) Int32), k v1 v2 v3 v4 v5 mr gt ta = res → res ≠ fno → AW (fun _ _ => True) mX11_readTarga (rmD 6 0 0) 0 0 (P_X11_readTarga mo mw ms mt mu dd wi hi sp li sr co hb n res) (fun _ _ _ => False) 0 0 143 [(0, .ref 31), (1, .int v1), (2, .int v2), (3, .int v3), (4, .int v4), (5, .int v5)] [] (HM mo mw mr ms mt mu dd wi hi gt sp ta li sr co hb) n
abbrev Q_X11_readTarga_182 (mo : MO) (mw : MW) (ms : Nat) (mt : A) (mu : A) (dd : A) (wi : A) (hi : A) (sp : A) (li : A) (sr : A) (co : A) (hb : aH) (n : Nat) (k : Int32 → Int32 → Int32 → Int32 → Int32 → Int32 → MR → A → A → Out (MR × A × A) Int32) : Prop := ∀ (v1 : Int32) (v2 : Int32) (v3 : Int32) (v4 : Int32) (v5 : Int32) (v6 : Int32) (mr : MR) (gt : A) (ta : A) (res : Out (MR × A × A) Int32), k v1 v2 v3 v4 v5 v6 mr gt ta = res → res ≠ fno → AW (fun _ _ => True) mX11_readTarga (rmD 6 0 0) 0 0 (P_X11_readTarga mo mw ms mt mu dd wi hi sp li sr co hb n res) (fun _ _ _ => False) 0 0 182 [(0, .ref 31), (1, .int v1), (2, .int v2), (3, .int v3), (4, .int v4), (5, .int v5), (6, .int v6)] [] (HM mo mw mr ms mt mu dd wi hi gt sp ta li sr co hb) n
abbrev Q_X11_readTarga_222 (mo : MO) (mw : MW) (ms : Nat) (mt : A) (mu : A) (dd : A) (wi : A) (hi : A) (sp : A) (li : A) (sr : A) (co : A) (hb : aH) (n : Nat) (k : MR → A → A → Out (MR × A × A) Int32) : Prop := ∀ (mr : MR) (gt : A) (ta : A) (res : Out (MR × A × A) Int32), k mr gt ta = res → res ≠ fno → AW (fun _ _ => True) mX11_readTarga (rmD 6 0 0) 0 0 (P_X11_readTarga mo mw ms mt mu dd wi hi sp li sr co hb n res) (fun _ _ _ => False) 0 0 222 [(0, .ref 31)] [] (HM mo mw mr ms mt mu dd wi hi gt sp ta li sr co hb) n
abbrev Q_X11_readTarga_229 (mo : MO) (mw : MW) (ms : Nat) (mt : A) (mu : A) (dd : A) (wi : A) (hi : A) (sp : A) (li : A) (sr : A) (co : A) (hb : aH) (n : Nat) (k : Int32 → Int32 → Int32 → Int32 → Int32 → Int32 → Int32 → MR → A → A → Out (MR × A × A) Int32) : Prop := ∀ (v1 : Int32) (v2 : Int32) (v3 : Int32) (v4 : Int32) (v5 : Int32) (v6 : Int32) (v7 : Int32) (mr : MR) (gt : A) (ta : A) (res : Out (MR × A × A) Int32), k v1 v2 v3 v4 v5 v6 v7 mr gt ta = res → res ≠ fno → AW (fun _ _ => True) mX11_readTarga (rmD 6 0 0) 0 0 (P_X11_readTarga mo mw ms mt mu dd wi hi sp li sr co hb n res) (fun _ _ _ => False) 0 0 229 [(0, .ref 31), (1, .int v1), (2, .int v2), (3, .int v3), (4, .int v4), (5, .int v5), (6, .int v6), (7, .int v7)] [] (HM mo mw mr ms mt mu dd wi hi gt sp ta li sr co hb) n
abbrev Q_X11_readTarga_293 (mo : MO) (mw : MW) (ms : Nat) (mt : A) (mu : A) (dd : A) (wi : A) (hi : A) (sp : A) (li : A) (sr : A) (co : A) (hb : aH) (n : Nat) (k : MR → A → A → Out (MR × A × A) Int32) : Prop := ∀ (mr : MR) (gt : A) (ta : A) (res : Out (MR × A × A) Int32), k mr gt ta = res → res ≠ fno → AW (fun _ _ => True) mX11_readTarga (rmD 6 0 0) 0 0 (P_X11_readTarga mo mw ms mt mu dd wi hi sp li sr co hb n res) (fun _ _ _ => False) 0 0 293 [(0, .ref 31)] [] (HM mo mw mr ms mt mu dd wi hi gt sp ta li sr co hb) n
abbrev Q_X11_readTarga_301 (mo : MO) (mw : MW) (ms : Nat) (mt : A) (mu : A) (dd : A) (wi : A) (hi : A) (sp : A) (li : A) (sr : A) (co : A) (hb : aH) (n : Nat) (k : Int32 → Int32 → Int32 → Int32 → Int32 → Int32 → Int32 → MR → A → A → Out (MR × A × A) Int32) : Prop := ∀ (v1 : Int32) (v3 : Int32) (v4 : Int32) (v5 : Int32) (v6 : Int32) (v7 : Int32) (v8 : Int32) (mr : MR) (gt : A) (ta : A) (res : Out (MR × A × A) Int32), k v1 v3 v4 v5 v6 v7 v8 mr gt ta = res → res ≠ fno → AW (fun _ _ => True) mX11_readTarga (rmD 6 0 0) 0 0 (P_X11_readTarga mo mw ms mt mu dd wi hi sp li sr co hb n res) (fun _ _ _ => False) 0 0 301 [(0, .ref 31), (1, .int v1), (3, .int v3), (4, .int v4), (5, .int v5), (6, .int v6), (7, .int v7), (8, .int v8)] [] (HM mo mw mr ms mt mu dd wi hi gt sp ta li sr co hb) n
abbrev Q_X11_readTarga_307 (mo : MO) (mw : MW) (ms : Nat) (mt : A) (mu : A) (dd : A) (wi : A) (hi : A) (sp : A) (li : A) (sr : A) (co : A) (hb : aH) (n : Nat) (k : Int32 → Int32 → Int32 → Int32 → Int32 → Int32 → Int32 → MR → A → A → Out (MR × A × A) Int32) : Prop := ∀ (v1 : Int32) (v3 : Int32) (v4 : Int32) (v5 : Int32) (v6 : Int32) (v7 : Int32) (v8 : Int32) (mr : MR) (gt : A) (ta : A) (res : Out (MR × A × A) Int32), k v1 v3 v4 v5 v6 v7 v8 mr gt ta = res → res ≠ fno → AW (fun _ _ => True) mX11_readTarga (rmD 6 0 0) 0 0 (P_X11_readTarga mo mw ms mt mu dd wi hi sp li sr co hb n res) (fun _ _ _ => False) 0 0 307 [(0, .ref 31), (1, .int v1), (3, .int v3), (4, .int v4), (5, .int v5), (6, .int v6), (7, .int v7), (8, .int v8)] [] (HM mo mw mr ms mt mu dd wi hi gt sp ta li sr co hb) n
abbrev Q_X11_readTarga_459 (mo : MO) (mw : MW) (ms : Nat) (mt : A) (mu : A) (dd : A) (wi : A) (hi : A) (sp : A) (li : A) (sr : A) (co : A) (hb : aH) (n : Nat) (k : Int32 → Int32 → Int32 → Int32 → Int32 → Int32 → Int32 → Int32 → MR → A → A → Out (MR × A × A) Int32) : Prop := ∀ (v1 : Int32) (v3 : Int32) (v4 : Int32) (v5 : Int32) (v6 : Int32) (v7 : Int32) (v8 : Int32) (v11 : Int32) (mr : MR) (gt : A) (ta : A) (res : Out (MR × A × A) Int32), k v1 v3 v4 v5 v6 v7 v8 v11 mr gt ta = res → res ≠ fno → AW (fun _ _ => True) mX11_readTarga (rmD 6 0 0) 0 0 (P_X11_readTarga mo mw ms mt mu dd wi hi sp li sr co hb n res) (fun _ _ _ => False) 0 0 459 [(0, .ref 31), (1, .int v1), (3, .int v3), (4, .int v4), (5, .int v5), (6, .int v6), (7, .int v7), (8, .int v8), (11, .int v11)] [] (HM mo mw mr ms mt mu dd wi hi gt sp ta li sr co hb) n
abbrev Q_X11_readTarga_490 (mo : MO) (mw : MW) (ms : Nat) (mt : A) (mu : A) (dd : A) (wi : A) (hi : A) (sp : A) (li : A) (sr : A) (co : A) (hb : aH) (n : Nat) (k : MR → A → A → Out (MR × A × A) Int32) : Prop := ∀ (mr : MR) (gt : A) (ta : A) (res : Out (MR × A × A) Int32), k mr gt ta = res → res ≠ fno → AW (fun _ _ => True) mX11_readTarga (rmD 6 0 0) 0 0 (P_X11_readTarga mo mw ms mt mu dd wi hi sp li sr co hb n res) (fun _ _ _ => False) 0 0 490 [(0, .ref 31)] [] (HM mo mw mr ms mt mu dd wi hi gt sp ta li sr co hb) n
abbrev Q_X11_readTarga_498 (mo : MO) (mw : MW) (ms : Nat) (mt : A) (mu : A) (dd : A) (wi : A) (hi : A) (sp : A) (li : A) (sr : A) (co : A) (hb : aH) (n : Nat) (k : Int32 → Int32 → Int32 → Int32 → Int32 → Int32 → Int32 → Int32 → MR → A → A → Out (MR × A × A) Int32) : Prop := ∀ (v1 : Int32) (v3 : Int32) (v4 : Int32) (v5 : Int32) (v6 : Int32) (v7 : Int32) (v8 : Int32) (v11 : Int32) (mr : MR) (gt : A) (ta : A) (res : Out (MR × A × A) Int32), k v1 v3 v4 v5 v6 v7 v8 v11 mr gt ta = res → res ≠ fno → AW (fun _ _ => True) mX11_readTarga (rmD 6 0 0) 0 0 (P_X11_readTarga mo mw ms mt mu dd wi hi sp li sr co hb n res) (fun _ _ _ => False) 0 0 498 [(0, .ref 31), (1, .int v1), (3, .int v3), (4, .int v4), (5, .int v5), (6, .int v6), (7, .int v7), (8, .int v8), (11, .int v11)] [] (HM mo mw mr ms mt mu dd wi hi gt sp ta li sr co hb) n
abbrev Q_X11_readTarga_541 (mo : MO) (mw : MW) (ms : Nat) (mt : A) (mu : A) (dd : A) (wi : A) (hi : A) (sp : A) (li : A) (sr : A) (co : A) (hb : aH) (n : Nat) (k : Int32 → Int32 → Int32 → Int32 → Int32 → Int32 → Int32 → Int32 → Int32 → Int32 → Int32 → MR → A → A → Out (MR × A × A) Int32) : Prop := ∀ (v1 : Int32) (v3 : Int32) (v4 : Int32) (v5 : Int32) (v6 : Int32) (v7 : Int32) (v8 : Int32) (v11 : Int32) (v12 : Int32) (v13 : Int32) (t0 : Int32) (mr : MR) (gt : A) (ta : A) (res : Out (MR × A × A) Int32), k v1 v3 v4 v5 v6 v7 v8 v11 v12 v13 t0 mr gt ta = res → res ≠ fno → AW (fun _ _ => True) mX11_readTarga (rmD 6 0 0) 0 0 (P_X11_readTarga mo mw ms mt mu dd wi hi sp li sr co hb n res) (fun _ _ _ => False) 0 0 541 [(0, .ref 31), (1, .int v1), (3, .int v3), (4, .int v4), (5, .int v5), (6, .int v6), (7, .int v7), (8, .int v8), (11, .int v11), (12, .int v12), (13, .int v13)] [.int t0] (HM mo mw mr ms mt mu dd wi hi gt sp ta li sr co hb) n
abbrev Q_X11_readTarga_571 (mo : MO) (mw : MW) (ms : Nat) (mt : A) (mu : A) (dd : A) (wi : A) (hi : A) (sp : A) (li : A) (sr : A) (co : A) (hb : aH) (n : Nat) (k : Int32 → Int32 → Int32 → Int32 → Int32 → Int32 → Int32 → Int32 → Int32 → Int32 → Int32 → MR → A → A → Out (MR × A × A) Int32) : Prop := ∀ (v1 : Int32) (v3 : Int32) (v4 : Int32) (v5 : Int32) (v6 : Int32) (v7 : Int32) (v8 : Int32) (v11 : Int32) (v12 : Int32) (v13 : Int32) (v14 : Int32) (mr : MR) (gt : A) (ta : A) (res : Out (MR × A × A) Int32), k v1 v3 v4 v5 v6 v7 v8 v11 v12 v13 v14 mr gt ta = res → res ≠ fno → AW (fun _ _ => True) mX11_readTarga (rmD 6 0 0) 0 0 (P_X11_readTarga mo mw ms mt mu dd wi hi sp li sr co hb n res) (fun _ _ _ => False) 0 0 571 [(0, .ref 31), (1, .int v1), (3, .int v3), (4, .int v4), (5, .int v5), (6, .int v6), (7, .int v7), (8, .int v8), (11, .int v11), (12, .int v12), (13, .int v13), (14, .int v14)] [] (HM mo mw mr ms mt mu dd wi hi gt sp ta li sr co hb) n
abbrev Q_X11_readTarga_584 (mo : MO) (mw : MW) (ms : Nat) (mt : A) (mu : A) (dd : A) (wi : A) (hi : A) (sp : A) (li : A) (sr : A) (co : A) (hb : aH) (n : Nat) (k : MR → A → A → Out (MR × A × A) Int32) : Prop := ∀ (mr : MR) (gt : A) (ta : A) (res : Out (MR × A × A) Int32), k mr gt ta = res → res ≠ fno → AW (fun _ _ => True) mX11_readTarga (rmD 6 0 0) 0 0 (P_X11_readTarga mo mw ms mt mu dd wi hi sp li sr co hb n res) (fun _ _ _ => False) 0 0 584 [(0, .ref 31)] [] (HM mo mw mr ms mt mu dd wi hi gt sp ta li sr co hb) n
abbrev Q_X11_readTarga_592 (mo : MO) (mw : MW) (ms : Nat) (mt : A) (mu : A) (dd : A) (wi : A) (hi : A) (sp : A) (li : A) (sr : A) (co : A) (hb : aH) (n : Nat) (k : Int32 → Int32 → Int32 → Int32 → Int32 → Int32 → Int32 → Int32 → Int32 → Int32 → MR → A → A → Out (MR × A × A) Int32) : Prop := ∀ (v1 : Int32) (v3 : Int32) (v4 : Int32) (v5 : Int32) (v6 : Int32) (v7 : Int32) (v8 : Int32) (v11 : Int32) (v12 : Int32) (v13 : Int32) (mr : MR) (gt : A) (ta : A) (res : Out (MR × A × A) Int32), k v1 v3 v4 v5 v6 v7 v8 v11 v12 v13 mr gt ta = res → res ≠ fno → AW (fun _ _ => True) mX11_readTarga (rmD 6 0 0) 0 0 (P_X11_readTarga mo mw ms mt mu dd wi hi sp li sr co hb n res) (fun _ _ _ => False) 0 0 592 [(0, .ref 31), (1, .int v1), (3, .int v3), (4, .int v4), (5, .int v5), (6, .int v6), (7, .int v7), (8, .int v8), (11, .int v11), (12, .int v12), (13, .int v13)] [] (HM mo mw mr ms mt mu dd wi hi gt sp ta li sr co hb) n
abbrev Q_X11_readTarga_645 (mo : MO) (mw : MW) (ms : Nat) (mt : A) (mu : A) (dd : A) (wi : A) (hi : A) (sp : A) (li : A) (sr : A) (co : A) (hb : aH) (n : Nat) (k : Int32 → Int32 → Int32 → Int32 → Int32 → Int32 → Int32 → Int32 → Int32 → Int32 → Int32 → MR → A → A → Out (MR × A × A) Int32) : Prop := ∀ (v3 : Int32) (v4 : Int32) (v5 : Int32) (v6 : Int32) (v7 : Int32) (v8 : Int32) (v11 : Int32) (v12 : Int32) (v13 : Int32) (v15 : Int32) (v16 : Int32) (mr : MR) (gt : A) (ta : A) (res : Out (MR × A × A) Int32), k v3 v4 v5 v6 v7 v8 v11 v12 v13 v15 v16 mr gt ta = res → res ≠ fno → AW (fun _ _ => True) mX11_readTarga (rmD 6 0 0) 0 0 (P_X11_readTarga mo mw ms mt mu dd wi hi sp li sr co hb n res) (fun _ _ _ => False) 0 0 645 [(0, .ref 31), (3, .int v3), (4, .int v4), (5, .int v5), (6, .int v6), (7, .int v7), (8, .int v8), (11, .int v11), (12, .int v12), (13, .int v13), (15, .int v15), (16, .int v16)] [] (HM mo mw mr ms mt mu dd wi hi gt sp ta li sr co hb) n
abbrev Q_X11_readTarga_676 (mo : MO) (mw : MW) (ms : Nat) (mt : A) (mu : A) (dd : A) (wi : A) (hi : A) (sp : A) (li : A) (sr : A) (co : A) (hb : aH) (n : Nat) (k : Int32 → Int32 → Int32 → Int32 → Int32 → Int32 → Int32 → Int32 → Int32 → Int32 → Int32 → MR → A → A → Out (MR × A × A) Int32) : Prop := ∀ (v3 : Int32) (v4 : Int32) (v5 : Int32) (v6 : Int32) (v7 : Int32) (v8 : Int32) (v11 : Int32) (v12 : Int32) (v13 : Int32) (v15 : Int32) (v16 : Int32) (mr : MR) (gt : A) (ta : A) (res : Out (MR × A × A) Int32), k v3 v4 v5 v6 v7 v8 v11 v12 v13 v15 v16 mr gt ta = res → res ≠ fno → AW (fun _ _ => True) mX11_readTarga (rmD 6 0 0) 0 0 (P_X11_readTarga mo mw ms mt mu dd wi hi sp li sr co hb n res) (fun _ _ _ => False) 0 0 676 [(0, .ref 31), (3, .int v3), (4, .int v4), (5, .int v5), (6, .int v6), (7, .int v7), (8, .int v8), (11, .int v11), (12, .int v12), (13, .int v13), (15, .int v15), (16, .int v16)] [] (HM mo mw mr ms mt mu dd wi hi gt sp ta li sr co hb) n
abbrev Q_X11_readTarga_721 (mo : MO) (mw : MW) (ms : Nat) (mt : A) (mu : A) (dd : A) (wi : A) (hi : A) (sp : A) (li : A) (sr : A) (co : A) (hb : aH) (n : Nat) (k : Int32 → Int32 → Int32 → Int32 → Int32 → Int32 → Int32 → Int32 → Int32 → Int32 → Int32 → Int32 → MR → A → A → Out (MR × A × A) Int32) : Prop := ∀ (v3 : Int32) (v4 : Int32) (v5 : Int32) (v6 : Int32) (v7 : Int32) (v11 : Int32) (v12 : Int32) (v13 : Int32) (v16 : Int32) (v17 : Int32) (v18 : Int32) (v19 : Int32) (mr : MR) (gt : A) (ta : A) (res : Out (MR × A × A) Int32), k v3 v4 v5 v6 v7 v11 v12 v13 v16 v17 v18 v19 mr gt ta = res → res ≠ fno → AW (fun _ _ => True) mX11_readTarga (rmD 6 0 0) 0 0 (P_X11_readTarga mo mw ms mt mu dd wi hi sp li sr co hb n res) (fun _ _ _ => False) 0 0 721 [(0, .ref 31), (3, .int v3), (4, .int v4), (5, .int v5), (6, .int v6), (7, .int v7), (11, .int v11), (12, .int v12), (13, .int v13), (16, .int v16), (17, .int v17), (18, .int v18), (19, .int v19)] [] (HM mo mw mr ms mt mu dd wi hi gt sp ta li sr co hb) n
abbrev Q_X11_readTarga_796 (mo : MO) (mw : MW) (ms : Nat) (mt : A) (mu : A) (dd : A) (wi : A) (hi : A) (sp : A) (li : A) (sr : A) (co : A) (hb : aH) (n : Nat) (k : Int32 → Int32 → Int32 → Int32 → Int32 → Int32 → Int32 → Int32 → Int32 → Int32 → Int32 → Int32 → Int32 → Int32 → MR → A → A → Out (MR × A × A) Int32) : Prop := ∀ (v3 : Int32) (v4 : Int32) (v5 : Int32) (v6 : Int32) (v7 : Int32) (v11 : Int32) (v12 : Int32) (v13 : Int32) (v18 : Int32) (v19 : Int32) (v20 : Int32) (v21 : Int32) (v22 : Int32) (t0 : Int32) (mr : MR) (gt : A) (ta : A) (res : Out (MR × A × A) Int32), k v3 v4 v5 v6 v7 v11 v12 v13 v18 v19 v20 v21 v22 t0 mr gt ta = res → res ≠ fno → AW (fun _ _ => True) mX11_readTarga (rmD 6 0 0) 0 0 (P_X11_readTarga mo mw ms mt mu dd wi hi sp li sr co hb n res) (fun _ _ _ => False) 0 0 796 [(0, .ref 31), (3, .int v3), (4, .int v4), (5, .int v5), (6, .int v6), (7, .int v7), (11, .int v11), (12, .int v12), (13, .int v13), (18, .int v18), (19, .int v19), (20, .int v20), (21, .int v21), (22, .int v22)] [.int t0] (HM mo mw mr ms mt mu dd wi hi gt sp ta li sr co hb) n
abbrev Q_X11_readTarga_827 (mo : MO) (mw : MW) (ms : Nat) (mt : A) (mu : A) (dd : A) (wi : A) (hi : A) (sp : A) (li : A) (sr : A) (co : A) (hb : aH) (n : Nat) (k : Int32 → Int32 → Int32 → Int32 → Int32 → Int32 → Int32 → Int32 → Int32 → Int32 → Int32 → Int32 → Int32 → Int32 → Int32 → MR → A → A → Out (MR × A × A) Int32) : Prop := ∀ (v3 : Int32) (v4 : Int32) (v5 : Int32) (v6 : Int32) (v7 : Int32) (v11 : Int32) (v12 : Int32) (v13 : Int32) (v17 : Int32) (v18 : Int32) (v19 : Int32) (v20 : Int32) (v21 : Int32) (v22 : Int32) (t0 : Int32) (mr : MR) (gt : A) (ta : A) (res : Out (MR × A × A) Int32), k v3 v4 v5 v6 v7 v11 v12 v13 v17 v18 v19 v20 v21 v22 t0 mr gt ta = res → res ≠ fno → AW (fun _ _ => True) mX11_readTarga (rmD 6 0 0) 0 0 (P_X11_readTarga mo mw ms mt mu dd wi hi sp li sr co hb n res) (fun _ _ _ => False) 0 0 827 [(0, .ref 31), (3, .int v3), (4, .int v4), (5, .int v5), (6, .int v6), (7, .int v7), (11, .int v11), (12, .int v12), (13, .int v13), (17, .int v17), (18, .int v18), (19, .int v19), (20, .int v20), (21, .int v21), (22, .int v22)] [.int t0] (HM mo mw mr ms mt mu dd wi hi gt sp ta li sr co hb) n
abbrev Q_X11_readTarga_884 (mo : MO) (mw : MW) (ms : Nat) (mt : A) (mu : A) (dd : A) (wi : A) (hi : A) (sp : A) (li : A) (sr : A) (co : A) (hb : aH) (n : Nat) (k : Int32 → Int32 → Int32 → Int32 → Int32 → Int32 → Int32 → Int32 → Int32 → Int32 → Int32 → Int32 → Int32 → Int32 → Int32 → MR → A → A → Out (MR × A × A) Int32) : Prop := ∀ (v3 : Int32) (v4 : Int32) (v5 : Int32) (v6 : Int32) (v7 : Int32) (v11 : Int32) (v12 : Int32) (v13 : Int32) (v16 : Int32) (v17 : Int32) (v18 : Int32) (v19 : Int32) (v20 : Int32) (v21 : Int32) (t0 : Int32) (mr : MR) (gt : A) (ta : A) (res : Out (MR × A × A) Int32), k v3 v4 v5 v6 v7 v11 v12 v13 v16 v17 v18 v19 v20 v21 t0 mr gt ta = res → res ≠ fno → AW (fun _ _ => True) mX11_readTarga (rmD 6 0 0) 0 0 (P_X11_readTarga mo mw ms mt mu dd wi hi sp li sr co hb n res) (fun _ _ _ => False) 0 0 884 [(0, .ref 31), (3, .int v3), (4, .int v4), (5, .int v5), (6, .int v6), (7, .int v7), (11, .int v11), (12, .int v12), (13, .int v13), (16, .int v16), (17, .int v17), (18, .int v18), (19, .int v19), (20, .int v20), (21, .int v21)] [.int t0] (HM mo mw mr ms mt mu dd wi hi gt sp ta li sr co hb) n
abbrev Q_X11_readTarga_886 (mo : MO) (mw : MW) (ms : Nat) (mt : A) (mu : A) (dd : A) (wi : A) (hi : A) (sp : A) (li : A) (sr : A) (co : A) (hb : aH) (n : Nat) (k : Int32 → Int32 → Int32 → Int32 → Int32 → Int32 → Int32 → Int32 → Int32 → Int32 → Int32 → Int32 → Int32 → Int32 → Int32 → MR → A → A → Out (MR × A × A) Int32) : Prop := ∀ (v3 : Int32) (v4 : Int32) (v5 : Int32) (v6 : Int32) (v7 : Int32) (v11 : Int32) (v12 : Int32) (v13 : Int32) (v16 : Int32) (v17 : Int32) (v18 : Int32) (v19 : Int32) (v20 : Int32) (v21 : Int32) (v22 : Int32) (mr : MR) (gt : A) (ta : A) (res : Out (MR × A × A) Int32), k v3 v4 v5 v6 v7 v11 v12 v13 v16 v17 v18 v19 v20 v21 v22 mr gt ta = res → res ≠ fno → AW (fun _ _ => True) mX11_readTarga (rmD 6 0 0) 0 0 (P_X11_readTarga mo mw ms mt mu dd wi hi sp li sr co hb n res) (fun _ _ _ => False) 0 0 886 [(0, .ref 31), (3, .int v3), (4, .int v4), (5, .int v5), (6, .int v6), (7, .int v7), (11, .int v11), (12, .int v12), (13, .int v13), (16, .int v16), (17, .int v17), (18, .int v18), (19, .int v19), (20, .int v20), (21, .int v21), (22, .int v22)] [] (HM mo mw mr ms mt mu dd wi hi gt sp ta li sr co hb) n
abbrev Q_X11_readTarga_889 (mo : MO) (mw : MW) (ms : Nat) (mt : A) (mu : A) (dd : A) (wi : A) (hi : A) (sp : A) (li : A) (sr : A) (co : A) (hb : aH) (n : Nat) (k : Int32 → Int32 → Int32 → Int32 → Int32 → Int32 → Int32 → Int32 → Int32 → Int32 → Int32 → Int32 → Int32 → Int32 → Int32 → MR → A → A → Out (MR × A × A) Int32) : Prop := ∀ (v3 : Int32) (v4 : Int32) (v5 : Int32) (v6 : Int32) (v7 : Int32) (v11 : Int32) (v12 : Int32) (v13 : Int32) (v16 : Int32) (v17 : Int32) (v18 : Int32) (v19 : Int32) (v20 : Int32) (v21 : Int32) (v22 : Int32) (mr : MR) (gt : A) (ta : A) (res : Out (MR × A × A) Int32), k v3 v4 v5 v6 v7 v11 v12 v13 v16 v17 v18 v19 v20 v21 v22 mr gt ta = res → res ≠ fno → AW (fun _ _ => True) mX11_readTarga (rmD 6 0 0) 0 0 (P_X11_readTarga mo mw ms mt mu dd wi hi sp li sr co hb n res) (fun _ _ _ => False) 0 0 889 [(0, .ref 31), (3, .int v3), (4, .int v4), (5, .int v5), (6, .int v6), (7, .int v7), (11, .int v11), (12, .int v12), (13, .int v13), (16, .int v16), (17, .int v17), (18, .int v18), (19, .int v19), (20, .int v20), (21, .int v21), (22, .int v22)] [] (HM mo mw mr ms mt mu dd wi hi gt sp ta li sr co hb) n
abbrev Q_X11_readTarga_942 (mo : MO) (mw : MW) (ms : Nat) (mt : A) (mu : A) (dd : A) (wi : A) (hi : A) (sp : A) (li : A) (sr : A) (co : A) (hb : aH) (n : Nat) (k : MR → A → A → Out (MR × A × A) Int32) : Prop := ∀ (mr : MR) (gt : A) (ta : A) (res : Out (MR × A × A) Int32), k mr gt ta = res → res ≠ fno → AW (fun _ _ => True) mX11_readTarga (rmD 6 0 0) 0 0 (P_X11_readTarga mo mw ms mt mu dd wi hi sp li sr co hb n res) (fun _ _ _ => False) 0 0 942 [(0, .ref 31)] [] (HM mo mw mr ms mt mu dd wi hi gt sp ta li sr co hb) n
abbrev Q_X11_readTarga_996 (mo : MO) (mw : MW) (ms : Nat) (mt : A) (mu : A) (dd : A) (wi : A) (hi : A) (sp : A) (li : A) (sr : A) (co : A) (hb : aH) (n : Nat) (k : Int32 → Int32 → Int32 → Int32 → Int32 → Int32 → Int32 → Int32 → Int32 → Int32 → Int32 → Int32 → Int32 → Int32 → Int32 → MR → A → A → Out (MR × A × A) Int32) : Prop := ∀ (v3 : Int32) (v4 : Int32) (v5 : Int32) (v6 : Int32) (v7 : Int32) (v11 : Int32) (v12 : Int32) (v13 : Int32) (v16 : Int32) (v17 : Int32) (v19 : Int32) (v20 : Int32) (v21 : Int32) (v23 : Int32) (t0 : Int32) (mr : MR) (gt : A) (ta : A) (res : Out (MR × A × A) Int32), k v3 v4 v5 v6 v7 v11 v12 v13 v16 v17 v19 v20 v21 v23 t0 mr gt ta = res → res ≠ fno → AW (fun _ _ => True) mX11_readTarga (rmD 6 0 0) 0 0 (P_X11_readTarga mo mw ms mt mu dd wi hi sp li sr co hb n res) (fun _ _ _ => False) 0 0 996 [(0, .ref 31), (3, .int v3), (4, .int v4), (5, .int v5), (6, .int v6), (7, .int v7), (11, .int v11), (12, .int v12), (13, .int v13), (16, .int v16), (17, .int v17), (19, .int v19), (20, .int v20), (21, .int v21), (23, .int v23)] [.int t0] (HM mo mw mr ms mt mu dd wi hi gt sp ta li sr co hb) n
abbrev Q_X11_readTarga_998 (mo : MO) (mw : MW) (ms : Nat) (mt : A) (mu : A) (dd : A) (wi : A) (hi : A) (sp : A) (li : A) (sr : A) (co : A) (hb : aH) (n : Nat) (k : Int32 → Int32 → Int32 → Int32 → Int32 → Int32 → Int32 → Int32 → Int32 → Int32 → Int32 → Int32 → Int32 → Int32 → Int32 → MR → A → A → Out (MR × A × A) Int32) : Prop := ∀ (v3 : Int32) (v4 : Int32) (v5 : Int32) (v6 : Int32) (v7 : Int32) (v11 : Int32) (v12 : Int32) (v13 : Int32) (v16 : Int32) (v17 : Int32) (v18 : Int32) (v19 : Int32) (v20 : Int32) (v21 : Int32) (v23 : Int32) (mr : MR) (gt : A) (ta : A) (res : Out (MR × A × A) Int32), k v3 v4 v5 v6 v7 v11 v12 v13 v16 v17 v18 v19 v20 v21 v23 mr gt ta = res → res ≠ fno → AW (fun _ _ => True) mX11_readTarga (rmD 6 0 0) 0 0 (P_X11_readTarga mo mw ms mt mu dd wi hi sp li sr co hb n res) (fun _ _ _ => False) 0 0 998 [(0, .ref 31), (3, .int v3), (4, .int v4), (5, .int v5), (6, .int v6), (7, .int v7), (11, .int v11), (12, .int v12), (13, .int v13), (16, .int v16), (17, .int v17), (18, .int v18), (19, .int v19), (20, .int v20), (21, .int v21), (23, .int v23)] [] (HM mo mw mr ms mt mu dd wi hi gt sp ta li sr co hb) n
abbrev Q_X11_readTarga_1009 (mo : MO) (mw : MW) (ms : Nat) (mt : A) (mu : A) (dd : A) (wi : A) (hi : A) (sp : A) (li : A) (sr : A) (co : A) (hb : aH) (n : Nat) (k : Int32 → Int32 → Int32 → Int32 → Int32 → Int32 → Int32 → Int32 → Int32 → Int32 → Int32 → Int32 → Int32 → Int32 → MR → A → A → Out (MR × A × A) Int32) : Prop := ∀ (v3 : Int32) (v4 : Int32) (v5 : Int32) (v6 : Int32) (v7 : Int32) (v11 : Int32) (v12 : Int32) (v13 : Int32) (v16 : Int32) (v17 : Int32) (v18 : Int32) (v19 : Int32) (v20 : Int32) (v21 : Int32) (mr : MR) (gt : A) (ta : A) (res : Out (MR × A × A) Int32), k v3 v4 v5 v6 v7 v11 v12 v13 v16 v17 v18 v19 v20 v21 mr gt ta = res → res ≠ fno → AW (fun _ _ => True) mX11_readTarga (rmD 6 0 0) 0 0 (P_X11_readTarga mo mw ms mt mu dd wi hi sp li sr co hb n res) (fun _ _ _ => False) 0 0 1009 [(0, .ref 31), (3, .int v3), (4, .int v4), (5, .int v5), (6, .int v6), (7, .int v7), (11, .int v11), (12, .int v12), (13, .int v13), (16, .int v16), (17, .int v17), (18, .int v18), (19, .int v19), (20, .int v20), (21, .int v21)] [] (HM mo mw mr ms mt mu dd wi hi gt sp ta li sr co hb) n
abbrev Q_X11_readTarga_1039 (mo : MO) (mw : MW) (ms : Nat) (mt : A) (mu : A) (dd : A) (wi : A) (hi : A) (sp : A) (li : A) (sr : A) (co : A) (hb : aH) (n : Nat) (k : Int32 → Int32 → Int32 → Int32 → Int32 → Int32 → Int32 → Int32 → Int32 → Int32 → Int32 → Int32 → Int32 → Int32 → Int32 → MR → A → A → Out (MR × A × A) Int32) : Prop := ∀ (v3 : Int32) (v4 : Int32) (v5 : Int32) (v6 : Int32) (v7 : Int32) (v11 : Int32) (v12 : Int32) (v13 : Int32) (v16 : Int32) (v17 : Int32) (v18 : Int32) (v19 : Int32) (v20 : Int32) (t0 : Int32) (t1 : Int32) (mr : MR) (gt : A) (ta : A) (res : Out (MR × A × A) Int32), k v3 v4 v5 v6 v7 v11 v12 v13 v16 v17 v18 v19 v20 t0 t1 mr gt ta = res → res ≠ fno → AW (fun _ _ => True) mX11_readTarga (rmD 6 0 0) 0 0 (P_X11_readTarga mo mw ms mt mu dd wi hi sp li sr co hb n res) (fun _ _ _ => False) 0 0 1039 [(0, .ref 31), (3, .int v3), (4, .int v4), (5, .int v5), (6, .int v6), (7, .int v7), (11, .int v11), (12, .int v12), (13, .int v13), (16, .int v16), (17, .int v17), (18, .int v18), (19, .int v19), (20, .int v20)] [.int t0, .int t1, .ref 37] (HM mo mw mr ms mt mu dd wi hi gt sp ta li sr co hb) n
abbrev Q_X11_readTarga_1062 (mo : MO) (mw : MW) (ms : Nat) (mt : A) (mu : A) (dd : A) (wi : A) (hi : A) (sp : A) (li : A) (sr : A) (co : A) (hb : aH) (n : Nat) (k : Int32 → Int32 → Int32 → Int32 → Int32 → Int32 → Int32 → Int32 → Int32 → Int32 → Int32 → Int32 → Int32 → Int32 → MR → A → A → Out (MR × A × A) Int32) : Prop := ∀ (v3 : Int32) (v4 : Int32) (v5 : Int32) (v6 : Int32) (v7 : Int32) (v11 : Int32) (v12 : Int32) (v13 : Int32) (v16 : Int32) (v17 : Int32) (v18 : Int32) (v19 : Int32) (t0 : Int32) (t1 : Int32) (mr : MR) (gt : A) (ta : A) (res : Out (MR × A × A) Int32), k v3 v4 v5 v6 v7 v11 v12 v13 v16 v17 v18 v19 t0 t1 mr gt ta = res → res ≠ fno → AW (fun _ _ => True) mX11_readTarga (rmD 6 0 0) 0 0 (P_X11_readTarga mo mw ms mt mu dd wi hi sp li sr co hb n res) (fun _ _ _ => False) 0 0 1062 [(0, .ref 31), (3, .int v3), (4, .int v4), (5, .int v5), (6, .int v6), (7, .int v7), (11, .int v11), (12, .int v12), (13, .int v13), (16, .int v16), (17, .int v17), (18, .int v18), (19, .int v19)] [.int t0, .int t1, .ref 37] (HM mo mw mr ms mt mu dd wi hi gt sp ta li sr co hb) n
abbrev Q_X11_readTarga_1102 (mo : MO) (mw : MW) (ms : Nat) (mt : A) (mu : A) (dd : A) (wi : A) (hi : A) (sp : A) (li : A) (sr : A) (co : A) (hb : aH) (n : Nat) (k : MR → A → A → Out (MR × A × A) Int32) : Prop := ∀ (mr : MR) (gt : A) (ta : A) (res : Out (MR × A × A) Int32), k mr gt ta = res → res ≠ fno → AW (fun _ _ => True) mX11_readTarga (rmD 6 0 0) 0 0 (P_X11_readTarga mo mw ms mt mu dd wi hi sp li sr co hb n res) (fun _ _ _ => False) 0 0 1102 [] [] (HM mo mw mr ms mt mu dd wi hi gt sp ta li sr co hb) n
def F_X11_readTarga_1102 (sb : A)  (mr : MR) (gt : A) (ta : A) : Out (MR × A × A) Int32 := fok (1 : Int32) (mr, gt, ta)
set_option maxHeartbeats 1000000 in
set_option maxRecDepth 100000 in
theorem b_X11_readTarga_1102 (mo : MO) (mw : MW) (ms : Nat) (mt : A) (mu : A) (dd : A) (wi : A) (hi : A) (sp : A) (li : A) (sr : A) (co : A) (hb : aH) (n : Nat) (hms : isMS ms)  : Q_X11_readTarga_1102 mo mw ms mt mu dd wi hi sp li sr co hb n (F_X11_readTarga_1102 (srcB ms mt mu)) := by
  intro mr gt ta res hE hF
  unfold F_X11_readTarga_1102 at hE
  refine aw_iconst (v := 1) dX11_readTarga_1102 (by decide) ?_
  refine aw_goto (tgt := 1107) dX11_readTarga_1103 (by decide) ?_
  exact aw_zret dX11_readTarga_1107 rfl (narB (by decide)) (Nat.zero_le _) (Nat.zero_le _) (Nat.zero_le _) (Nat.zero_le _) ⟨_, _, hE.symm, rfl, rfl, rfl⟩
def F_X11_readTarga_1062 (sb : A) (k721 : Int32 → Int32 → Int32 → Int32 → Int32 → Int32 → Int32 → Int32 → Int32 → Int32 → Int32 → Int32 → MR → A → A → Out (MR × A × A) Int32) (v3 : Int32) (v4 : Int32) (v5 : Int32) (v6 : Int32) (v7 : Int32) (v11 : Int32) (v12 : Int32) (v13 : Int32) (v16 : Int32) (v17 : Int32) (v18 : Int32) (v19 : Int32) (t0 : Int32) (t1 : Int32) (mr : MR) (gt : A) (ta : A) : Out (MR × A × A) Int32 := if inb (t1 + t0) 4096 then (k721 v3 v4 v5 v6 v7 v11 v12 v13 v16 v17 v18 (v19 + 1) mr (upd gt (Int32.toNatClampNeg (t1 + t0)) v18) ta) else fno
set_option maxHeartbeats 1000000 in
set_option maxRecDepth 100000 in
theorem b_X11_readTarga_1062 (mo : MO) (mw : MW) (ms : Nat) (mt : A) (mu : A) (dd : A) (wi : A) (hi : A) (sp : A) (li : A) (sr : A) (co : A) (hb : aH) (n : Nat) (hms : isMS ms) (k721 : Int32 → Int32 → Int32 → Int32 → Int32 → Int32 → Int32 → Int32 → Int32 → Int32 → Int32 → Int32 → MR → A → A → Out (MR × A × A) Int32) (hk721 : Q_X11_readTarga_721 mo mw ms mt mu dd wi hi sp li sr co hb n k721) : Q_X11_readTarga_1062 mo mw ms mt mu dd wi hi sp li sr co hb n (F_X11_readTarga_1062 (srcB ms mt mu) k721) := by
  intro v3 v4 v5 v6 v7 v11 v12 v13 v16 v17 v18 v19 t0 t1 mr gt ta res hE hF
  unfold F_X11_readTarga_1062 at hE
  refine aw_iadd dX11_readTarga_1062 ?_
  refine aw_iload dX11_readTarga_1063 rfl ?_
  obtain ⟨g1065, hE⟩ := fgd hE hF
  refine aw_iast (f := gt) dX11_readTarga_1065 at_mgot (vp_in_iff.mpr g1065) ?_
  refine aw_eqh (h2 := HM mo mw mr ms mt mu dd wi hi (upd gt (Int32.toNatClampNeg (t1 + t0)) v18) sp ta li sr co hb) up_mgot ?_
  refine aw_iinc (v := (v19 + 1)) (lv2 := [(19, _), (0, _), (3, _), (4, _), (5, _), (6, _), (7, _), (11, _), (12, _), (13, _), (16, _), (17, _), (18, _)]) dX11_readTarga_1066 rfl (incE (by decide)) (by decide) rfl ?_
  refine aw_goto (tgt := 721) dX11_readTarga_1069 (by decide) ?_
  exact aw_lv _ (List.forall_mem_cons.mpr ⟨rfl, (List.forall_mem_cons.mpr ⟨rfl, (List.forall_mem_cons.mpr ⟨rfl, (List.forall_mem_cons.mpr ⟨rfl, (List.forall_mem_cons.mpr ⟨rfl, (List.forall_mem_cons.mpr ⟨rfl, (List.forall_mem_cons.mpr ⟨rfl, (List.forall_mem_cons.mpr ⟨rfl, (List.forall_mem_cons.mpr ⟨rfl, (List.forall_mem_cons.mpr ⟨rfl, (List.forall_mem_cons.mpr ⟨rfl, (List.forall_mem_cons.mpr ⟨rfl, (List.forall_mem_cons.mpr ⟨rfl, fun _ h => absurd h List.not_mem_nil⟩)⟩)⟩)⟩)⟩)⟩)⟩)⟩)⟩)⟩)⟩)⟩)⟩) (hk721 v3 v4 v5 v6 v7 v11 v12 v13 v16 v17 v18 (v19 + 1) mr (upd gt (Int32.toNatClampNeg (t1 + t0)) v18) ta _ hE hF)
def F_X11_readTarga_1039 (sb : A) (k721 : Int32 → Int32 → Int32 → Int32 → Int32 → Int32 → Int32 → Int32 → Int32 → Int32 → Int32 → Int32 → MR → A → A → Out (MR × A × A) Int32) (v3 : Int32) (v4 : Int32) (v5 : Int32) (v6 : Int32) (v7 : Int32) (v11 : Int32) (v12 : Int32) (v13 : Int32) (v16 : Int32) (v17 : Int32) (v18 : Int32) (v19 : Int32) (v20 : Int32) (t0 : Int32) (t1 : Int32) (mr : MR) (gt : A) (ta : A) : Out (MR × A × A) Int32 := if (v12 &&& 16) = 0 then (F_X11_readTarga_1062 sb k721 v3 v4 v5 v6 v7 v11 v12 v13 v16 v17 v18 v19 v20 (t1 * t0) mr gt ta) else (F_X11_readTarga_1062 sb k721 v3 v4 v5 v6 v7 v11 v12 v13 v16 v17 v18 v19 (((mr_gw mr) - 1) - v20) (t1 * t0) mr gt ta)
set_option maxHeartbeats 1000000 in
set_option maxRecDepth 100000 in
theorem b_X11_readTarga_1039 (mo : MO) (mw : MW) (ms : Nat) (mt : A) (mu : A) (dd : A) (wi : A) (hi : A) (sp : A) (li : A) (sr : A) (co : A) (hb : aH) (n : Nat) (hms : isMS ms) (k721 : Int32 → Int32 → Int32 → Int32 → Int32 → Int32 → Int32 → Int32 → Int32 → Int32 → Int32 → Int32 → MR → A → A → Out (MR × A × A) Int32) (hk721 : Q_X11_readTarga_721 mo mw ms mt mu dd wi hi sp li sr co hb n k721) : Q_X11_readTarga_1039 mo mw ms mt mu dd wi hi sp li sr co hb n (F_X11_readTarga_1039 (srcB ms mt mu) k721) := by
  intro v3 v4 v5 v6 v7 v11 v12 v13 v16 v17 v18 v19 v20 t0 t1 mr gt ta res hE hF
  unfold F_X11_readTarga_1039 at hE
  refine aw_imul dX11_readTarga_1039 ?_
  refine aw_iload dX11_readTarga_1040 rfl ?_
  refine aw_bipush (v := 16) dX11_readTarga_1042 (by decide) ?_
  refine aw_iand dX11_readTarga_1044 ?_
  refine aw_if_eq (tgt := 1060) dX11_readTarga_1045 (by decide) (fun c1045 => ?_) (fun c1045 => ?_)
  · replace hE := fit hE c1045
    refine aw_iload dX11_readTarga_1060 rfl ?_
    exact aw_lv _ (List.forall_mem_cons.mpr ⟨rfl, (List.forall_mem_cons.mpr ⟨rfl, (List.forall_mem_cons.mpr ⟨rfl, (List.forall_mem_cons.mpr ⟨rfl, (List.forall_mem_cons.mpr ⟨rfl, (List.forall_mem_cons.mpr ⟨rfl, (List.forall_mem_cons.mpr ⟨rfl, (List.forall_mem_cons.mpr ⟨rfl, (List.forall_mem_cons.mpr ⟨rfl, (List.forall_mem_cons.mpr ⟨rfl, (List.forall_mem_cons.mpr ⟨rfl, (List.forall_mem_cons.mpr ⟨rfl, (List.forall_mem_cons.mpr ⟨rfl, fun _ h => absurd h List.not_mem_nil⟩)⟩)⟩)⟩)⟩)⟩)⟩)⟩)⟩)⟩)⟩)⟩)⟩) (b_X11_readTarga_1062 mo mw ms mt mu dd wi hi sp li sr co hb n hms k721 hk721 v3 v4 v5 v6 v7 v11 v12 v13 v16 v17 v18 v19 v20 (t1 * t0) mr gt ta _ hE hF)
  · replace hE := fif hE c1045
    refine aw_aload_n dX11_readTarga_1048 rfl ?_
    refine aw_getf (v := .int (mr_gw mr)) dX11_readTarga_1049 flX11_109_10 at_mod rfl ?_
    refine aw_iconst (v := 1) dX11_readTarga_1052 (by decide) ?_
    refine aw_isub dX11_readTarga_1053 ?_
    refine aw_iload dX11_readTarga_1054 rfl ?_
    refine aw_isub dX11_readTarga_1056 ?_
    refine aw_goto (tgt := 1062) dX11_readTarga_1057 (by decide) ?_
    exact aw_lv _ (List.forall_mem_cons.mpr ⟨rfl, (List.forall_mem_cons.mpr ⟨rfl, (List.forall_mem_cons.mpr ⟨rfl, (List.forall_mem_cons.mpr ⟨rfl, (List.forall_mem_cons.mpr ⟨rfl, (List.forall_mem_cons.mpr ⟨rfl, (List.forall_mem_cons.mpr ⟨rfl, (List.forall_mem_cons.mpr ⟨rfl, (List.forall_mem_cons.mpr ⟨rfl, (List.forall_mem_cons.mpr ⟨rfl, (List.forall_mem_cons.mpr ⟨rfl, (List.forall_mem_cons.mpr ⟨rfl, (List.forall_mem_cons.mpr ⟨rfl, fun _ h => absurd h List.not_mem_nil⟩)⟩)⟩)⟩)⟩)⟩)⟩)⟩)⟩)⟩)⟩)⟩)⟩) (b_X11_readTarga_1062 mo mw ms mt mu dd wi hi sp li sr co hb n hms k721 hk721 v3 v4 v5 v6 v7 v11 v12 v13 v16 v17 v18 v19 (((mr_gw mr) - 1) - v20) (t1 * t0) mr gt ta _ hE hF)
def F_X11_readTarga_1009 (sb : A) (k721 : Int32 → Int32 → Int32 → Int32 → Int32 → Int32 → Int32 → Int32 → Int32 → Int32 → Int32 → Int32 → MR → A → A → Out (MR × A × A) Int32) (v3 : Int32) (v4 : Int32) (v5 : Int32) (v6 : Int32) (v7 : Int32) (v11 : Int32) (v12 : Int32) (v13 : Int32) (v16 : Int32) (v17 : Int32) (v18 : Int32) (v19 : Int32) (v20 : Int32) (v21 : Int32) (mr : MR) (gt : A) (ta : A) : Out (MR × A × A) Int32 := if (v12 &&& 32) = 0 then (F_X11_readTarga_1039 sb k721 v3 v4 v5 v6 v7 v11 v12 v13 v16 v17 v18 v19 v20 (((mr_gh mr) - 1) - v21) (mr_gw mr) mr gt ta) else (F_X11_readTarga_1039 sb k721 v3 v4 v5 v6 v7 v11 v12 v13 v16 v17 v18 v19 v20 v21 (mr_gw mr) mr gt ta)
set_option maxHeartbeats 1000000 in
set_option maxRecDepth 100000 in
theorem b_X11_readTarga_1009 (mo : MO) (mw : MW) (ms : Nat) (mt : A) (mu : A) (dd : A) (wi : A) (hi : A) (sp : A) (li : A) (sr : A) (co : A) (hb : aH) (n : Nat) (hms : isMS ms) (k721 : Int32 → Int32 → Int32 → Int32 → Int32 → Int32 → Int32 → Int32 → Int32 → Int32 → Int32 → Int32 → MR → A → A → Out (MR × A × A) Int32) (hk721 : Q_X11_readTarga_721 mo mw ms mt mu dd wi hi sp li sr co hb n k721) : Q_X11_readTarga_1009 mo mw ms mt mu dd wi hi sp li sr co hb n (F_X11_readTarga_1009 (srcB ms mt mu) k721) := by
  intro v3 v4 v5 v6 v7 v11 v12 v13 v16 v17 v18 v19 v20 v21 mr gt ta res hE hF
  unfold F_X11_readTarga_1009 at hE
  refine aw_aload_n dX11_readTarga_1009 rfl ?_
  refine aw_getf (v := .ref 37) dX11_readTarga_1010 flX11_27_10 at_mod rfl ?_
  refine aw_aload_n dX11_readTarga_1013 rfl ?_
  refine aw_getf (v := .int (mr_gw mr)) dX11_readTarga_1014 flX11_109_10 at_mod rfl ?_
  refine aw_iload dX11_readTarga_1017 rfl ?_
  refine aw_bipush (v := 32) dX11_readTarga_1019 (by decide) ?_
  refine aw_iand dX11_readTarga_1021 ?_
  refine aw_if_eq (tgt := 1030) dX11_readTarga_1022 (by decide) (fun c1022 => ?_) (fun c1022 => ?_)
  · replace hE := fit hE c1022
    refine aw_aload_n dX11_readTarga_1030 rfl ?_
    refine aw_getf (v := .int (mr_gh mr)) dX11_readTarga_1031 flX11_112_10 at_mod rfl ?_
    refine aw_iconst (v := 1) dX11_readTarga_1034 (by decide) ?_
    refine aw_isub dX11_readTarga_1035 ?_
    refine aw_iload dX11_readTarga_1036 rfl ?_
    refine aw_isub dX11_readTarga_1038 ?_
    exact aw_lv _ (List.forall_mem_cons.mpr ⟨rfl, (List.forall_mem_cons.mpr ⟨rfl, (List.forall_mem_cons.mpr ⟨rfl, (List.forall_mem_cons.mpr ⟨rfl, (List.forall_mem_cons.mpr ⟨rfl, (List.forall_mem_cons.mpr ⟨rfl, (List.forall_mem_cons.mpr ⟨rfl, (List.forall_mem_cons.mpr ⟨rfl, (List.forall_mem_cons.mpr ⟨rfl, (List.forall_mem_cons.mpr ⟨rfl, (List.forall_mem_cons.mpr ⟨rfl, (List.forall_mem_cons.mpr ⟨rfl, (List.forall_mem_cons.mpr ⟨rfl, (List.forall_mem_cons.mpr ⟨rfl, fun _ h => absurd h List.not_mem_nil⟩)⟩)⟩)⟩)⟩)⟩)⟩)⟩)⟩)⟩)⟩)⟩)⟩)⟩) (b_X11_readTarga_1039 mo mw ms mt mu dd wi hi sp li sr co hb n hms k721 hk721 v3 v4 v5 v6 v7 v11 v12 v13 v16 v17 v18 v19 v20 (((mr_gh mr) - 1) - v21) (mr_gw mr) mr gt ta _ hE hF)
  · replace hE := fif hE c1022
    refine aw_iload dX11_readTarga_1025 rfl ?_
    refine aw_goto (tgt := 1039) dX11_readTarga_1027 (by decide) ?_
    exact aw_lv _ (List.forall_mem_cons.mpr ⟨rfl, (List.forall_mem_cons.mpr ⟨rfl, (List.forall_mem_cons.mpr ⟨rfl, (List.forall_mem_cons.mpr ⟨rfl, (List.forall_mem_cons.mpr ⟨rfl, (List.forall_mem_cons.mpr ⟨rfl, (List.forall_mem_cons.mpr ⟨rfl, (List.forall_mem_cons.mpr ⟨rfl, (List.forall_mem_cons.mpr ⟨rfl, (List.forall_mem_cons.mpr ⟨rfl, (List.forall_mem_cons.mpr ⟨rfl, (List.forall_mem_cons.mpr ⟨rfl, (List.forall_mem_cons.mpr ⟨rfl, (List.forall_mem_cons.mpr ⟨rfl, fun _ h => absurd h List.not_mem_nil⟩)⟩)⟩)⟩)⟩)⟩)⟩)⟩)⟩)⟩)⟩)⟩)⟩)⟩) (b_X11_readTarga_1039 mo mw ms mt mu dd wi hi sp li sr co hb n hms k721 hk721 v3 v4 v5 v6 v7 v11 v12 v13 v16 v17 v18 v19 v20 v21 (mr_gw mr) mr gt ta _ hE hF)
def F_X11_readTarga_998 (sb : A) (k721 : Int32 → Int32 → Int32 → Int32 → Int32 → Int32 → Int32 → Int32 → Int32 → Int32 → Int32 → Int32 → MR → A → A → Out (MR × A × A) Int32) (v3 : Int32) (v4 : Int32) (v5 : Int32) (v6 : Int32) (v7 : Int32) (v11 : Int32) (v12 : Int32) (v13 : Int32) (v16 : Int32) (v17 : Int32) (v18 : Int32) (v19 : Int32) (v20 : Int32) (v21 : Int32) (v23 : Int32) (mr : MR) (gt : A) (ta : A) : Out (MR × A × A) Int32 := F_X11_readTarga_1009 sb k721 v3 v4 v5 v6 v7 v11 v12 v13 v16 v17 v18 v19 v20 v21 ((mr_size mr), ((mr_pos mr) + v23), (mr_kind mr), (mr_whr mr), (mr_gw mr), (mr_gh mr), (mr_one mr), (mr_two mr), (mr_three mr)) gt ta
set_option maxHeartbeats 1000000 in
set_option maxRecDepth 100000 in
theorem b_X11_readTarga_998 (mo : MO) (mw : MW) (ms : Nat) (mt : A) (mu : A) (dd : A) (wi : A) (hi : A) (sp : A) (li : A) (sr : A) (co : A) (hb : aH) (n : Nat) (hms : isMS ms) (k721 : Int32 → Int32 → Int32 → Int32 → Int32 → Int32 → Int32 → Int32 → Int32 → Int32 → Int32 → Int32 → MR → A → A → Out (MR × A × A) Int32) (hk721 : Q_X11_readTarga_721 mo mw ms mt mu dd wi hi sp li sr co hb n k721) : Q_X11_readTarga_998 mo mw ms mt mu dd wi hi sp li sr co hb n (F_X11_readTarga_998 (srcB ms mt mu) k721) := by
  intro v3 v4 v5 v6 v7 v11 v12 v13 v16 v17 v18 v19 v20 v21 v23 mr gt ta res hE hF
  unfold F_X11_readTarga_998 at hE
  refine aw_aload_n dX11_readTarga_998 rfl ?_
  refine aw_dup dX11_readTarga_999 rfl ?_
  refine aw_getf (v := .int (mr_pos mr)) dX11_readTarga_1000 flX11_84_10 at_mod rfl ?_
  refine aw_iload dX11_readTarga_1003 rfl ?_
  refine aw_iadd dX11_readTarga_1005 ?_
  refine aw_putf dX11_readTarga_1006 ptX11_84_10 at_mod (Nat.le_of_ble_eq_true rfl) ⟨rfl, rfl⟩ ?_
  refine aw_eqh (h2 := HM mo mw ((mr_size mr), ((mr_pos mr) + v23), (mr_kind mr), (mr_whr mr), (mr_gw mr), (mr_gh mr), (mr_one mr), (mr_two mr), (mr_three mr)) ms mt mu dd wi hi gt sp ta li sr co hb) up_mod ?_
  exact aw_lv _ (List.forall_mem_cons.mpr ⟨rfl, (List.forall_mem_cons.mpr ⟨rfl, (List.forall_mem_cons.mpr ⟨rfl, (List.forall_mem_cons.mpr ⟨rfl, (List.forall_mem_cons.mpr ⟨rfl, (List.forall_mem_cons.mpr ⟨rfl, (List.forall_mem_cons.mpr ⟨rfl, (List.forall_mem_cons.mpr ⟨rfl, (List.forall_mem_cons.mpr ⟨rfl, (List.forall_mem_cons.mpr ⟨rfl, (List.forall_mem_cons.mpr ⟨rfl, (List.forall_mem_cons.mpr ⟨rfl, (List.forall_mem_cons.mpr ⟨rfl, (List.forall_mem_cons.mpr ⟨rfl, (List.forall_mem_cons.mpr ⟨rfl, fun _ h => absurd h List.not_mem_nil⟩)⟩)⟩)⟩)⟩)⟩)⟩)⟩)⟩)⟩)⟩)⟩)⟩)⟩)⟩) (b_X11_readTarga_1009 mo mw ms mt mu dd wi hi sp li sr co hb n hms k721 hk721 v3 v4 v5 v6 v7 v11 v12 v13 v16 v17 v18 v19 v20 v21 ((mr_size mr), ((mr_pos mr) + v23), (mr_kind mr), (mr_whr mr), (mr_gw mr), (mr_gh mr), (mr_one mr), (mr_two mr), (mr_three mr)) gt ta _ hE hF)
def F_X11_readTarga_996 (sb : A) (k721 : Int32 → Int32 → Int32 → Int32 → Int32 → Int32 → Int32 → Int32 → Int32 → Int32 → Int32 → Int32 → MR → A → A → Out (MR × A × A) Int32) (v3 : Int32) (v4 : Int32) (v5 : Int32) (v6 : Int32) (v7 : Int32) (v11 : Int32) (v12 : Int32) (v13 : Int32) (v16 : Int32) (v17 : Int32) (v19 : Int32) (v20 : Int32) (v21 : Int32) (v23 : Int32) (t0 : Int32) (mr : MR) (gt : A) (ta : A) : Out (MR × A × A) Int32 := F_X11_readTarga_998 sb k721 v3 v4 v5 v6 v7 v11 v12 v13 v16 v17 t0 v19 v20 v21 v23 mr gt ta
set_option maxHeartbeats 1000000 in
set_option maxRecDepth 100000 in
theorem b_X11_readTarga_996 (mo : MO) (mw : MW) (ms : Nat) (mt : A) (mu : A) (dd : A) (wi : A) (hi : A) (sp : A) (li : A) (sr : A) (co : A) (hb : aH) (n : Nat) (hms : isMS ms) (k721 : Int32 → Int32 → Int32 → Int32 → Int32 → Int32 → Int32 → Int32 → Int32 → Int32 → Int32 → Int32 → MR → A → A → Out (MR × A × A) Int32) (hk721 : Q_X11_readTarga_721 mo mw ms mt mu dd wi hi sp li sr co hb n k721) : Q_X11_readTarga_996 mo mw ms mt mu dd wi hi sp li sr co hb n (F_X11_readTarga_996 (srcB ms mt mu) k721) := by
  intro v3 v4 v5 v6 v7 v11 v12 v13 v16 v17 v19 v20 v21 v23 t0 mr gt ta res hE hF
  unfold F_X11_readTarga_996 at hE
  refine aw_istore (lv2 := [(18, _), (0, _), (3, _), (4, _), (5, _), (6, _), (7, _), (11, _), (12, _), (13, _), (16, _), (17, _), (19, _), (20, _), (21, _), (23, _)]) dX11_readTarga_996 (by decide) rfl ?_
  exact aw_lv _ (List.forall_mem_cons.mpr ⟨rfl, (List.forall_mem_cons.mpr ⟨rfl, (List.forall_mem_cons.mpr ⟨rfl, (List.forall_mem_cons.mpr ⟨rfl, (List.forall_mem_cons.mpr ⟨rfl, (List.forall_mem_cons.mpr ⟨rfl, (List.forall_mem_cons.mpr ⟨rfl, (List.forall_mem_cons.mpr ⟨rfl, (List.forall_mem_cons.mpr ⟨rfl, (List.forall_mem_cons.mpr ⟨rfl, (List.forall_mem_cons.mpr ⟨rfl, (List.forall_mem_cons.mpr ⟨rfl, (List.forall_mem_cons.mpr ⟨rfl, (List.forall_mem_cons.mpr ⟨rfl, (List.forall_mem_cons.mpr ⟨rfl, (List.forall_mem_cons.mpr ⟨rfl, fun _ h => absurd h List.not_mem_nil⟩)⟩)⟩)⟩)⟩)⟩)⟩)⟩)⟩)⟩)⟩)⟩)⟩)⟩)⟩)⟩) (b_X11_readTarga_998 mo mw ms mt mu dd wi hi sp li sr co hb n hms k721 hk721 v3 v4 v5 v6 v7 v11 v12 v13 v16 v17 t0 v19 v20 v21 v23 mr gt ta _ hE hF)
def F_X11_readTarga_942 (sb : A)  (mr : MR) (gt : A) (ta : A) : Out (MR × A × A) Int32 := fon (F_X11_wrong 6 (mr_pos mr) mr) (fun z949 s949 => if isB z949 then (fok (z949 : Int32) (s949, gt, ta)) else fno) (fun _ _ => fno)
set_option maxHeartbeats 1000000 in
set_option maxRecDepth 100000 in
theorem b_X11_readTarga_942 (mo : MO) (mw : MW) (ms : Nat) (mt : A) (mu : A) (dd : A) (wi : A) (hi : A) (sp : A) (li : A) (sr : A) (co : A) (hb : aH) (n : Nat) (hms : isMS ms)  : Q_X11_readTarga_942 mo mw ms mt mu dd wi hi sp li sr co hb n (F_X11_readTarga_942 (srcB ms mt mu)) := by
  intro mr gt ta res hE hF
  unfold F_X11_readTarga_942 at hE
  refine aw_aload_n dX11_readTarga_942 rfl ?_
  refine aw_bipush (v := 6) dX11_readTarga_943 (by decide) ?_
  refine aw_aload_n dX11_readTarga_945 rfl ?_
  refine aw_getf (v := .int (mr_pos mr)) dX11_readTarga_946 flX11_84_10 at_mod rfl ?_
  refine aw_callV dX11_readTarga_949 at_mod cvX11_90 rfl (kF_X11_wrong mo mw mr ms mt mu dd wi hi gt sp ta li sr co hb _  6 (mr_pos mr) (fon_ne hE hF)) rfl (Nat.le_of_ble_eq_true rfl) (by decide) (by decide) (by decide) (by decide) (fun _ _ _ hf => False.elim hf) (fun r949 h949 n949 hp949 => ?_)
  obtain ⟨z949, s949, e949, rfl, rfl, rfl⟩ := hp949
  replace hE := fon_ok e949 hE
  obtain ⟨g952, hE⟩ := fgd hE hF
  exact aw_zret dX11_readTarga_952 rfl (narB g952) (Nat.zero_le _) (Nat.zero_le _) (Nat.zero_le _) (Nat.zero_le _) ⟨_, _, hE.symm, rfl, rfl, rfl⟩
def F_X11_readTarga_889 (sb : A) (k721 : Int32 → Int32 → Int32 → Int32 → Int32 → Int32 → Int32 → Int32 → Int32 → Int32 → Int32 → Int32 → MR → A → A → Out (MR × A × A) Int32) (v3 : Int32) (v4 : Int32) (v5 : Int32) (v6 : Int32) (v7 : Int32) (v11 : Int32) (v12 : Int32) (v13 : Int32) (v16 : Int32) (v17 : Int32) (v18 : Int32) (v19 : Int32) (v20 : Int32) (v21 : Int32) (v22 : Int32) (mr : MR) (gt : A) (ta : A) : Out (MR × A × A) Int32 := if v22 = 0 then (F_X11_readTarga_1009 sb k721 v3 v4 v5 v6 v7 v11 v12 v13 v16 v17 v18 v19 v20 v21 mr gt ta) else (fon (F_X11_want (v11 / 8) mr) (fun z904 s904 => if z904 = 0 then (fok (0 : Int32) (s904, gt, ta)) else (if v4 = 0 then (if v5 = 0 then (fon (F_X11_colour (mr_pos s904) v11 v13 sb) (fun z993 s993 => F_X11_readTarga_996 sb k721 v3 v4 v5 v6 v7 v11 v12 v13 v16 v17 v19 v20 v21 (v11 / 8) z993 s904 gt ta) (fun _ _ => fno)) else (fon (F_X11_b (mr_pos s904) sb) (fun z975 s975 => F_X11_readTarga_996 sb k721 v3 v4 v5 v6 v7 v11 v12 v13 v16 v17 v19 v20 v21 (v11 / 8) (F_X11_gray z975) s904 gt ta) (fun _ _ => fno))) else (fon (F_X11_b (mr_pos s904) sb) (fun z922 s922 => if (z922 - v6) < 0 then (F_X11_readTarga_942 sb s904 gt ta) else (if (z922 - v6) < v7 then (if inb (z922 - v6) 65536 then (F_X11_readTarga_998 sb k721 v3 v4 v5 v6 v7 v11 v12 v13 v16 v17 (ta (Int32.toNatClampNeg (z922 - v6))) v19 v20 v21 (v11 / 8) s904 gt ta) else fno) else (F_X11_readTarga_942 sb s904 gt ta))) (fun _ _ => fno)))) (fun _ _ => fno))
set_option maxHeartbeats 1000000 in
set_option maxRecDepth 100000 in
theorem b_X11_readTarga_889 (mo : MO) (mw : MW) (ms : Nat) (mt : A) (mu : A) (dd : A) (wi : A) (hi : A) (sp : A) (li : A) (sr : A) (co : A) (hb : aH) (n : Nat) (hms : isMS ms) (k721 : Int32 → Int32 → Int32 → Int32 → Int32 → Int32 → Int32 → Int32 → Int32 → Int32 → Int32 → Int32 → MR → A → A → Out (MR × A × A) Int32) (hk721 : Q_X11_readTarga_721 mo mw ms mt mu dd wi hi sp li sr co hb n k721) : Q_X11_readTarga_889 mo mw ms mt mu dd wi hi sp li sr co hb n (F_X11_readTarga_889 (srcB ms mt mu) k721) := by
  intro v3 v4 v5 v6 v7 v11 v12 v13 v16 v17 v18 v19 v20 v21 v22 mr gt ta res hE hF
  unfold F_X11_readTarga_889 at hE
  refine aw_iload dX11_readTarga_889 rfl ?_
  refine aw_if_eq (tgt := 1009) dX11_readTarga_891 (by decide) (fun c891 => ?_) (fun c891 => ?_)
  · replace hE := fit hE c891
    exact aw_lv _ (List.forall_mem_cons.mpr ⟨rfl, (List.forall_mem_cons.mpr ⟨rfl, (List.forall_mem_cons.mpr ⟨rfl, (List.forall_mem_cons.mpr ⟨rfl, (List.forall_mem_cons.mpr ⟨rfl, (List.forall_mem_cons.mpr ⟨rfl, (List.forall_mem_cons.mpr ⟨rfl, (List.forall_mem_cons.mpr ⟨rfl, (List.forall_mem_cons.mpr ⟨rfl, (List.forall_mem_cons.mpr ⟨rfl, (List.forall_mem_cons.mpr ⟨rfl, (List.forall_mem_cons.mpr ⟨rfl, (List.forall_mem_cons.mpr ⟨rfl, (List.forall_mem_cons.mpr ⟨rfl, (List.forall_mem_cons.mpr ⟨rfl, fun _ h => absurd h List.not_mem_nil⟩)⟩)⟩)⟩)⟩)⟩)⟩)⟩)⟩)⟩)⟩)⟩)⟩)⟩)⟩) (b_X11_readTarga_1009 mo mw ms mt mu dd wi hi sp li sr co hb n hms k721 hk721 v3 v4 v5 v6 v7 v11 v12 v13 v16 v17 v18 v19 v20 v21 mr gt ta _ hE hF)
  · replace hE := fif hE c891
    refine aw_iload dX11_readTarga_894 rfl ?_
    refine aw_bipush (v := 8) dX11_readTarga_896 (by decide) ?_
    refine aw_idiv dX11_readTarga_898 (by decide) ?_
    refine aw_istore (lv2 := [(23, _), (0, _), (3, _), (4, _), (5, _), (6, _), (7, _), (11, _), (12, _), (13, _), (16, _), (17, _), (18, _), (19, _), (20, _), (21, _), (22, _)]) dX11_readTarga_899 (by decide) rfl ?_
    refine aw_aload_n dX11_readTarga_901 rfl ?_
    refine aw_iload dX11_readTarga_902 rfl ?_
    refine aw_callV dX11_readTarga_904 at_mod cvX11_103 rfl (kF_X11_want mo mw mr ms mt mu dd wi hi gt sp ta li sr co hb _  (v11 / 8) (fon_ne hE hF)) rfl (Nat.le_of_ble_eq_true rfl) (by decide) (by decide) (by decide) (by decide) (fun _ _ _ hf => False.elim hf) (fun r904 h904 n904 hp904 => ?_)
    obtain ⟨z904, s904, e904, rfl, rfl, rfl⟩ := hp904
    replace hE := fon_ok e904 hE
    refine aw_if_ne (tgt := 912) dX11_readTarga_907 (by decide) (fun c907 => ?_) (fun c907 => ?_)
    · replace hE := fif hE c907
      refine aw_iload dX11_readTarga_912 rfl ?_
      refine aw_if_eq (tgt := 965) dX11_readTarga_914 (by decide) (fun c914 => ?_) (fun c914 => ?_)
      · replace hE := fit hE c914
        refine aw_iload dX11_readTarga_965 rfl ?_
        refine aw_if_eq (tgt := 984) dX11_readTarga_967 (by decide) (fun c967 => ?_) (fun c967 => ?_)
        · replace hE := fit hE c967
          refine aw_aload_n dX11_readTarga_984 rfl ?_
          refine aw_aload_n dX11_readTarga_985 rfl ?_
          refine aw_getf (v := .int (mr_pos s904)) dX11_readTarga_986 flX11_84_10 at_mod rfl ?_
          refine aw_iload dX11_readTarga_989 rfl ?_
          refine aw_iload dX11_readTarga_991 rfl ?_
          refine aw_callV dX11_readTarga_993 at_mod cvX11_211 rfl (kF_X11_colour mo mw s904 ms mt mu dd wi hi gt sp ta li sr co hb _ hms (mr_pos s904) v11 v13 (fon_ne hE hF)) rfl (Nat.le_of_ble_eq_true rfl) (by decide) (by decide) (by decide) (by decide) (fun _ _ _ hf => False.elim hf) (fun r993 h993 n993 hp993 => ?_)
          obtain ⟨z993, s993, e993, rfl, rfl, rfl⟩ := hp993
          replace hE := fon_ok e993 hE
          exact aw_lv _ (List.forall_mem_cons.mpr ⟨rfl, (List.forall_mem_cons.mpr ⟨rfl, (List.forall_mem_cons.mpr ⟨rfl, (List.forall_mem_cons.mpr ⟨rfl, (List.forall_mem_cons.mpr ⟨rfl, (List.forall_mem_cons.mpr ⟨rfl, (List.forall_mem_cons.mpr ⟨rfl, (List.forall_mem_cons.mpr ⟨rfl, (List.forall_mem_cons.mpr ⟨rfl, (List.forall_mem_cons.mpr ⟨rfl, (List.forall_mem_cons.mpr ⟨rfl, (List.forall_mem_cons.mpr ⟨rfl, (List.forall_mem_cons.mpr ⟨rfl, (List.forall_mem_cons.mpr ⟨rfl, (List.forall_mem_cons.mpr ⟨rfl, fun _ h => absurd h List.not_mem_nil⟩)⟩)⟩)⟩)⟩)⟩)⟩)⟩)⟩)⟩)⟩)⟩)⟩)⟩)⟩) (b_X11_readTarga_996 mo mw ms mt mu dd wi hi sp li sr co hb n hms k721 hk721 v3 v4 v5 v6 v7 v11 v12 v13 v16 v17 v19 v20 v21 (v11 / 8) z993 s904 gt ta _ hE hF)
        · replace hE := fif hE c967
          refine aw_aload_n dX11_readTarga_970 rfl ?_
          refine aw_aload_n dX11_readTarga_971 rfl ?_
          refine aw_getf (v := .int (mr_pos s904)) dX11_readTarga_972 flX11_84_10 at_mod rfl ?_
          refine aw_callV dX11_readTarga_975 at_mod cvX11_99 rfl (kF_X11_b mo mw s904 ms mt mu dd wi hi gt sp ta li sr co hb _ hms (mr_pos s904) (fon_ne hE hF)) rfl (Nat.le_of_ble_eq_true rfl) (by decide) (by decide) (by decide) (by decide) (fun _ _ _ hf => False.elim hf) (fun r975 h975 n975 hp975 => ?_)
          obtain ⟨z975, s975, e975, rfl, rfl, rfl⟩ := hp975
          replace hE := fon_ok e975 hE
          refine aw_callS dX11_readTarga_978  csX11_176 rfl (kF_X11_gray _ _ z975) rfl (Nat.le_of_ble_eq_true rfl) (by decide) (by decide) (by decide) (by decide) (fun _ _ _ hf => False.elim hf) (fun r978 h978 n978 hp978 => ?_)
          obtain ⟨rfl, rfl, rfl⟩ := hp978
          refine aw_goto (tgt := 996) dX11_readTarga_981 (by decide) ?_
          exact aw_lv _ (List.forall_mem_cons.mpr ⟨rfl, (List.forall_mem_cons.mpr ⟨rfl, (List.forall_mem_cons.mpr ⟨rfl, (List.forall_mem_cons.mpr ⟨rfl, (List.forall_mem_cons.mpr ⟨rfl, (List.forall_mem_cons.mpr ⟨rfl, (List.forall_mem_cons.mpr ⟨rfl, (List.forall_mem_cons.mpr ⟨rfl, (List.forall_mem_cons.mpr ⟨rfl, (List.forall_mem_cons.mpr ⟨rfl, (List.forall_mem_cons.mpr ⟨rfl, (List.forall_mem_cons.mpr ⟨rfl, (List.forall_mem_cons.mpr ⟨rfl, (List.forall_mem_cons.mpr ⟨rfl, (List.forall_mem_cons.mpr ⟨rfl, fun _ h => absurd h List.not_mem_nil⟩)⟩)⟩)⟩)⟩)⟩)⟩)⟩)⟩)⟩)⟩)⟩)⟩)⟩)⟩) (b_X11_readTarga_996 mo mw ms mt mu dd wi hi sp li sr co hb n hms k721 hk721 v3 v4 v5 v6 v7 v11 v12 v13 v16 v17 v19 v20 v21 (v11 / 8) (F_X11_gray z975) s904 gt ta _ hE hF)
      · replace hE := fif hE c914
        refine aw_aload_n dX11_readTarga_917 rfl ?_
        refine aw_aload_n dX11_readTarga_918 rfl ?_
        refine aw_getf (v := .int (mr_pos s904)) dX11_readTarga_919 flX11_84_10 at_mod rfl ?_
        refine aw_callV dX11_readTarga_922 at_mod cvX11_99 rfl (kF_X11_b mo mw s904 ms mt mu dd wi hi gt sp ta li sr co hb _ hms (mr_pos s904) (fon_ne hE hF)) rfl (Nat.le_of_ble_eq_true rfl) (by decide) (by decide) (by decide) (by decide) (fun _ _ _ hf => False.elim hf) (fun r922 h922 n922 hp922 => ?_)
        obtain ⟨z922, s922, e922, rfl, rfl, rfl⟩ := hp922
        replace hE := fon_ok e922 hE
        refine aw_iload dX11_readTarga_925 rfl ?_
        refine aw_isub dX11_readTarga_927 ?_
        refine aw_istore (lv2 := [(24, _), (23, _), (0, _), (3, _), (4, _), (5, _), (6, _), (7, _), (11, _), (12, _), (13, _), (16, _), (17, _), (18, _), (19, _), (20, _), (21, _), (22, _)]) dX11_readTarga_928 (by decide) rfl ?_
        refine aw_iload dX11_readTarga_930 rfl ?_
        refine aw_if_lt (tgt := 942) dX11_readTarga_932 (by decide) (fun c932 => ?_) (fun c932 => ?_)
        · replace hE := fit hE c932
          exact aw_lv _ (List.forall_mem_cons.mpr ⟨rfl, fun _ h => absurd h List.not_mem_nil⟩) (b_X11_readTarga_942 mo mw ms mt mu dd wi hi sp li sr co hb n hms  s904 gt ta _ hE hF)
        · replace hE := fif hE c932
          refine aw_iload dX11_readTarga_935 rfl ?_
          refine aw_iload dX11_readTarga_937 rfl ?_
          refine aw_icmp_lt (tgt := 953) dX11_readTarga_939 (by decide) (fun c939 => ?_) (fun c939 => ?_)
          · replace hE := fit hE c939
            refine aw_aload_n dX11_readTarga_953 rfl ?_
            refine aw_getf (v := .ref 39) dX11_readTarga_954 flX11_49_10 at_mod rfl ?_
            refine aw_iload dX11_readTarga_957 rfl ?_
            obtain ⟨g959, hE⟩ := fgd hE hF
            refine aw_iald (f := ta) dX11_readTarga_959 at_mtable (vp_in_iff.mpr g959) ?_
            refine aw_istore (lv2 := [(18, _), (24, _), (23, _), (0, _), (3, _), (4, _), (5, _), (6, _), (7, _), (11, _), (12, _), (13, _), (16, _), (17, _), (19, _), (20, _), (21, _), (22, _)]) dX11_readTarga_960 (by decide) rfl ?_
            refine aw_goto (tgt := 998) dX11_readTarga_962 (by decide) ?_
            exact aw_lv _ (List.forall_mem_cons.mpr ⟨rfl, (List.forall_mem_cons.mpr ⟨rfl, (List.forall_mem_cons.mpr ⟨rfl, (List.forall_mem_cons.mpr ⟨rfl, (List.forall_mem_cons.mpr ⟨rfl, (List.forall_mem_cons.mpr ⟨rfl, (List.forall_mem_cons.mpr ⟨rfl, (List.forall_mem_cons.mpr ⟨rfl, (List.forall_mem_cons.mpr ⟨rfl, (List.forall_mem_cons.mpr ⟨rfl, (List.forall_mem_cons.mpr ⟨rfl, (List.forall_mem_cons.mpr ⟨rfl, (List.forall_mem_cons.mpr ⟨rfl, (List.forall_mem_cons.mpr ⟨rfl, (List.forall_mem_cons.mpr ⟨rfl, (List.forall_mem_cons.mpr ⟨rfl, fun _ h => absurd h List.not_mem_nil⟩)⟩)⟩)⟩)⟩)⟩)⟩)⟩)⟩)⟩)⟩)⟩)⟩)⟩)⟩)⟩) (b_X11_readTarga_998 mo mw ms mt mu dd wi hi sp li sr co hb n hms k721 hk721 v3 v4 v5 v6 v7 v11 v12 v13 v16 v17 (ta (Int32.toNatClampNeg (z922 - v6))) v19 v20 v21 (v11 / 8) s904 gt ta _ hE hF)
          · replace hE := fif hE c939
            exact aw_lv _ (List.forall_mem_cons.mpr ⟨rfl, fun _ h => absurd h List.not_mem_nil⟩) (b_X11_readTarga_942 mo mw ms mt mu dd wi hi sp li sr co hb n hms  s904 gt ta _ hE hF)
    · replace hE := fit hE c907
      refine aw_iconst (v := 0) dX11_readTarga_910 (by decide) ?_
      exact aw_zret dX11_readTarga_911 rfl (narB (by decide)) (Nat.zero_le _) (Nat.zero_le _) (Nat.zero_le _) (Nat.zero_le _) ⟨_, _, hE.symm, rfl, rfl, rfl⟩
def F_X11_readTarga_886 (sb : A) (k721 : Int32 → Int32 → Int32 → Int32 → Int32 → Int32 → Int32 → Int32 → Int32 → Int32 → Int32 → Int32 → MR → A → A → Out (MR × A × A) Int32) (v3 : Int32) (v4 : Int32) (v5 : Int32) (v6 : Int32) (v7 : Int32) (v11 : Int32) (v12 : Int32) (v13 : Int32) (v16 : Int32) (v17 : Int32) (v18 : Int32) (v19 : Int32) (v20 : Int32) (v21 : Int32) (v22 : Int32) (mr : MR) (gt : A) (ta : A) : Out (MR × A × A) Int32 := F_X11_readTarga_889 sb k721 v3 v4 v5 v6 v7 v11 v12 v13 (v16 + (-1)) v17 v18 v19 v20 v21 v22 mr gt ta
set_option maxHeartbeats 1000000 in
set_option maxRecDepth 100000 in
theorem b_X11_readTarga_886 (mo : MO) (mw : MW) (ms : Nat) (mt : A) (mu : A) (dd : A) (wi : A) (hi : A) (sp : A) (li : A) (sr : A) (co : A) (hb : aH) (n : Nat) (hms : isMS ms) (k721 : Int32 → Int32 → Int32 → Int32 → Int32 → Int32 → Int32 → Int32 → Int32 → Int32 → Int32 → Int32 → MR → A → A → Out (MR × A × A) Int32) (hk721 : Q_X11_readTarga_721 mo mw ms mt mu dd wi hi sp li sr co hb n k721) : Q_X11_readTarga_886 mo mw ms mt mu dd wi hi sp li sr co hb n (F_X11_readTarga_886 (srcB ms mt mu) k721) := by
  intro v3 v4 v5 v6 v7 v11 v12 v13 v16 v17 v18 v19 v20 v21 v22 mr gt ta res hE hF
  unfold F_X11_readTarga_886 at hE
  refine aw_iinc (v := (v16 + (-1))) (lv2 := [(16, _), (0, _), (3, _), (4, _), (5, _), (6, _), (7, _), (11, _), (12, _), (13, _), (17, _), (18, _), (19, _), (20, _), (21, _), (22, _)]) dX11_readTarga_886 rfl (incE (by decide)) (by decide) rfl ?_
  exact aw_lv _ (List.forall_mem_cons.mpr ⟨rfl, (List.forall_mem_cons.mpr ⟨rfl, (List.forall_mem_cons.mpr ⟨rfl, (List.forall_mem_cons.mpr ⟨rfl, (List.forall_mem_cons.mpr ⟨rfl, (List.forall_mem_cons.mpr ⟨rfl, (List.forall_mem_cons.mpr ⟨rfl, (List.forall_mem_cons.mpr ⟨rfl, (List.forall_mem_cons.mpr ⟨rfl, (List.forall_mem_cons.mpr ⟨rfl, (List.forall_mem_cons.mpr ⟨rfl, (List.forall_mem_cons.mpr ⟨rfl, (List.forall_mem_cons.mpr ⟨rfl, (List.forall_mem_cons.mpr ⟨rfl, (List.forall_mem_cons.mpr ⟨rfl, (List.forall_mem_cons.mpr ⟨rfl, fun _ h => absurd h List.not_mem_nil⟩)⟩)⟩)⟩)⟩)⟩)⟩)⟩)⟩)⟩)⟩)⟩)⟩)⟩)⟩)⟩) (b_X11_readTarga_889 mo mw ms mt mu dd wi hi sp li sr co hb n hms k721 hk721 v3 v4 v5 v6 v7 v11 v12 v13 (v16 + (-1)) v17 v18 v19 v20 v21 v22 mr gt ta _ hE hF)
def F_X11_readTarga_884 (sb : A) (k721 : Int32 → Int32 → Int32 → Int32 → Int32 → Int32 → Int32 → Int32 → Int32 → Int32 → Int32 → Int32 → MR → A → A → Out (MR × A × A) Int32) (v3 : Int32) (v4 : Int32) (v5 : Int32) (v6 : Int32) (v7 : Int32) (v11 : Int32) (v12 : Int32) (v13 : Int32) (v16 : Int32) (v17 : Int32) (v18 : Int32) (v19 : Int32) (v20 : Int32) (v21 : Int32) (t0 : Int32) (mr : MR) (gt : A) (ta : A) : Out (MR × A × A) Int32 := F_X11_readTarga_886 sb k721 v3 v4 v5 v6 v7 v11 v12 v13 v16 v17 v18 v19 v20 v21 t0 mr gt ta
set_option maxHeartbeats 1000000 in
set_option maxRecDepth 100000 in
theorem b_X11_readTarga_884 (mo : MO) (mw : MW) (ms : Nat) (mt : A) (mu : A) (dd : A) (wi : A) (hi : A) (sp : A) (li : A) (sr : A) (co : A) (hb : aH) (n : Nat) (hms : isMS ms) (k721 : Int32 → Int32 → Int32 → Int32 → Int32 → Int32 → Int32 → Int32 → Int32 → Int32 → Int32 → Int32 → MR → A → A → Out (MR × A × A) Int32) (hk721 : Q_X11_readTarga_721 mo mw ms mt mu dd wi hi sp li sr co hb n k721) : Q_X11_readTarga_884 mo mw ms mt mu dd wi hi sp li sr co hb n (F_X11_readTarga_884 (srcB ms mt mu) k721) := by
  intro v3 v4 v5 v6 v7 v11 v12 v13 v16 v17 v18 v19 v20 v21 t0 mr gt ta res hE hF
  unfold F_X11_readTarga_884 at hE
  refine aw_istore (lv2 := [(22, _), (0, _), (3, _), (4, _), (5, _), (6, _), (7, _), (11, _), (12, _), (13, _), (16, _), (17, _), (18, _), (19, _), (20, _), (21, _)]) dX11_readTarga_884 (by decide) rfl ?_
  exact aw_lv _ (List.forall_mem_cons.mpr ⟨rfl, (List.forall_mem_cons.mpr ⟨rfl, (List.forall_mem_cons.mpr ⟨rfl, (List.forall_mem_cons.mpr ⟨rfl, (List.forall_mem_cons.mpr ⟨rfl, (List.forall_mem_cons.mpr ⟨rfl, (List.forall_mem_cons.mpr ⟨rfl, (List.forall_mem_cons.mpr ⟨rfl, (List.forall_mem_cons.mpr ⟨rfl, (List.forall_mem_cons.mpr ⟨rfl, (List.forall_mem_cons.mpr ⟨rfl, (List.forall_mem_cons.mpr ⟨rfl, (List.forall_mem_cons.mpr ⟨rfl, (List.forall_mem_cons.mpr ⟨rfl, (List.forall_mem_cons.mpr ⟨rfl, (List.forall_mem_cons.mpr ⟨rfl, fun _ h => absurd h List.not_mem_nil⟩)⟩)⟩)⟩)⟩)⟩)⟩)⟩)⟩)⟩)⟩)⟩)⟩)⟩)⟩)⟩) (b_X11_readTarga_886 mo mw ms mt mu dd wi hi sp li sr co hb n hms k721 hk721 v3 v4 v5 v6 v7 v11 v12 v13 v16 v17 v18 v19 v20 v21 t0 mr gt ta _ hE hF)
def F_X11_readTarga_827 (sb : A) (k721 : Int32 → Int32 → Int32 → Int32 → Int32 → Int32 → Int32 → Int32 → Int32 → Int32 → Int32 → Int32 → MR → A → A → Out (MR × A × A) Int32) (v3 : Int32) (v4 : Int32) (v5 : Int32) (v6 : Int32) (v7 : Int32) (v11 : Int32) (v12 : Int32) (v13 : Int32) (v17 : Int32) (v18 : Int32) (v19 : Int32) (v20 : Int32) (v21 : Int32) (v22 : Int32) (t0 : Int32) (mr : MR) (gt : A) (ta : A) : Out (MR × A × A) Int32 := if (v20 + t0) ≤ (mr_gw mr) then (F_X11_readTarga_886 sb k721 v3 v4 v5 v6 v7 v11 v12 v13 t0 v17 v18 v19 v20 v21 v22 ((mr_size mr), ((mr_pos mr) + 1), (mr_kind mr), (mr_whr mr), (mr_gw mr), (mr_gh mr), (mr_one mr), (mr_two mr), ((mr_three mr) + 1)) gt ta) else (fon (F_X11_wrong 4 (mr_pos mr) mr) (fun z847 s847 => if isB z847 then (fok (z847 : Int32) (s847, gt, ta)) else fno) (fun _ _ => fno))
set_option maxHeartbeats 1000000 in
set_option maxRecDepth 100000 in
theorem b_X11_readTarga_827 (mo : MO) (mw : MW) (ms : Nat) (mt : A) (mu : A) (dd : A) (wi : A) (hi : A) (sp : A) (li : A) (sr : A) (co : A) (hb : aH) (n : Nat) (hms : isMS ms) (k721 : Int32 → Int32 → Int32 → Int32 → Int32 → Int32 → Int32 → Int32 → Int32 → Int32 → Int32 → Int32 → MR → A → A → Out (MR × A × A) Int32) (hk721 : Q_X11_readTarga_721 mo mw ms mt mu dd wi hi sp li sr co hb n k721) : Q_X11_readTarga_827 mo mw ms mt mu dd wi hi sp li sr co hb n (F_X11_readTarga_827 (srcB ms mt mu) k721) := by
  intro v3 v4 v5 v6 v7 v11 v12 v13 v17 v18 v19 v20 v21 v22 t0 mr gt ta res hE hF
  unfold F_X11_readTarga_827 at hE
  refine aw_istore (lv2 := [(16, _), (0, _), (3, _), (4, _), (5, _), (6, _), (7, _), (11, _), (12, _), (13, _), (17, _), (18, _), (19, _), (20, _), (21, _), (22, _)]) dX11_readTarga_827 (by decide) rfl ?_
  refine aw_iload dX11_readTarga_829 rfl ?_
  refine aw_iload dX11_readTarga_831 rfl ?_
  refine aw_iadd dX11_readTarga_833 ?_
  refine aw_aload_n dX11_readTarga_834 rfl ?_
  refine aw_getf (v := .int (mr_gw mr)) dX11_readTarga_835 flX11_109_10 at_mod rfl ?_
  refine aw_icmp_le (tgt := 851) dX11_readTarga_838 (by decide) (fun c838 => ?_) (fun c838 => ?_)
  · replace hE := fit hE c838
    refine aw_aload_n dX11_readTarga_851 rfl ?_
    refine aw_dup dX11_readTarga_852 rfl ?_
    refine aw_getf (v := .int (mr_pos mr)) dX11_readTarga_853 flX11_84_10 at_mod rfl ?_
    refine aw_iconst (v := 1) dX11_readTarga_856 (by decide) ?_
    refine aw_iadd dX11_readTarga_857 ?_
    refine aw_putf dX11_readTarga_858 ptX11_84_10 at_mod (Nat.le_of_ble_eq_true rfl) ⟨rfl, rfl⟩ ?_
    refine aw_eqh (h2 := HM mo mw ((mr_size mr), ((mr_pos mr) + 1), (mr_kind mr), (mr_whr mr), (mr_gw mr), (mr_gh mr), (mr_one mr), (mr_two mr), (mr_three mr)) ms mt mu dd wi hi gt sp ta li sr co hb) up_mod ?_
    refine aw_aload_n dX11_readTarga_861 rfl ?_
    refine aw_dup dX11_readTarga_862 rfl ?_
    refine aw_getf (v := .int (mr_three mr)) dX11_readTarga_863 flX11_136_10 at_mod rfl ?_
    refine aw_iconst (v := 1) dX11_readTarga_866 (by decide) ?_
    refine aw_iadd dX11_readTarga_867 ?_
    refine aw_putf dX11_readTarga_868 ptX11_136_10 at_mod (Nat.le_of_ble_eq_true rfl) ⟨rfl, rfl⟩ ?_
    refine aw_eqh (h2 := HM mo mw ((mr_size mr), ((mr_pos mr) + 1), (mr_kind mr), (mr_whr mr), (mr_gw mr), (mr_gh mr), (mr_one mr), (mr_two mr), ((mr_three mr) + 1)) ms mt mu dd wi hi gt sp ta li sr co hb) up_mod ?_
    refine aw_goto (tgt := 886) dX11_readTarga_871 (by decide) ?_
    exact aw_lv _ (List.forall_mem_cons.mpr ⟨rfl, (List.forall_mem_cons.mpr ⟨rfl, (List.forall_mem_cons.mpr ⟨rfl, (List.forall_mem_cons.mpr ⟨rfl, (List.forall_mem_cons.mpr ⟨rfl, (List.forall_mem_cons.mpr ⟨rfl, (List.forall_mem_cons.mpr ⟨rfl, (List.forall_mem_cons.mpr ⟨rfl, (List.forall_mem_cons.mpr ⟨rfl, (List.forall_mem_cons.mpr ⟨rfl, (List.forall_mem_cons.mpr ⟨rfl, (List.forall_mem_cons.mpr ⟨rfl, (List.forall_mem_cons.mpr ⟨rfl, (List.forall_mem_cons.mpr ⟨rfl, (List.forall_mem_cons.mpr ⟨rfl, (List.forall_mem_cons.mpr ⟨rfl, fun _ h => absurd h List.not_mem_nil⟩)⟩)⟩)⟩)⟩)⟩)⟩)⟩)⟩)⟩)⟩)⟩)⟩)⟩)⟩)⟩) (b_X11_readTarga_886 mo mw ms mt mu dd wi hi sp li sr co hb n hms k721 hk721 v3 v4 v5 v6 v7 v11 v12 v13 t0 v17 v18 v19 v20 v21 v22 ((mr_size mr), ((mr_pos mr) + 1), (mr_kind mr), (mr_whr mr), (mr_gw mr), (mr_gh mr), (mr_one mr), (mr_two mr), ((mr_three mr) + 1)) gt ta _ hE hF)
  · replace hE := fif hE c838
    refine aw_aload_n dX11_readTarga_841 rfl ?_
    refine aw_iconst (v := 4) dX11_readTarga_842 (by decide) ?_
    refine aw_aload_n dX11_readTarga_843 rfl ?_
    refine aw_getf (v := .int (mr_pos mr)) dX11_readTarga_844 flX11_84_10 at_mod rfl ?_
    refine aw_callV dX11_readTarga_847 at_mod cvX11_90 rfl (kF_X11_wrong mo mw mr ms mt mu dd wi hi gt sp ta li sr co hb _  4 (mr_pos mr) (fon_ne hE hF)) rfl (Nat.le_of_ble_eq_true rfl) (by decide) (by decide) (by decide) (by decide) (fun _ _ _ hf => False.elim hf) (fun r847 h847 n847 hp847 => ?_)
    obtain ⟨z847, s847, e847, rfl, rfl, rfl⟩ := hp847
    replace hE := fon_ok e847 hE
    obtain ⟨g850, hE⟩ := fgd hE hF
    exact aw_zret dX11_readTarga_850 rfl (narB g850) (Nat.zero_le _) (Nat.zero_le _) (Nat.zero_le _) (Nat.zero_le _) ⟨_, _, hE.symm, rfl, rfl, rfl⟩
def F_X11_readTarga_796 (sb : A) (k721 : Int32 → Int32 → Int32 → Int32 → Int32 → Int32 → Int32 → Int32 → Int32 → Int32 → Int32 → Int32 → MR → A → A → Out (MR × A × A) Int32) (v3 : Int32) (v4 : Int32) (v5 : Int32) (v6 : Int32) (v7 : Int32) (v11 : Int32) (v12 : Int32) (v13 : Int32) (v18 : Int32) (v19 : Int32) (v20 : Int32) (v21 : Int32) (v22 : Int32) (t0 : Int32) (mr : MR) (gt : A) (ta : A) : Out (MR × A × A) Int32 := if t0 = 0 then (fon (F_X11_b (mr_pos mr) sb) (fun z822 s822 => F_X11_readTarga_827 sb k721 v3 v4 v5 v6 v7 v11 v12 v13 t0 v18 v19 v20 v21 v22 (z822 + 1) mr gt ta) (fun _ _ => fno)) else (fon (F_X11_b (mr_pos mr) sb) (fun z808 s808 => F_X11_readTarga_827 sb k721 v3 v4 v5 v6 v7 v11 v12 v13 t0 v18 v19 v20 v21 v22 (z808 - 127) mr gt ta) (fun _ _ => fno))
set_option maxHeartbeats 1000000 in
set_option maxRecDepth 100000 in
theorem b_X11_readTarga_796 (mo : MO) (mw : MW) (ms : Nat) (mt : A) (mu : A) (dd : A) (wi : A) (hi : A) (sp : A) (li : A) (sr : A) (co : A) (hb : aH) (n : Nat) (hms : isMS ms) (k721 : Int32 → Int32 → Int32 → Int32 → Int32 → Int32 → Int32 → Int32 → Int32 → Int32 → Int32 → Int32 → MR → A → A → Out (MR × A × A) Int32) (hk721 : Q_X11_readTarga_721 mo mw ms mt mu dd wi hi sp li sr co hb n k721) : Q_X11_readTarga_796 mo mw ms mt mu dd wi hi sp li sr co hb n (F_X11_readTarga_796 (srcB ms mt mu) k721) := by
  intro v3 v4 v5 v6 v7 v11 v12 v13 v18 v19 v20 v21 v22 t0 mr gt ta res hE hF
  unfold F_X11_readTarga_796 at hE
  refine aw_istore (lv2 := [(17, _), (0, _), (3, _), (4, _), (5, _), (6, _), (7, _), (11, _), (12, _), (13, _), (18, _), (19, _), (20, _), (21, _), (22, _)]) dX11_readTarga_796 (by decide) rfl ?_
  refine aw_iload dX11_readTarga_798 rfl ?_
  refine aw_if_eq (tgt := 817) dX11_readTarga_800 (by decide) (fun c800 => ?_) (fun c800 => ?_)
  · replace hE := fit hE c800
    refine aw_aload_n dX11_readTarga_817 rfl ?_
    refine aw_aload_n dX11_readTarga_818 rfl ?_
    refine aw_getf (v := .int (mr_pos mr)) dX11_readTarga_819 flX11_84_10 at_mod rfl ?_
    refine aw_callV dX11_readTarga_822 at_mod cvX11_99 rfl (kF_X11_b mo mw mr ms mt mu dd wi hi gt sp ta li sr co hb _ hms (mr_pos mr) (fon_ne hE hF)) rfl (Nat.le_of_ble_eq_true rfl) (by decide) (by decide) (by decide) (by decide) (fun _ _ _ hf => False.elim hf) (fun r822 h822 n822 hp822 => ?_)
    obtain ⟨z822, s822, e822, rfl, rfl, rfl⟩ := hp822
    replace hE := fon_ok e822 hE
    refine aw_iconst (v := 1) dX11_readTarga_825 (by decide) ?_
    refine aw_iadd dX11_readTarga_826 ?_
    exact aw_lv _ (List.forall_mem_cons.mpr ⟨rfl, (List.forall_mem_cons.mpr ⟨rfl, (List.forall_mem_cons.mpr ⟨rfl, (List.forall_mem_cons.mpr ⟨rfl, (List.forall_mem_cons.mpr ⟨rfl, (List.forall_mem_cons.mpr ⟨rfl, (List.forall_mem_cons.mpr ⟨rfl, (List.forall_mem_cons.mpr ⟨rfl, (List.forall_mem_cons.mpr ⟨rfl, (List.forall_mem_cons.mpr ⟨rfl, (List.forall_mem_cons.mpr ⟨rfl, (List.forall_mem_cons.mpr ⟨rfl, (List.forall_mem_cons.mpr ⟨rfl, (List.forall_mem_cons.mpr ⟨rfl, (List.forall_mem_cons.mpr ⟨rfl, fun _ h => absurd h List.not_mem_nil⟩)⟩)⟩)⟩)⟩)⟩)⟩)⟩)⟩)⟩)⟩)⟩)⟩)⟩)⟩) (b_X11_readTarga_827 mo mw ms mt mu dd wi hi sp li sr co hb n hms k721 hk721 v3 v4 v5 v6 v7 v11 v12 v13 t0 v18 v19 v20 v21 v22 (z822 + 1) mr gt ta _ hE hF)
  · replace hE := fif hE c800
    refine aw_aload_n dX11_readTarga_803 rfl ?_
    refine aw_aload_n dX11_readTarga_804 rfl ?_
    refine aw_getf (v := .int (mr_pos mr)) dX11_readTarga_805 flX11_84_10 at_mod rfl ?_
    refine aw_callV dX11_readTarga_808 at_mod cvX11_99 rfl (kF_X11_b mo mw mr ms mt mu dd wi hi gt sp ta li sr co hb _ hms (mr_pos mr) (fon_ne hE hF)) rfl (Nat.le_of_ble_eq_true rfl) (by decide) (by decide) (by decide) (by decide) (fun _ _ _ hf => False.elim hf) (fun r808 h808 n808 hp808 => ?_)
    obtain ⟨z808, s808, e808, rfl, rfl, rfl⟩ := hp808
    replace hE := fon_ok e808 hE
    refine aw_bipush (v := 127) dX11_readTarga_811 (by decide) ?_
    refine aw_isub dX11_readTarga_813 ?_
    refine aw_goto (tgt := 827) dX11_readTarga_814 (by decide) ?_
    exact aw_lv _ (List.forall_mem_cons.mpr ⟨rfl, (List.forall_mem_cons.mpr ⟨rfl, (List.forall_mem_cons.mpr ⟨rfl, (List.forall_mem_cons.mpr ⟨rfl, (List.forall_mem_cons.mpr ⟨rfl, (List.forall_mem_cons.mpr ⟨rfl, (List.forall_mem_cons.mpr ⟨rfl, (List.forall_mem_cons.mpr ⟨rfl, (List.forall_mem_cons.mpr ⟨rfl, (List.forall_mem_cons.mpr ⟨rfl, (List.forall_mem_cons.mpr ⟨rfl, (List.forall_mem_cons.mpr ⟨rfl, (List.forall_mem_cons.mpr ⟨rfl, (List.forall_mem_cons.mpr ⟨rfl, (List.forall_mem_cons.mpr ⟨rfl, fun _ h => absurd h List.not_mem_nil⟩)⟩)⟩)⟩)⟩)⟩)⟩)⟩)⟩)⟩)⟩)⟩)⟩)⟩)⟩) (b_X11_readTarga_827 mo mw ms mt mu dd wi hi sp li sr co hb n hms k721 hk721 v3 v4 v5 v6 v7 v11 v12 v13 t0 v18 v19 v20 v21 v22 (z808 - 127) mr gt ta _ hE hF)
def F_X11_readTarga_721 (sb : A) (k721 : Int32 → Int32 → Int32 → Int32 → Int32 → Int32 → Int32 → Int32 → Int32 → Int32 → Int32 → Int32 → MR → A → A → Out (MR × A × A) Int32) (v3 : Int32) (v4 : Int32) (v5 : Int32) (v6 : Int32) (v7 : Int32) (v11 : Int32) (v12 : Int32) (v13 : Int32) (v16 : Int32) (v17 : Int32) (v18 : Int32) (v19 : Int32) (mr : MR) (gt : A) (ta : A) : Out (MR × A × A) Int32 := if ((mr_gw mr) * (mr_gh mr)) ≤ v19 then (if (mr_pos mr) = (mr_size mr) then (F_X11_readTarga_1102 sb mr gt ta) else (fon (F_X11_isTail sb mr) (fun z1084 s1084 => if z1084 = 0 then (fon (F_X11_wrong 5 (mr_pos mr) mr) (fun z1096 s1096 => if z1096 = 0 then (fok (0 : Int32) (s1096, gt, ta)) else (F_X11_readTarga_1102 sb s1096 gt ta)) (fun _ _ => fno)) else (F_X11_readTarga_1102 sb mr gt ta)) (fun _ _ => fno))) else (if ¬ (mr_gw mr) = 0 then (if ¬ (mr_gw mr) = 0 then (if v3 < 9 then (F_X11_readTarga_889 sb k721 v3 v4 v5 v6 v7 v11 v12 v13 v16 v17 v18 v19 (v19 - v19 / (mr_gw mr) * (mr_gw mr)) (v19 / (mr_gw mr)) (1 : Int32) mr gt ta) else (if v16 = 0 then (fon (F_X11_want 1 mr) (fun z769 s769 => if z769 = 0 then (fok (0 : Int32) (s769, gt, ta)) else (fon (F_X11_b (mr_pos s769) sb) (fun z782 s782 => if z782 < 128 then (F_X11_readTarga_796 sb k721 v3 v4 v5 v6 v7 v11 v12 v13 v18 v19 (v19 - v19 / (mr_gw mr) * (mr_gw mr)) (v19 / (mr_gw mr)) (1 : Int32) (0 : Int32) s769 gt ta) else (F_X11_readTarga_796 sb k721 v3 v4 v5 v6 v7 v11 v12 v13 v18 v19 (v19 - v19 / (mr_gw mr) * (mr_gw mr)) (v19 / (mr_gw mr)) (1 : Int32) (1 : Int32) s769 gt ta)) (fun _ _ => fno))) (fun _ _ => fno)) else (if v17 = 0 then (F_X11_readTarga_884 sb k721 v3 v4 v5 v6 v7 v11 v12 v13 v16 v17 v18 v19 (v19 - v19 / (mr_gw mr) * (mr_gw mr)) (v19 / (mr_gw mr)) (1 : Int32) mr gt ta) else (F_X11_readTarga_884 sb k721 v3 v4 v5 v6 v7 v11 v12 v13 v16 v17 v18 v19 (v19 - v19 / (mr_gw mr) * (mr_gw mr)) (v19 / (mr_gw mr)) (0 : Int32) mr gt ta)))) else fno) else fno)
set_option maxHeartbeats 1000000 in
set_option maxRecDepth 100000 in
theorem b_X11_readTarga_721 (mo : MO) (mw : MW) (ms : Nat) (mt : A) (mu : A) (dd : A) (wi : A) (hi : A) (sp : A) (li : A) (sr : A) (co : A) (hb : aH) (n : Nat) (hms : isMS ms) (k721 : Int32 → Int32 → Int32 → Int32 → Int32 → Int32 → Int32 → Int32 → Int32 → Int32 → Int32 → Int32 → MR → A → A → Out (MR × A × A) Int32) (hk721 : Q_X11_readTarga_721 mo mw ms mt mu dd wi hi sp li sr co hb n k721) : Q_X11_readTarga_721 mo mw ms mt mu dd wi hi sp li sr co hb n (F_X11_readTarga_721 (srcB ms mt mu) k721) := by
  intro v3 v4 v5 v6 v7 v11 v12 v13 v16 v17 v18 v19 mr gt ta res hE hF
  unfold F_X11_readTarga_721 at hE
  refine aw_iload dX11_readTarga_721 rfl ?_
  refine aw_aload_n dX11_readTarga_723 rfl ?_
  refine aw_getf (v := .int (mr_gw mr)) dX11_readTarga_724 flX11_109_10 at_mod rfl ?_
  refine aw_aload_n dX11_readTarga_727 rfl ?_
  refine aw_getf (v := .int (mr_gh mr)) dX11_readTarga_728 flX11_112_10 at_mod rfl ?_
  refine aw_imul dX11_readTarga_731 ?_
  refine aw_icmp_ge (tgt := 1072) dX11_readTarga_732 (by decide) (fun c732 => ?_) (fun c732 => ?_)
  · replace hE := fit hE c732
    refine aw_aload_n dX11_readTarga_1072 rfl ?_
    refine aw_getf (v := .int (mr_pos mr)) dX11_readTarga_1073 flX11_84_10 at_mod rfl ?_
    refine aw_aload_n dX11_readTarga_1076 rfl ?_
    refine aw_getf (v := .int (mr_size mr)) dX11_readTarga_1077 flX11_87_10 at_mod rfl ?_
    refine aw_icmp_eq (tgt := 1102) dX11_readTarga_1080 (by decide) (fun c1080 => ?_) (fun c1080 => ?_)
    · replace hE := fit hE c1080
      exact aw_lv _ (fun _ h => absurd h List.not_mem_nil) (b_X11_readTarga_1102 mo mw ms mt mu dd wi hi sp li sr co hb n hms  mr gt ta _ hE hF)
    · replace hE := fif hE c1080
      refine aw_aload_n dX11_readTarga_1083 rfl ?_
      refine aw_callV dX11_readTarga_1084 at_mod cvX11_215 rfl (kF_X11_isTail mo mw mr ms mt mu dd wi hi gt sp ta li sr co hb _ hms  (fon_ne hE hF)) rfl (Nat.le_of_ble_eq_true rfl) (by decide) (by decide) (by decide) (by decide) (fun _ _ _ hf => False.elim hf) (fun r1084 h1084 n1084 hp1084 => ?_)
      obtain ⟨z1084, s1084, e1084, rfl, rfl, rfl⟩ := hp1084
      replace hE := fon_ok e1084 hE
      refine aw_if_ne (tgt := 1102) dX11_readTarga_1087 (by decide) (fun c1087 => ?_) (fun c1087 => ?_)
      · replace hE := fif hE c1087
        exact aw_lv _ (fun _ h => absurd h List.not_mem_nil) (b_X11_readTarga_1102 mo mw ms mt mu dd wi hi sp li sr co hb n hms  mr gt ta _ hE hF)
      · replace hE := fit hE c1087
        refine aw_aload_n dX11_readTarga_1090 rfl ?_
        refine aw_iconst (v := 5) dX11_readTarga_1091 (by decide) ?_
        refine aw_aload_n dX11_readTarga_1092 rfl ?_
        refine aw_getf (v := .int (mr_pos mr)) dX11_readTarga_1093 flX11_84_10 at_mod rfl ?_
        refine aw_callV dX11_readTarga_1096 at_mod cvX11_90 rfl (kF_X11_wrong mo mw mr ms mt mu dd wi hi gt sp ta li sr co hb _  5 (mr_pos mr) (fon_ne hE hF)) rfl (Nat.le_of_ble_eq_true rfl) (by decide) (by decide) (by decide) (by decide) (fun _ _ _ hf => False.elim hf) (fun r1096 h1096 n1096 hp1096 => ?_)
        obtain ⟨z1096, s1096, e1096, rfl, rfl, rfl⟩ := hp1096
        replace hE := fon_ok e1096 hE
        refine aw_if_eq (tgt := 1106) dX11_readTarga_1099 (by decide) (fun c1099 => ?_) (fun c1099 => ?_)
        · replace hE := fit hE c1099
          refine aw_iconst (v := 0) dX11_readTarga_1106 (by decide) ?_
          exact aw_zret dX11_readTarga_1107 rfl (narB (by decide)) (Nat.zero_le _) (Nat.zero_le _) (Nat.zero_le _) (Nat.zero_le _) ⟨_, _, hE.symm, rfl, rfl, rfl⟩
        · replace hE := fif hE c1099
          exact aw_lv _ (fun _ h => absurd h List.not_mem_nil) (b_X11_readTarga_1102 mo mw ms mt mu dd wi hi sp li sr co hb n hms  s1096 gt ta _ hE hF)
  · replace hE := fif hE c732
    refine aw_iload dX11_readTarga_735 rfl ?_
    refine aw_aload_n dX11_readTarga_737 rfl ?_
    refine aw_getf (v := .int (mr_gw mr)) dX11_readTarga_738 flX11_109_10 at_mod rfl ?_
    obtain ⟨g741, hE⟩ := fgd hE hF
    refine aw_irem dX11_readTarga_741 g741 ?_
    refine aw_istore (lv2 := [(20, _), (0, _), (3, _), (4, _), (5, _), (6, _), (7, _), (11, _), (12, _), (13, _), (16, _), (17, _), (18, _), (19, _)]) dX11_readTarga_742 (by decide) rfl ?_
    refine aw_iload dX11_readTarga_744 rfl ?_
    refine aw_aload_n dX11_readTarga_746 rfl ?_
    refine aw_getf (v := .int (mr_gw mr)) dX11_readTarga_747 flX11_109_10 at_mod rfl ?_
    obtain ⟨g750, hE⟩ := fgd hE hF
    refine aw_idiv dX11_readTarga_750 g750 ?_
    refine aw_istore (lv2 := [(21, _), (20, _), (0, _), (3, _), (4, _), (5, _), (6, _), (7, _), (11, _), (12, _), (13, _), (16, _), (17, _), (18, _), (19, _)]) dX11_readTarga_751 (by decide) rfl ?_
    refine aw_iconst (v := 1) dX11_readTarga_753 (by decide) ?_
    refine aw_istore (lv2 := [(22, _), (21, _), (20, _), (0, _), (3, _), (4, _), (5, _), (6, _), (7, _), (11, _), (12, _), (13, _), (16, _), (17, _), (18, _), (19, _)]) dX11_readTarga_754 (by decide) rfl ?_
    refine aw_iload_n dX11_readTarga_756 rfl ?_
    refine aw_bipush (v := 9) dX11_readTarga_757 (by decide) ?_
    refine aw_icmp_lt (tgt := 889) dX11_readTarga_759 (by decide) (fun c759 => ?_) (fun c759 => ?_)
    · replace hE := fit hE c759
      exact aw_lv _ (List.forall_mem_cons.mpr ⟨rfl, (List.forall_mem_cons.mpr ⟨rfl, (List.forall_mem_cons.mpr ⟨rfl, (List.forall_mem_cons.mpr ⟨rfl, (List.forall_mem_cons.mpr ⟨rfl, (List.forall_mem_cons.mpr ⟨rfl, (List.forall_mem_cons.mpr ⟨rfl, (List.forall_mem_cons.mpr ⟨rfl, (List.forall_mem_cons.mpr ⟨rfl, (List.forall_mem_cons.mpr ⟨rfl, (List.forall_mem_cons.mpr ⟨rfl, (List.forall_mem_cons.mpr ⟨rfl, (List.forall_mem_cons.mpr ⟨rfl, (List.forall_mem_cons.mpr ⟨rfl, (List.forall_mem_cons.mpr ⟨rfl, (List.forall_mem_cons.mpr ⟨rfl, fun _ h => absurd h List.not_mem_nil⟩)⟩)⟩)⟩)⟩)⟩)⟩)⟩)⟩)⟩)⟩)⟩)⟩)⟩)⟩)⟩) (b_X11_readTarga_889 mo mw ms mt mu dd wi hi sp li sr co hb n hms k721 hk721 v3 v4 v5 v6 v7 v11 v12 v13 v16 v17 v18 v19 (v19 - v19 / (mr_gw mr) * (mr_gw mr)) (v19 / (mr_gw mr)) (1 : Int32) mr gt ta _ hE hF)
    · replace hE := fif hE c759
      refine aw_iload dX11_readTarga_762 rfl ?_
      refine aw_if_ne (tgt := 874) dX11_readTarga_764 (by decide) (fun c764 => ?_) (fun c764 => ?_)
      · replace hE := fif hE c764
        refine aw_iload dX11_readTarga_874 rfl ?_
        refine aw_if_ne (tgt := 883) dX11_readTarga_876 (by decide) (fun c876 => ?_) (fun c876 => ?_)
        · replace hE := fif hE c876
          refine aw_iconst (v := 0) dX11_readTarga_883 (by decide) ?_
          exact aw_lv _ (List.forall_mem_cons.mpr ⟨rfl, (List.forall_mem_cons.mpr ⟨rfl, (List.forall_mem_cons.mpr ⟨rfl, (List.forall_mem_cons.mpr ⟨rfl, (List.forall_mem_cons.mpr ⟨rfl, (List.forall_mem_cons.mpr ⟨rfl, (List.forall_mem_cons.mpr ⟨rfl, (List.forall_mem_cons.mpr ⟨rfl, (List.forall_mem_cons.mpr ⟨rfl, (List.forall_mem_cons.mpr ⟨rfl, (List.forall_mem_cons.mpr ⟨rfl, (List.forall_mem_cons.mpr ⟨rfl, (List.forall_mem_cons.mpr ⟨rfl, (List.forall_mem_cons.mpr ⟨rfl, (List.forall_mem_cons.mpr ⟨rfl, fun _ h => absurd h List.not_mem_nil⟩)⟩)⟩)⟩)⟩)⟩)⟩)⟩)⟩)⟩)⟩)⟩)⟩)⟩)⟩) (b_X11_readTarga_884 mo mw ms mt mu dd wi hi sp li sr co hb n hms k721 hk721 v3 v4 v5 v6 v7 v11 v12 v13 v16 v17 v18 v19 (v19 - v19 / (mr_gw mr) * (mr_gw mr)) (v19 / (mr_gw mr)) (0 : Int32) mr gt ta _ hE hF)
        · replace hE := fit hE c876
          refine aw_iconst (v := 1) dX11_readTarga_879 (by decide) ?_
          refine aw_goto (tgt := 884) dX11_readTarga_880 (by decide) ?_
          exact aw_lv _ (List.forall_mem_cons.mpr ⟨rfl, (List.forall_mem_cons.mpr ⟨rfl, (List.forall_mem_cons.mpr ⟨rfl, (List.forall_mem_cons.mpr ⟨rfl, (List.forall_mem_cons.mpr ⟨rfl, (List.forall_mem_cons.mpr ⟨rfl, (List.forall_mem_cons.mpr ⟨rfl, (List.forall_mem_cons.mpr ⟨rfl, (List.forall_mem_cons.mpr ⟨rfl, (List.forall_mem_cons.mpr ⟨rfl, (List.forall_mem_cons.mpr ⟨rfl, (List.forall_mem_cons.mpr ⟨rfl, (List.forall_mem_cons.mpr ⟨rfl, (List.forall_mem_cons.mpr ⟨rfl, (List.forall_mem_cons.mpr ⟨rfl, fun _ h => absurd h List.not_mem_nil⟩)⟩)⟩)⟩)⟩)⟩)⟩)⟩)⟩)⟩)⟩)⟩)⟩)⟩)⟩) (b_X11_readTarga_884 mo mw ms mt mu dd wi hi sp li sr co hb n hms k721 hk721 v3 v4 v5 v6 v7 v11 v12 v13 v16 v17 v18 v19 (v19 - v19 / (mr_gw mr) * (mr_gw mr)) (v19 / (mr_gw mr)) (1 : Int32) mr gt ta _ hE hF)
      · replace hE := fit hE c764
        refine aw_aload_n dX11_readTarga_767 rfl ?_
        refine aw_iconst (v := 1) dX11_readTarga_768 (by decide) ?_
        refine aw_callV dX11_readTarga_769 at_mod cvX11_103 rfl (kF_X11_want mo mw mr ms mt mu dd wi hi gt sp ta li sr co hb _  1 (fon_ne hE hF)) rfl (Nat.le_of_ble_eq_true rfl) (by decide) (by decide) (by decide) (by decide) (fun _ _ _ hf => False.elim hf) (fun r769 h769 n769 hp769 => ?_)
        obtain ⟨z769, s769, e769, rfl, rfl, rfl⟩ := hp769
        replace hE := fon_ok e769 hE
        refine aw_if_ne (tgt := 777) dX11_readTarga_772 (by decide) (fun c772 => ?_) (fun c772 => ?_)
        · replace hE := fif hE c772
          refine aw_aload_n dX11_readTarga_777 rfl ?_
          refine aw_aload_n dX11_readTarga_778 rfl ?_
          refine aw_getf (v := .int (mr_pos s769)) dX11_readTarga_779 flX11_84_10 at_mod rfl ?_
          refine aw_callV dX11_readTarga_782 at_mod cvX11_99 rfl (kF_X11_b mo mw s769 ms mt mu dd wi hi gt sp ta li sr co hb _ hms (mr_pos s769) (fon_ne hE hF)) rfl (Nat.le_of_ble_eq_true rfl) (by decide) (by decide) (by decide) (by decide) (fun _ _ _ hf => False.elim hf) (fun r782 h782 n782 hp782 => ?_)
          obtain ⟨z782, s782, e782, rfl, rfl, rfl⟩ := hp782
          replace hE := fon_ok e782 hE
          refine aw_sipush (v := 128) dX11_readTarga_785 (by decide) ?_
          refine aw_icmp_lt (tgt := 795) dX11_readTarga_788 (by decide) (fun c788 => ?_) (fun c788 => ?_)
          · replace hE := fit hE c788
            refine aw_iconst (v := 0) dX11_readTarga_795 (by decide) ?_
            exact aw_lv _ (List.forall_mem_cons.mpr ⟨rfl, (List.forall_mem_cons.mpr ⟨rfl, (List.forall_mem_cons.mpr ⟨rfl, (List.forall_mem_cons.mpr ⟨rfl, (List.forall_mem_cons.mpr ⟨rfl, (List.forall_mem_cons.mpr ⟨rfl, (List.forall_mem_cons.mpr ⟨rfl, (List.forall_mem_cons.mpr ⟨rfl, (List.forall_mem_cons.mpr ⟨rfl, (List.forall_mem_cons.mpr ⟨rfl, (List.forall_mem_cons.mpr ⟨rfl, (List.forall_mem_cons.mpr ⟨rfl, (List.forall_mem_cons.mpr ⟨rfl, (List.forall_mem_cons.mpr ⟨rfl, fun _ h => absurd h List.not_mem_nil⟩)⟩)⟩)⟩)⟩)⟩)⟩)⟩)⟩)⟩)⟩)⟩)⟩)⟩) (b_X11_readTarga_796 mo mw ms mt mu dd wi hi sp li sr co hb n hms k721 hk721 v3 v4 v5 v6 v7 v11 v12 v13 v18 v19 (v19 - v19 / (mr_gw mr) * (mr_gw mr)) (v19 / (mr_gw mr)) (1 : Int32) (0 : Int32) s769 gt ta _ hE hF)
          · replace hE := fif hE c788
            refine aw_iconst (v := 1) dX11_readTarga_791 (by decide) ?_
            refine aw_goto (tgt := 796) dX11_readTarga_792 (by decide) ?_
            exact aw_lv _ (List.forall_mem_cons.mpr ⟨rfl, (List.forall_mem_cons.mpr ⟨rfl, (List.forall_mem_cons.mpr ⟨rfl, (List.forall_mem_cons.mpr ⟨rfl, (List.forall_mem_cons.mpr ⟨rfl, (List.forall_mem_cons.mpr ⟨rfl, (List.forall_mem_cons.mpr ⟨rfl, (List.forall_mem_cons.mpr ⟨rfl, (List.forall_mem_cons.mpr ⟨rfl, (List.forall_mem_cons.mpr ⟨rfl, (List.forall_mem_cons.mpr ⟨rfl, (List.forall_mem_cons.mpr ⟨rfl, (List.forall_mem_cons.mpr ⟨rfl, (List.forall_mem_cons.mpr ⟨rfl, fun _ h => absurd h List.not_mem_nil⟩)⟩)⟩)⟩)⟩)⟩)⟩)⟩)⟩)⟩)⟩)⟩)⟩)⟩) (b_X11_readTarga_796 mo mw ms mt mu dd wi hi sp li sr co hb n hms k721 hk721 v3 v4 v5 v6 v7 v11 v12 v13 v18 v19 (v19 - v19 / (mr_gw mr) * (mr_gw mr)) (v19 / (mr_gw mr)) (1 : Int32) (1 : Int32) s769 gt ta _ hE hF)
        · replace hE := fit hE c772
          refine aw_iconst (v := 0) dX11_readTarga_775 (by decide) ?_
          exact aw_zret dX11_readTarga_776 rfl (narB (by decide)) (Nat.zero_le _) (Nat.zero_le _) (Nat.zero_le _) (Nat.zero_le _) ⟨_, _, hE.symm, rfl, rfl, rfl⟩
def F_X11_readTarga_676 (sb : A) (k645 : Int32 → Int32 → Int32 → Int32 → Int32 → Int32 → Int32 → Int32 → Int32 → Int32 → Int32 → MR → A → A → Out (MR × A × A) Int32) (v3 : Int32) (v4 : Int32) (v5 : Int32) (v6 : Int32) (v7 : Int32) (v8 : Int32) (v11 : Int32) (v12 : Int32) (v13 : Int32) (v15 : Int32) (v16 : Int32) (mr : MR) (gt : A) (ta : A) : Out (MR × A × A) Int32 := k645 v3 v4 v5 v6 v7 v8 v11 v12 v13 v15 (v16 + 1) ((mr_size mr), ((mr_pos mr) + v15), (mr_kind mr), (mr_whr mr), (mr_gw mr), (mr_gh mr), (mr_one mr), (mr_two mr), (mr_three mr)) gt ta
set_option maxHeartbeats 1000000 in
set_option maxRecDepth 100000 in
theorem b_X11_readTarga_676 (mo : MO) (mw : MW) (ms : Nat) (mt : A) (mu : A) (dd : A) (wi : A) (hi : A) (sp : A) (li : A) (sr : A) (co : A) (hb : aH) (n : Nat) (hms : isMS ms) (k645 : Int32 → Int32 → Int32 → Int32 → Int32 → Int32 → Int32 → Int32 → Int32 → Int32 → Int32 → MR → A → A → Out (MR × A × A) Int32) (hk645 : Q_X11_readTarga_645 mo mw ms mt mu dd wi hi sp li sr co hb n k645) : Q_X11_readTarga_676 mo mw ms mt mu dd wi hi sp li sr co hb n (F_X11_readTarga_676 (srcB ms mt mu) k645) := by
  intro v3 v4 v5 v6 v7 v8 v11 v12 v13 v15 v16 mr gt ta res hE hF
  unfold F_X11_readTarga_676 at hE
  refine aw_aload_n dX11_readTarga_676 rfl ?_
  refine aw_dup dX11_readTarga_677 rfl ?_
  refine aw_getf (v := .int (mr_pos mr)) dX11_readTarga_678 flX11_84_10 at_mod rfl ?_
  refine aw_iload dX11_readTarga_681 rfl ?_
  refine aw_iadd dX11_readTarga_683 ?_
  refine aw_putf dX11_readTarga_684 ptX11_84_10 at_mod (Nat.le_of_ble_eq_true rfl) ⟨rfl, rfl⟩ ?_
  refine aw_eqh (h2 := HM mo mw ((mr_size mr), ((mr_pos mr) + v15), (mr_kind mr), (mr_whr mr), (mr_gw mr), (mr_gh mr), (mr_one mr), (mr_two mr), (mr_three mr)) ms mt mu dd wi hi gt sp ta li sr co hb) up_mod ?_
  refine aw_iinc (v := (v16 + 1)) (lv2 := [(16, _), (0, _), (3, _), (4, _), (5, _), (6, _), (7, _), (8, _), (11, _), (12, _), (13, _), (15, _)]) dX11_readTarga_687 rfl (incE (by decide)) (by decide) rfl ?_
  refine aw_goto (tgt := 645) dX11_readTarga_690 (by decide) ?_
  exact aw_lv _ (List.forall_mem_cons.mpr ⟨rfl, (List.forall_mem_cons.mpr ⟨rfl, (List.forall_mem_cons.mpr ⟨rfl, (List.forall_mem_cons.mpr ⟨rfl, (List.forall_mem_cons.mpr ⟨rfl, (List.forall_mem_cons.mpr ⟨rfl, (List.forall_mem_cons.mpr ⟨rfl, (List.forall_mem_cons.mpr ⟨rfl, (List.forall_mem_cons.mpr ⟨rfl, (List.forall_mem_cons.mpr ⟨rfl, (List.forall_mem_cons.mpr ⟨rfl, (List.forall_mem_cons.mpr ⟨rfl, fun _ h => absurd h List.not_mem_nil⟩)⟩)⟩)⟩)⟩)⟩)⟩)⟩)⟩)⟩)⟩)⟩) (hk645 v3 v4 v5 v6 v7 v8 v11 v12 v13 v15 (v16 + 1) ((mr_size mr), ((mr_pos mr) + v15), (mr_kind mr), (mr_whr mr), (mr_gw mr), (mr_gh mr), (mr_one mr), (mr_two mr), (mr_three mr)) gt ta _ hE hF)
def F_X11_readTarga_645 (sb : A) (k645 : Int32 → Int32 → Int32 → Int32 → Int32 → Int32 → Int32 → Int32 → Int32 → Int32 → Int32 → MR → A → A → Out (MR × A × A) Int32) (v3 : Int32) (v4 : Int32) (v5 : Int32) (v6 : Int32) (v7 : Int32) (v8 : Int32) (v11 : Int32) (v12 : Int32) (v13 : Int32) (v15 : Int32) (v16 : Int32) (mr : MR) (gt : A) (ta : A) : Out (MR × A × A) Int32 := if v7 ≤ v16 then (lp (fun _ _ _ _ _ _ _ _ _ _ _ _ _ _ _ => fno) (F_X11_readTarga_721 sb) FU v3 v4 v5 v6 v7 v11 v12 v13 (0 : Int32) (0 : Int32) (0 : Int32) (0 : Int32) ((mr_size mr), (mr_pos mr), (mr_kind mr), (mr_whr mr), (mr_gw mr), (mr_gh mr), v3, v11, 0) gt ta) else (if v4 = 0 then (F_X11_readTarga_676 sb k645 v3 v4 v5 v6 v7 v8 v11 v12 v13 v15 v16 mr gt ta) else (fon (F_X11_colour (mr_pos mr) v8 v13 sb) (fun z672 s672 => if inb v16 65536 then (F_X11_readTarga_676 sb k645 v3 v4 v5 v6 v7 v8 v11 v12 v13 v15 v16 mr gt (upd ta (Int32.toNatClampNeg v16) z672)) else fno) (fun _ _ => fno)))
set_option maxHeartbeats 1000000 in
set_option maxRecDepth 100000 in
theorem b_X11_readTarga_645 (mo : MO) (mw : MW) (ms : Nat) (mt : A) (mu : A) (dd : A) (wi : A) (hi : A) (sp : A) (li : A) (sr : A) (co : A) (hb : aH) (n : Nat) (hms : isMS ms) (k645 : Int32 → Int32 → Int32 → Int32 → Int32 → Int32 → Int32 → Int32 → Int32 → Int32 → Int32 → MR → A → A → Out (MR × A × A) Int32) (hk645 : Q_X11_readTarga_645 mo mw ms mt mu dd wi hi sp li sr co hb n k645) : Q_X11_readTarga_645 mo mw ms mt mu dd wi hi sp li sr co hb n (F_X11_readTarga_645 (srcB ms mt mu) k645) := by
  intro v3 v4 v5 v6 v7 v8 v11 v12 v13 v15 v16 mr gt ta res hE hF
  unfold F_X11_readTarga_645 at hE
  refine aw_iload dX11_readTarga_645 rfl ?_
  refine aw_iload dX11_readTarga_647 rfl ?_
  refine aw_icmp_ge (tgt := 693) dX11_readTarga_649 (by decide) (fun c649 => ?_) (fun c649 => ?_)
  · replace hE := fit hE c649
    refine aw_aload_n dX11_readTarga_693 rfl ?_
    refine aw_iload_n dX11_readTarga_694 rfl ?_
    refine aw_putf dX11_readTarga_695 ptX11_130_10 at_mod (Nat.le_of_ble_eq_true rfl) ⟨rfl, rfl⟩ ?_
    refine aw_eqh (h2 := HM mo mw ((mr_size mr), (mr_pos mr), (mr_kind mr), (mr_whr mr), (mr_gw mr), (mr_gh mr), v3, (mr_two mr), (mr_three mr)) ms mt mu dd wi hi gt sp ta li sr co hb) up_mod ?_
    refine aw_aload_n dX11_readTarga_698 rfl ?_
    refine aw_iload dX11_readTarga_699 rfl ?_
    refine aw_putf dX11_readTarga_701 ptX11_133_10 at_mod (Nat.le_of_ble_eq_true rfl) ⟨rfl, rfl⟩ ?_
    refine aw_eqh (h2 := HM mo mw ((mr_size mr), (mr_pos mr), (mr_kind mr), (mr_whr mr), (mr_gw mr), (mr_gh mr), v3, v11, (mr_three mr)) ms mt mu dd wi hi gt sp ta li sr co hb) up_mod ?_
    refine aw_aload_n dX11_readTarga_704 rfl ?_
    refine aw_iconst (v := 0) dX11_readTarga_705 (by decide) ?_
    refine aw_putf dX11_readTarga_706 ptX11_136_10 at_mod (Nat.le_of_ble_eq_true rfl) ⟨rfl, rfl⟩ ?_
    refine aw_eqh (h2 := HM mo mw ((mr_size mr), (mr_pos mr), (mr_kind mr), (mr_whr mr), (mr_gw mr), (mr_gh mr), v3, v11, 0) ms mt mu dd wi hi gt sp ta li sr co hb) up_mod ?_
    refine aw_iconst (v := 0) dX11_readTarga_709 (by decide) ?_
    refine aw_istore (lv2 := [(16, _), (0, _), (3, _), (4, _), (5, _), (6, _), (7, _), (8, _), (11, _), (12, _), (13, _), (15, _)]) dX11_readTarga_710 (by decide) rfl ?_
    refine aw_iconst (v := 0) dX11_readTarga_712 (by decide) ?_
    refine aw_istore (lv2 := [(17, _), (16, _), (0, _), (3, _), (4, _), (5, _), (6, _), (7, _), (8, _), (11, _), (12, _), (13, _), (15, _)]) dX11_readTarga_713 (by decide) rfl ?_
    refine aw_iconst (v := 0) dX11_readTarga_715 (by decide) ?_
    refine aw_istore (lv2 := [(18, _), (17, _), (16, _), (0, _), (3, _), (4, _), (5, _), (6, _), (7, _), (8, _), (11, _), (12, _), (13, _), (15, _)]) dX11_readTarga_716 (by decide) rfl ?_
    refine aw_iconst (v := 0) dX11_readTarga_718 (by decide) ?_
    refine aw_istore (lv2 := [(19, _), (18, _), (17, _), (16, _), (0, _), (3, _), (4, _), (5, _), (6, _), (7, _), (8, _), (11, _), (12, _), (13, _), (15, _)]) dX11_readTarga_719 (by decide) rfl ?_
    exact aw_lv _ (List.forall_mem_cons.mpr ⟨rfl, (List.forall_mem_cons.mpr ⟨rfl, (List.forall_mem_cons.mpr ⟨rfl, (List.forall_mem_cons.mpr ⟨rfl, (List.forall_mem_cons.mpr ⟨rfl, (List.forall_mem_cons.mpr ⟨rfl, (List.forall_mem_cons.mpr ⟨rfl, (List.forall_mem_cons.mpr ⟨rfl, (List.forall_mem_cons.mpr ⟨rfl, (List.forall_mem_cons.mpr ⟨rfl, (List.forall_mem_cons.mpr ⟨rfl, (List.forall_mem_cons.mpr ⟨rfl, (List.forall_mem_cons.mpr ⟨rfl, fun _ h => absurd h List.not_mem_nil⟩)⟩)⟩)⟩)⟩)⟩)⟩)⟩)⟩)⟩)⟩)⟩)⟩) (lp_ind (Q_X11_readTarga_721 mo mw ms mt mu dd wi hi sp li sr co hb n) (fun _ _ _ _ _ _ _ _ _ _ _ _ _ _ _ res hq hF => (hF hq.symm).elim) (fun k hk => b_X11_readTarga_721 mo mw ms mt mu dd wi hi sp li sr co hb n hms  k hk) FU v3 v4 v5 v6 v7 v11 v12 v13 (0 : Int32) (0 : Int32) (0 : Int32) (0 : Int32) ((mr_size mr), (mr_pos mr), (mr_kind mr), (mr_whr mr), (mr_gw mr), (mr_gh mr), v3, v11, 0) gt ta _ hE hF)
  · replace hE := fif hE c649
    refine aw_iload dX11_readTarga_652 rfl ?_
    refine aw_if_eq (tgt := 676) dX11_readTarga_654 (by decide) (fun c654 => ?_) (fun c654 => ?_)
    · replace hE := fit hE c654
      exact aw_lv _ (List.forall_mem_cons.mpr ⟨rfl, (List.forall_mem_cons.mpr ⟨rfl, (List.forall_mem_cons.mpr ⟨rfl, (List.forall_mem_cons.mpr ⟨rfl, (List.forall_mem_cons.mpr ⟨rfl, (List.forall_mem_cons.mpr ⟨rfl, (List.forall_mem_cons.mpr ⟨rfl, (List.forall_mem_cons.mpr ⟨rfl, (List.forall_mem_cons.mpr ⟨rfl, (List.forall_mem_cons.mpr ⟨rfl, (List.forall_mem_cons.mpr ⟨rfl, (List.forall_mem_cons.mpr ⟨rfl, fun _ h => absurd h List.not_mem_nil⟩)⟩)⟩)⟩)⟩)⟩)⟩)⟩)⟩)⟩)⟩)⟩) (b_X11_readTarga_676 mo mw ms mt mu dd wi hi sp li sr co hb n hms k645 hk645 v3 v4 v5 v6 v7 v8 v11 v12 v13 v15 v16 mr gt ta _ hE hF)
    · replace hE := fif hE c654
      refine aw_aload_n dX11_readTarga_657 rfl ?_
      refine aw_getf (v := .ref 39) dX11_readTarga_658 flX11_49_10 at_mod rfl ?_
      refine aw_iload dX11_readTarga_661 rfl ?_
      refine aw_aload_n dX11_readTarga_663 rfl ?_
      refine aw_aload_n dX11_readTarga_664 rfl ?_
      refine aw_getf (v := .int (mr_pos mr)) dX11_readTarga_665 flX11_84_10 at_mod rfl ?_
      refine aw_iload dX11_readTarga_668 rfl ?_
      refine aw_iload dX11_readTarga_670 rfl ?_
      refine aw_callV dX11_readTarga_672 at_mod cvX11_211 rfl (kF_X11_colour mo mw mr ms mt mu dd wi hi gt sp ta li sr co hb _ hms (mr_pos mr) v8 v13 (fon_ne hE hF)) rfl (Nat.le_of_ble_eq_true rfl) (by decide) (by decide) (by decide) (by decide) (fun _ _ _ hf => False.elim hf) (fun r672 h672 n672 hp672 => ?_)
      obtain ⟨z672, s672, e672, rfl, rfl, rfl⟩ := hp672
      replace hE := fon_ok e672 hE
      obtain ⟨g675, hE⟩ := fgd hE hF
      refine aw_iast (f := ta) dX11_readTarga_675 at_mtable (vp_in_iff.mpr g675) ?_
      refine aw_eqh (h2 := HM mo mw mr ms mt mu dd wi hi gt sp (upd ta (Int32.toNatClampNeg v16) z672) li sr co hb) up_mtable ?_
      exact aw_lv _ (List.forall_mem_cons.mpr ⟨rfl, (List.forall_mem_cons.mpr ⟨rfl, (List.forall_mem_cons.mpr ⟨rfl, (List.forall_mem_cons.mpr ⟨rfl, (List.forall_mem_cons.mpr ⟨rfl, (List.forall_mem_cons.mpr ⟨rfl, (List.forall_mem_cons.mpr ⟨rfl, (List.forall_mem_cons.mpr ⟨rfl, (List.forall_mem_cons.mpr ⟨rfl, (List.forall_mem_cons.mpr ⟨rfl, (List.forall_mem_cons.mpr ⟨rfl, (List.forall_mem_cons.mpr ⟨rfl, fun _ h => absurd h List.not_mem_nil⟩)⟩)⟩)⟩)⟩)⟩)⟩)⟩)⟩)⟩)⟩)⟩) (b_X11_readTarga_676 mo mw ms mt mu dd wi hi sp li sr co hb n hms k645 hk645 v3 v4 v5 v6 v7 v8 v11 v12 v13 v15 v16 mr gt (upd ta (Int32.toNatClampNeg v16) z672) _ hE hF)
def F_X11_readTarga_592 (sb : A)  (v1 : Int32) (v3 : Int32) (v4 : Int32) (v5 : Int32) (v6 : Int32) (v7 : Int32) (v8 : Int32) (v11 : Int32) (v12 : Int32) (v13 : Int32) (mr : MR) (gt : A) (ta : A) : Out (MR × A × A) Int32 := fon (F_X11_want v1 ((mr_size mr), 18, (mr_kind mr), (mr_whr mr), (mr_gw mr), (mr_gh mr), (mr_one mr), (mr_two mr), (mr_three mr))) (fun z600 s600 => if z600 = 0 then (fok (0 : Int32) (s600, gt, ta)) else (fon (F_X11_want (v7 * ((v8 + 7) / 8)) ((mr_size s600), ((mr_pos s600) + v1), (mr_kind s600), (mr_whr s600), (mr_gw s600), (mr_gh s600), (mr_one s600), (mr_two s600), (mr_three s600))) (fun z634 s634 => if z634 = 0 then (fok (0 : Int32) (s634, gt, ta)) else (lp (fun _ _ _ _ _ _ _ _ _ _ _ _ _ _ => fno) (F_X11_readTarga_645 sb) FU v3 v4 v5 v6 v7 v8 v11 v12 v13 ((v8 + 7) / 8) (0 : Int32) s634 gt ta)) (fun _ _ => fno))) (fun _ _ => fno)
set_option maxHeartbeats 1000000 in
set_option maxRecDepth 100000 in
theorem b_X11_readTarga_592 (mo : MO) (mw : MW) (ms : Nat) (mt : A) (mu : A) (dd : A) (wi : A) (hi : A) (sp : A) (li : A) (sr : A) (co : A) (hb : aH) (n : Nat) (hms : isMS ms)  : Q_X11_readTarga_592 mo mw ms mt mu dd wi hi sp li sr co hb n (F_X11_readTarga_592 (srcB ms mt mu)) := by
  intro v1 v3 v4 v5 v6 v7 v8 v11 v12 v13 mr gt ta res hE hF
  unfold F_X11_readTarga_592 at hE
  refine aw_aload_n dX11_readTarga_592 rfl ?_
  refine aw_bipush (v := 18) dX11_readTarga_593 (by decide) ?_
  refine aw_putf dX11_readTarga_595 ptX11_84_10 at_mod (Nat.le_of_ble_eq_true rfl) ⟨rfl, rfl⟩ ?_
  refine aw_eqh (h2 := HM mo mw ((mr_size mr), 18, (mr_kind mr), (mr_whr mr), (mr_gw mr), (mr_gh mr), (mr_one mr), (mr_two mr), (mr_three mr)) ms mt mu dd wi hi gt sp ta li sr co hb) up_mod ?_
  refine aw_aload_n dX11_readTarga_598 rfl ?_
  refine aw_iload_n dX11_readTarga_599 rfl ?_
  refine aw_callV dX11_readTarga_600 at_mod cvX11_103 rfl (kF_X11_want mo mw ((mr_size mr), 18, (mr_kind mr), (mr_whr mr), (mr_gw mr), (mr_gh mr), (mr_one mr), (mr_two mr), (mr_three mr)) ms mt mu dd wi hi gt sp ta li sr co hb _  v1 (fon_ne hE hF)) rfl (Nat.le_of_ble_eq_true rfl) (by decide) (by decide) (by decide) (by decide) (fun _ _ _ hf => False.elim hf) (fun r600 h600 n600 hp600 => ?_)
  obtain ⟨z600, s600, e600, rfl, rfl, rfl⟩ := hp600
  replace hE := fon_ok e600 hE
  refine aw_if_ne (tgt := 608) dX11_readTarga_603 (by decide) (fun c603 => ?_) (fun c603 => ?_)
  · replace hE := fif hE c603
    refine aw_aload_n dX11_readTarga_608 rfl ?_
    refine aw_dup dX11_readTarga_609 rfl ?_
    refine aw_getf (v := .int (mr_pos s600)) dX11_readTarga_610 flX11_84_10 at_mod rfl ?_
    refine aw_iload_n dX11_readTarga_613 rfl ?_
    refine aw_iadd dX11_readTarga_614 ?_
    refine aw_putf dX11_readTarga_615 ptX11_84_10 at_mod (Nat.le_of_ble_eq_true rfl) ⟨rfl, rfl⟩ ?_
    refine aw_eqh (h2 := HM mo mw ((mr_size s600), ((mr_pos s600) + v1), (mr_kind s600), (mr_whr s600), (mr_gw s600), (mr_gh s600), (mr_one s600), (mr_two s600), (mr_three s600)) ms mt mu dd wi hi gt sp ta li sr co hb) up_mod ?_
    refine aw_iload dX11_readTarga_618 rfl ?_
    refine aw_bipush (v := 7) dX11_readTarga_620 (by decide) ?_
    refine aw_iadd dX11_readTarga_622 ?_
    refine aw_bipush (v := 8) dX11_readTarga_623 (by decide) ?_
    refine aw_idiv dX11_readTarga_625 (by decide) ?_
    refine aw_istore (lv2 := [(15, _), (0, _), (1, _), (3, _), (4, _), (5, _), (6, _), (7, _), (8, _), (11, _), (12, _), (13, _)]) dX11_readTarga_626 (by decide) rfl ?_
    refine aw_aload_n dX11_readTarga_628 rfl ?_
    refine aw_iload dX11_readTarga_629 rfl ?_
    refine aw_iload dX11_readTarga_631 rfl ?_
    refine aw_imul dX11_readTarga_633 ?_
    refine aw_callV dX11_readTarga_634 at_mod cvX11_103 rfl (kF_X11_want mo mw ((mr_size s600), ((mr_pos s600) + v1), (mr_kind s600), (mr_whr s600), (mr_gw s600), (mr_gh s600), (mr_one s600), (mr_two s600), (mr_three s600)) ms mt mu dd wi hi gt sp ta li sr co hb _  (v7 * ((v8 + 7) / 8)) (fon_ne hE hF)) rfl (Nat.le_of_ble_eq_true rfl) (by decide) (by decide) (by decide) (by decide) (fun _ _ _ hf => False.elim hf) (fun r634 h634 n634 hp634 => ?_)
    obtain ⟨z634, s634, e634, rfl, rfl, rfl⟩ := hp634
    replace hE := fon_ok e634 hE
    refine aw_if_ne (tgt := 642) dX11_readTarga_637 (by decide) (fun c637 => ?_) (fun c637 => ?_)
    · replace hE := fif hE c637
      refine aw_iconst (v := 0) dX11_readTarga_642 (by decide) ?_
      refine aw_istore (lv2 := [(16, _), (15, _), (0, _), (1, _), (3, _), (4, _), (5, _), (6, _), (7, _), (8, _), (11, _), (12, _), (13, _)]) dX11_readTarga_643 (by decide) rfl ?_
      exact aw_lv _ (List.forall_mem_cons.mpr ⟨rfl, (List.forall_mem_cons.mpr ⟨rfl, (List.forall_mem_cons.mpr ⟨rfl, (List.forall_mem_cons.mpr ⟨rfl, (List.forall_mem_cons.mpr ⟨rfl, (List.forall_mem_cons.mpr ⟨rfl, (List.forall_mem_cons.mpr ⟨rfl, (List.forall_mem_cons.mpr ⟨rfl, (List.forall_mem_cons.mpr ⟨rfl, (List.forall_mem_cons.mpr ⟨rfl, (List.forall_mem_cons.mpr ⟨rfl, (List.forall_mem_cons.mpr ⟨rfl, fun _ h => absurd h List.not_mem_nil⟩)⟩)⟩)⟩)⟩)⟩)⟩)⟩)⟩)⟩)⟩)⟩) (lp_ind (Q_X11_readTarga_645 mo mw ms mt mu dd wi hi sp li sr co hb n) (fun _ _ _ _ _ _ _ _ _ _ _ _ _ _ res hq hF => (hF hq.symm).elim) (fun k hk => b_X11_readTarga_645 mo mw ms mt mu dd wi hi sp li sr co hb n hms  k hk) FU v3 v4 v5 v6 v7 v8 v11 v12 v13 ((v8 + 7) / 8) (0 : Int32) s634 gt ta _ hE hF)
    · replace hE := fit hE c637
      refine aw_iconst (v := 0) dX11_readTarga_640 (by decide) ?_
      exact aw_zret dX11_readTarga_641 rfl (narB (by decide)) (Nat.zero_le _) (Nat.zero_le _) (Nat.zero_le _) (Nat.zero_le _) ⟨_, _, hE.symm, rfl, rfl, rfl⟩
  · replace hE := fit hE c603
    refine aw_iconst (v := 0) dX11_readTarga_606 (by decide) ?_
    exact aw_zret dX11_readTarga_607 rfl (narB (by decide)) (Nat.zero_le _) (Nat.zero_le _) (Nat.zero_le _) (Nat.zero_le _) ⟨_, _, hE.symm, rfl, rfl, rfl⟩
def F_X11_readTarga_584 (sb : A)  (mr : MR) (gt : A) (ta : A) : Out (MR × A × A) Int32 := fon (F_X11_wrong 2 17 mr) (fun z588 s588 => if isB z588 then (fok (z588 : Int32) (s588, gt, ta)) else fno) (fun _ _ => fno)
set_option maxHeartbeats 1000000 in
set_option maxRecDepth 100000 in
theorem b_X11_readTarga_584 (mo : MO) (mw : MW) (ms : Nat) (mt : A) (mu : A) (dd : A) (wi : A) (hi : A) (sp : A) (li : A) (sr : A) (co : A) (hb : aH) (n : Nat) (hms : isMS ms)  : Q_X11_readTarga_584 mo mw ms mt mu dd wi hi sp li sr co hb n (F_X11_readTarga_584 (srcB ms mt mu)) := by
  intro mr gt ta res hE hF
  unfold F_X11_readTarga_584 at hE
  refine aw_aload_n dX11_readTarga_584 rfl ?_
  refine aw_iconst (v := 2) dX11_readTarga_585 (by decide) ?_
  refine aw_bipush (v := 17) dX11_readTarga_586 (by decide) ?_
  refine aw_callV dX11_readTarga_588 at_mod cvX11_90 rfl (kF_X11_wrong mo mw mr ms mt mu dd wi hi gt sp ta li sr co hb _  2 17 (fon_ne hE hF)) rfl (Nat.le_of_ble_eq_true rfl) (by decide) (by decide) (by decide) (by decide) (fun _ _ _ hf => False.elim hf) (fun r588 h588 n588 hp588 => ?_)
  obtain ⟨z588, s588, e588, rfl, rfl, rfl⟩ := hp588
  replace hE := fon_ok e588 hE
  obtain ⟨g591, hE⟩ := fgd hE hF
  exact aw_zret dX11_readTarga_591 rfl (narB g591) (Nat.zero_le _) (Nat.zero_le _) (Nat.zero_le _) (Nat.zero_le _) ⟨_, _, hE.symm, rfl, rfl, rfl⟩
def F_X11_readTarga_571 (sb : A)  (v1 : Int32) (v3 : Int32) (v4 : Int32) (v5 : Int32) (v6 : Int32) (v7 : Int32) (v8 : Int32) (v11 : Int32) (v12 : Int32) (v13 : Int32) (v14 : Int32) (mr : MR) (gt : A) (ta : A) : Out (MR × A × A) Int32 := if v14 = 16 then (if v13 = 1 then (F_X11_readTarga_592 sb v1 v3 v4 v5 v6 v7 v8 v11 v12 v13 mr gt ta) else (F_X11_readTarga_584 sb mr gt ta)) else (F_X11_readTarga_584 sb mr gt ta)
set_option maxHeartbeats 1000000 in
set_option maxRecDepth 100000 in
theorem b_X11_readTarga_571 (mo : MO) (mw : MW) (ms : Nat) (mt : A) (mu : A) (dd : A) (wi : A) (hi : A) (sp : A) (li : A) (sr : A) (co : A) (hb : aH) (n : Nat) (hms : isMS ms)  : Q_X11_readTarga_571 mo mw ms mt mu dd wi hi sp li sr co hb n (F_X11_readTarga_571 (srcB ms mt mu)) := by
  intro v1 v3 v4 v5 v6 v7 v8 v11 v12 v13 v14 mr gt ta res hE hF
  unfold F_X11_readTarga_571 at hE
  refine aw_iload dX11_readTarga_571 rfl ?_
  refine aw_bipush (v := 16) dX11_readTarga_573 (by decide) ?_
  refine aw_icmp_ne (tgt := 584) dX11_readTarga_575 (by decide) (fun c575 => ?_) (fun c575 => ?_)
  · replace hE := fif hE c575
    exact aw_lv _ (List.forall_mem_cons.mpr ⟨rfl, fun _ h => absurd h List.not_mem_nil⟩) (b_X11_readTarga_584 mo mw ms mt mu dd wi hi sp li sr co hb n hms  mr gt ta _ hE hF)
  · replace hE := fit hE c575
    refine aw_iload dX11_readTarga_578 rfl ?_
    refine aw_iconst (v := 1) dX11_readTarga_580 (by decide) ?_
    refine aw_icmp_eq (tgt := 592) dX11_readTarga_581 (by decide) (fun c581 => ?_) (fun c581 => ?_)
    · replace hE := fit hE c581
      exact aw_lv _ (List.forall_mem_cons.mpr ⟨rfl, (List.forall_mem_cons.mpr ⟨rfl, (List.forall_mem_cons.mpr ⟨rfl, (List.forall_mem_cons.mpr ⟨rfl, (List.forall_mem_cons.mpr ⟨rfl, (List.forall_mem_cons.mpr ⟨rfl, (List.forall_mem_cons.mpr ⟨rfl, (List.forall_mem_cons.mpr ⟨rfl, (List.forall_mem_cons.mpr ⟨rfl, (List.forall_mem_cons.mpr ⟨rfl, (List.forall_mem_cons.mpr ⟨rfl, fun _ h => absurd h List.not_mem_nil⟩)⟩)⟩)⟩)⟩)⟩)⟩)⟩)⟩)⟩)⟩) (b_X11_readTarga_592 mo mw ms mt mu dd wi hi sp li sr co hb n hms  v1 v3 v4 v5 v6 v7 v8 v11 v12 v13 mr gt ta _ hE hF)
    · replace hE := fif hE c581
      exact aw_lv _ (List.forall_mem_cons.mpr ⟨rfl, fun _ h => absurd h List.not_mem_nil⟩) (b_X11_readTarga_584 mo mw ms mt mu dd wi hi sp li sr co hb n hms  mr gt ta _ hE hF)
def F_X11_readTarga_541 (sb : A)  (v1 : Int32) (v3 : Int32) (v4 : Int32) (v5 : Int32) (v6 : Int32) (v7 : Int32) (v8 : Int32) (v11 : Int32) (v12 : Int32) (v13 : Int32) (t0 : Int32) (mr : MR) (gt : A) (ta : A) : Out (MR × A × A) Int32 := if (v12 &&& 192) = 0 then (if v13 = 0 then (F_X11_readTarga_592 sb v1 v3 v4 v5 v6 v7 v8 v11 v12 v13 mr gt ta) else (if t0 = 32 then (if v13 = 8 then (F_X11_readTarga_592 sb v1 v3 v4 v5 v6 v7 v8 v11 v12 v13 mr gt ta) else (F_X11_readTarga_571 sb v1 v3 v4 v5 v6 v7 v8 v11 v12 v13 t0 mr gt ta)) else (F_X11_readTarga_571 sb v1 v3 v4 v5 v6 v7 v8 v11 v12 v13 t0 mr gt ta))) else (F_X11_readTarga_584 sb mr gt ta)
set_option maxHeartbeats 1000000 in
set_option maxRecDepth 100000 in
theorem b_X11_readTarga_541 (mo : MO) (mw : MW) (ms : Nat) (mt : A) (mu : A) (dd : A) (wi : A) (hi : A) (sp : A) (li : A) (sr : A) (co : A) (hb : aH) (n : Nat) (hms : isMS ms)  : Q_X11_readTarga_541 mo mw ms mt mu dd wi hi sp li sr co hb n (F_X11_readTarga_541 (srcB ms mt mu)) := by
  intro v1 v3 v4 v5 v6 v7 v8 v11 v12 v13 t0 mr gt ta res hE hF
  unfold F_X11_readTarga_541 at hE
  refine aw_istore (lv2 := [(14, _), (0, _), (1, _), (3, _), (4, _), (5, _), (6, _), (7, _), (8, _), (11, _), (12, _), (13, _)]) dX11_readTarga_541 (by decide) rfl ?_
  refine aw_iload dX11_readTarga_543 rfl ?_
  refine aw_sipush (v := 192) dX11_readTarga_545 (by decide) ?_
  refine aw_iand dX11_readTarga_548 ?_
  refine aw_if_ne (tgt := 584) dX11_readTarga_549 (by decide) (fun c549 => ?_) (fun c549 => ?_)
  · replace hE := fif hE c549
    exact aw_lv _ (List.forall_mem_cons.mpr ⟨rfl, fun _ h => absurd h List.not_mem_nil⟩) (b_X11_readTarga_584 mo mw ms mt mu dd wi hi sp li sr co hb n hms  mr gt ta _ hE hF)
  · replace hE := fit hE c549
    refine aw_iload dX11_readTarga_552 rfl ?_
    refine aw_if_eq (tgt := 592) dX11_readTarga_554 (by decide) (fun c554 => ?_) (fun c554 => ?_)
    · replace hE := fit hE c554
      exact aw_lv _ (List.forall_mem_cons.mpr ⟨rfl, (List.forall_mem_cons.mpr ⟨rfl, (List.forall_mem_cons.mpr ⟨rfl, (List.forall_mem_cons.mpr ⟨rfl, (List.forall_mem_cons.mpr ⟨rfl, (List.forall_mem_cons.mpr ⟨rfl, (List.forall_mem_cons.mpr ⟨rfl, (List.forall_mem_cons.mpr ⟨rfl, (List.forall_mem_cons.mpr ⟨rfl, (List.forall_mem_cons.mpr ⟨rfl, (List.forall_mem_cons.mpr ⟨rfl, fun _ h => absurd h List.not_mem_nil⟩)⟩)⟩)⟩)⟩)⟩)⟩)⟩)⟩)⟩)⟩) (b_X11_readTarga_592 mo mw ms mt mu dd wi hi sp li sr co hb n hms  v1 v3 v4 v5 v6 v7 v8 v11 v12 v13 mr gt ta _ hE hF)
    · replace hE := fif hE c554
      refine aw_iload dX11_readTarga_557 rfl ?_
      refine aw_bipush (v := 32) dX11_readTarga_559 (by decide) ?_
      refine aw_icmp_ne (tgt := 571) dX11_readTarga_561 (by decide) (fun c561 => ?_) (fun c561 => ?_)
      · replace hE := fif hE c561
        exact aw_lv _ (List.forall_mem_cons.mpr ⟨rfl, (List.forall_mem_cons.mpr ⟨rfl, (List.forall_mem_cons.mpr ⟨rfl, (List.forall_mem_cons.mpr ⟨rfl, (List.forall_mem_cons.mpr ⟨rfl, (List.forall_mem_cons.mpr ⟨rfl, (List.forall_mem_cons.mpr ⟨rfl, (List.forall_mem_cons.mpr ⟨rfl, (List.forall_mem_cons.mpr ⟨rfl, (List.forall_mem_cons.mpr ⟨rfl, (List.forall_mem_cons.mpr ⟨rfl, (List.forall_mem_cons.mpr ⟨rfl, fun _ h => absurd h List.not_mem_nil⟩)⟩)⟩)⟩)⟩)⟩)⟩)⟩)⟩)⟩)⟩)⟩) (b_X11_readTarga_571 mo mw ms mt mu dd wi hi sp li sr co hb n hms  v1 v3 v4 v5 v6 v7 v8 v11 v12 v13 t0 mr gt ta _ hE hF)
      · replace hE := fit hE c561
        refine aw_iload dX11_readTarga_564 rfl ?_
        refine aw_bipush (v := 8) dX11_readTarga_566 (by decide) ?_
        refine aw_icmp_eq (tgt := 592) dX11_readTarga_568 (by decide) (fun c568 => ?_) (fun c568 => ?_)
        · replace hE := fit hE c568
          exact aw_lv _ (List.forall_mem_cons.mpr ⟨rfl, (List.forall_mem_cons.mpr ⟨rfl, (List.forall_mem_cons.mpr ⟨rfl, (List.forall_mem_cons.mpr ⟨rfl, (List.forall_mem_cons.mpr ⟨rfl, (List.forall_mem_cons.mpr ⟨rfl, (List.forall_mem_cons.mpr ⟨rfl, (List.forall_mem_cons.mpr ⟨rfl, (List.forall_mem_cons.mpr ⟨rfl, (List.forall_mem_cons.mpr ⟨rfl, (List.forall_mem_cons.mpr ⟨rfl, fun _ h => absurd h List.not_mem_nil⟩)⟩)⟩)⟩)⟩)⟩)⟩)⟩)⟩)⟩)⟩) (b_X11_readTarga_592 mo mw ms mt mu dd wi hi sp li sr co hb n hms  v1 v3 v4 v5 v6 v7 v8 v11 v12 v13 mr gt ta _ hE hF)
        · replace hE := fif hE c568
          exact aw_lv _ (List.forall_mem_cons.mpr ⟨rfl, (List.forall_mem_cons.mpr ⟨rfl, (List.forall_mem_cons.mpr ⟨rfl, (List.forall_mem_cons.mpr ⟨rfl, (List.forall_mem_cons.mpr ⟨rfl, (List.forall_mem_cons.mpr ⟨rfl, (List.forall_mem_cons.mpr ⟨rfl, (List.forall_mem_cons.mpr ⟨rfl, (List.forall_mem_cons.mpr ⟨rfl, (List.forall_mem_cons.mpr ⟨rfl, (List.forall_mem_cons.mpr ⟨rfl, (List.forall_mem_cons.mpr ⟨rfl, fun _ h => absurd h List.not_mem_nil⟩)⟩)⟩)⟩)⟩)⟩)⟩)⟩)⟩)⟩)⟩)⟩) (b_X11_readTarga_571 mo mw ms mt mu dd wi hi sp li sr co hb n hms  v1 v3 v4 v5 v6 v7 v8 v11 v12 v13 t0 mr gt ta _ hE hF)
def F_X11_readTarga_498 (sb : A)  (v1 : Int32) (v3 : Int32) (v4 : Int32) (v5 : Int32) (v6 : Int32) (v7 : Int32) (v8 : Int32) (v11 : Int32) (mr : MR) (gt : A) (ta : A) : Out (MR × A × A) Int32 := fon (F_X11_want 1 ((mr_size mr), 17, (mr_kind mr), (mr_whr mr), (mr_gw mr), (mr_gh mr), (mr_one mr), (mr_two mr), (mr_three mr))) (fun z506 s506 => if z506 = 0 then (fok (0 : Int32) (s506, gt, ta)) else (fon (F_X11_b 17 sb) (fun z517 s517 => if v4 = 0 then (F_X11_readTarga_541 sb v1 v3 v4 v5 v6 v7 v8 v11 z517 (z517 &&& 15) v11 s506 gt ta) else (F_X11_readTarga_541 sb v1 v3 v4 v5 v6 v7 v8 v11 z517 (z517 &&& 15) v8 s506 gt ta)) (fun _ _ => fno))) (fun _ _ => fno)
set_option maxHeartbeats 1000000 in
set_option maxRecDepth 100000 in
theorem b_X11_readTarga_498 (mo : MO) (mw : MW) (ms : Nat) (mt : A) (mu : A) (dd : A) (wi : A) (hi : A) (sp : A) (li : A) (sr : A) (co : A) (hb : aH) (n : Nat) (hms : isMS ms)  : Q_X11_readTarga_498 mo mw ms mt mu dd wi hi sp li sr co hb n (F_X11_readTarga_498 (srcB ms mt mu)) := by
  intro v1 v3 v4 v5 v6 v7 v8 v11 mr gt ta res hE hF
  unfold F_X11_readTarga_498 at hE
  refine aw_aload_n dX11_readTarga_498 rfl ?_
  refine aw_bipush (v := 17) dX11_readTarga_499 (by decide) ?_
  refine aw_putf dX11_readTarga_501 ptX11_84_10 at_mod (Nat.le_of_ble_eq_true rfl) ⟨rfl, rfl⟩ ?_
  refine aw_eqh (h2 := HM mo mw ((mr_size mr), 17, (mr_kind mr), (mr_whr mr), (mr_gw mr), (mr_gh mr), (mr_one mr), (mr_two mr), (mr_three mr)) ms mt mu dd wi hi gt sp ta li sr co hb) up_mod ?_
  refine aw_aload_n dX11_readTarga_504 rfl ?_
  refine aw_iconst (v := 1) dX11_readTarga_505 (by decide) ?_
  refine aw_callV dX11_readTarga_506 at_mod cvX11_103 rfl (kF_X11_want mo mw ((mr_size mr), 17, (mr_kind mr), (mr_whr mr), (mr_gw mr), (mr_gh mr), (mr_one mr), (mr_two mr), (mr_three mr)) ms mt mu dd wi hi gt sp ta li sr co hb _  1 (fon_ne hE hF)) rfl (Nat.le_of_ble_eq_true rfl) (by decide) (by decide) (by decide) (by decide) (fun _ _ _ hf => False.elim hf) (fun r506 h506 n506 hp506 => ?_)
  obtain ⟨z506, s506, e506, rfl, rfl, rfl⟩ := hp506
  replace hE := fon_ok e506 hE
  refine aw_if_ne (tgt := 514) dX11_readTarga_509 (by decide) (fun c509 => ?_) (fun c509 => ?_)
  · replace hE := fif hE c509
    refine aw_aload_n dX11_readTarga_514 rfl ?_
    refine aw_bipush (v := 17) dX11_readTarga_515 (by decide) ?_
    refine aw_callV dX11_readTarga_517 at_mod cvX11_99 rfl (kF_X11_b mo mw s506 ms mt mu dd wi hi gt sp ta li sr co hb _ hms 17 (fon_ne hE hF)) rfl (Nat.le_of_ble_eq_true rfl) (by decide) (by decide) (by decide) (by decide) (fun _ _ _ hf => False.elim hf) (fun r517 h517 n517 hp517 => ?_)
    obtain ⟨z517, s517, e517, rfl, rfl, rfl⟩ := hp517
    replace hE := fon_ok e517 hE
    refine aw_istore (lv2 := [(12, _), (0, _), (1, _), (3, _), (4, _), (5, _), (6, _), (7, _), (8, _), (11, _)]) dX11_readTarga_520 (by decide) rfl ?_
    refine aw_iload dX11_readTarga_522 rfl ?_
    refine aw_bipush (v := 15) dX11_readTarga_524 (by decide) ?_
    refine aw_iand dX11_readTarga_526 ?_
    refine aw_istore (lv2 := [(13, _), (12, _), (0, _), (1, _), (3, _), (4, _), (5, _), (6, _), (7, _), (8, _), (11, _)]) dX11_readTarga_527 (by decide) rfl ?_
    refine aw_iload dX11_readTarga_529 rfl ?_
    refine aw_if_eq (tgt := 539) dX11_readTarga_531 (by decide) (fun c531 => ?_) (fun c531 => ?_)
    · replace hE := fit hE c531
      refine aw_iload dX11_readTarga_539 rfl ?_
      exact aw_lv _ (List.forall_mem_cons.mpr ⟨rfl, (List.forall_mem_cons.mpr ⟨rfl, (List.forall_mem_cons.mpr ⟨rfl, (List.forall_mem_cons.mpr ⟨rfl, (List.forall_mem_cons.mpr ⟨rfl, (List.forall_mem_cons.mpr ⟨rfl, (List.forall_mem_cons.mpr ⟨rfl, (List.forall_mem_cons.mpr ⟨rfl, (List.forall_mem_cons.mpr ⟨rfl, (List.forall_mem_cons.mpr ⟨rfl, (List.forall_mem_cons.mpr ⟨rfl, fun _ h => absurd h List.not_mem_nil⟩)⟩)⟩)⟩)⟩)⟩)⟩)⟩)⟩)⟩)⟩) (b_X11_readTarga_541 mo mw ms mt mu dd wi hi sp li sr co hb n hms  v1 v3 v4 v5 v6 v7 v8 v11 z517 (z517 &&& 15) v11 s506 gt ta _ hE hF)
    · replace hE := fif hE c531
      refine aw_iload dX11_readTarga_534 rfl ?_
      refine aw_goto (tgt := 541) dX11_readTarga_536 (by decide) ?_
      exact aw_lv _ (List.forall_mem_cons.mpr ⟨rfl, (List.forall_mem_cons.mpr ⟨rfl, (List.forall_mem_cons.mpr ⟨rfl, (List.forall_mem_cons.mpr ⟨rfl, (List.forall_mem_cons.mpr ⟨rfl, (List.forall_mem_cons.mpr ⟨rfl, (List.forall_mem_cons.mpr ⟨rfl, (List.forall_mem_cons.mpr ⟨rfl, (List.forall_mem_cons.mpr ⟨rfl, (List.forall_mem_cons.mpr ⟨rfl, (List.forall_mem_cons.mpr ⟨rfl, fun _ h => absurd h List.not_mem_nil⟩)⟩)⟩)⟩)⟩)⟩)⟩)⟩)⟩)⟩)⟩) (b_X11_readTarga_541 mo mw ms mt mu dd wi hi sp li sr co hb n hms  v1 v3 v4 v5 v6 v7 v8 v11 z517 (z517 &&& 15) v8 s506 gt ta _ hE hF)
  · replace hE := fit hE c509
    refine aw_iconst (v := 0) dX11_readTarga_512 (by decide) ?_
    exact aw_zret dX11_readTarga_513 rfl (narB (by decide)) (Nat.zero_le _) (Nat.zero_le _) (Nat.zero_le _) (Nat.zero_le _) ⟨_, _, hE.symm, rfl, rfl, rfl⟩
def F_X11_readTarga_490 (sb : A)  (mr : MR) (gt : A) (ta : A) : Out (MR × A × A) Int32 := fon (F_X11_wrong 2 16 mr) (fun z494 s494 => if isB z494 then (fok (z494 : Int32) (s494, gt, ta)) else fno) (fun _ _ => fno)
set_option maxHeartbeats 1000000 in
set_option maxRecDepth 100000 in
theorem b_X11_readTarga_490 (mo : MO) (mw : MW) (ms : Nat) (mt : A) (mu : A) (dd : A) (wi : A) (hi : A) (sp : A) (li : A) (sr : A) (co : A) (hb : aH) (n : Nat) (hms : isMS ms)  : Q_X11_readTarga_490 mo mw ms mt mu dd wi hi sp li sr co hb n (F_X11_readTarga_490 (srcB ms mt mu)) := by
  intro mr gt ta res hE hF
  unfold F_X11_readTarga_490 at hE
  refine aw_aload_n dX11_readTarga_490 rfl ?_
  refine aw_iconst (v := 2) dX11_readTarga_491 (by decide) ?_
  refine aw_bipush (v := 16) dX11_readTarga_492 (by decide) ?_
  refine aw_callV dX11_readTarga_494 at_mod cvX11_90 rfl (kF_X11_wrong mo mw mr ms mt mu dd wi hi gt sp ta li sr co hb _  2 16 (fon_ne hE hF)) rfl (Nat.le_of_ble_eq_true rfl) (by decide) (by decide) (by decide) (by decide) (fun _ _ _ hf => False.elim hf) (fun r494 h494 n494 hp494 => ?_)
  obtain ⟨z494, s494, e494, rfl, rfl, rfl⟩ := hp494
  replace hE := fon_ok e494 hE
  obtain ⟨g497, hE⟩ := fgd hE hF
  exact aw_zret dX11_readTarga_497 rfl (narB g497) (Nat.zero_le _) (Nat.zero_le _) (Nat.zero_le _) (Nat.zero_le _) ⟨_, _, hE.symm, rfl, rfl, rfl⟩
def F_X11_readTarga_459 (sb : A)  (v1 : Int32) (v3 : Int32) (v4 : Int32) (v5 : Int32) (v6 : Int32) (v7 : Int32) (v8 : Int32) (v11 : Int32) (mr : MR) (gt : A) (ta : A) : Out (MR × A × A) Int32 := if v11 = 8 then (F_X11_readTarga_498 sb v1 v3 v4 v5 v6 v7 v8 v11 mr gt ta) else (F_X11_readTarga_490 sb mr gt ta)
set_option maxHeartbeats 1000000 in
set_option maxRecDepth 100000 in
theorem b_X11_readTarga_459 (mo : MO) (mw : MW) (ms : Nat) (mt : A) (mu : A) (dd : A) (wi : A) (hi : A) (sp : A) (li : A) (sr : A) (co : A) (hb : aH) (n : Nat) (hms : isMS ms)  : Q_X11_readTarga_459 mo mw ms mt mu dd wi hi sp li sr co hb n (F_X11_readTarga_459 (srcB ms mt mu)) := by
  intro v1 v3 v4 v5 v6 v7 v8 v11 mr gt ta res hE hF
  unfold F_X11_readTarga_459 at hE
  refine aw_iload dX11_readTarga_459 rfl ?_
  refine aw_bipush (v := 8) dX11_readTarga_461 (by decide) ?_
  refine aw_icmp_eq (tgt := 498) dX11_readTarga_463 (by decide) (fun c463 => ?_) (fun c463 => ?_)
  · replace hE := fit hE c463
    exact aw_lv _ (List.forall_mem_cons.mpr ⟨rfl, (List.forall_mem_cons.mpr ⟨rfl, (List.forall_mem_cons.mpr ⟨rfl, (List.forall_mem_cons.mpr ⟨rfl, (List.forall_mem_cons.mpr ⟨rfl, (List.forall_mem_cons.mpr ⟨rfl, (List.forall_mem_cons.mpr ⟨rfl, (List.forall_mem_cons.mpr ⟨rfl, (List.forall_mem_cons.mpr ⟨rfl, fun _ h => absurd h List.not_mem_nil⟩)⟩)⟩)⟩)⟩)⟩)⟩)⟩)⟩) (b_X11_readTarga_498 mo mw ms mt mu dd wi hi sp li sr co hb n hms  v1 v3 v4 v5 v6 v7 v8 v11 mr gt ta _ hE hF)
  · replace hE := fif hE c463
    refine aw_goto (tgt := 490) dX11_readTarga_466 (by decide) ?_
    exact aw_lv _ (List.forall_mem_cons.mpr ⟨rfl, fun _ h => absurd h List.not_mem_nil⟩) (b_X11_readTarga_490 mo mw ms mt mu dd wi hi sp li sr co hb n hms  mr gt ta _ hE hF)
def F_X11_readTarga_307 (sb : A) (k307 : Int32 → Int32 → Int32 → Int32 → Int32 → Int32 → Int32 → MR → A → A → Out (MR × A × A) Int32) (v1 : Int32) (v3 : Int32) (v4 : Int32) (v5 : Int32) (v6 : Int32) (v7 : Int32) (v8 : Int32) (mr : MR) (gt : A) (ta : A) : Out (MR × A × A) Int32 := if 12 ≤ (mr_pos mr) then (fon (F_X11_readShort mr) (fun z339 s339 => if z339 = 0 then (fok (0 : Int32) (s339, gt, ta)) else (fon (F_X11_low 12 2 sb) (fun z351 s351 => if (z351).toInt32 = 0 then (fon (F_X11_wrong 2 12 s339) (fun z366 s366 => if isB z366 then (fok (z366 : Int32) (s366, gt, ta)) else fno) (fun _ _ => fno)) else (fon (F_X11_readShort ((mr_size s339), 14, (mr_kind s339), (mr_whr s339), (mr_gw s339), (mr_gh s339), (mr_one s339), (mr_two s339), (mr_three s339))) (fun z377 s377 => if z377 = 0 then (fok (0 : Int32) (s377, gt, ta)) else (fon (F_X11_low 14 2 sb) (fun z389 s389 => if (z389).toInt32 = 0 then (fon (F_X11_wrong 2 14 s377) (fun z404 s404 => if isB z404 then (fok (z404 : Int32) (s404, gt, ta)) else fno) (fun _ _ => fno)) else (fon (F_X11_fits (((z351).toInt32).toInt64) (((z389).toInt32).toInt64) 14 s377) (fun z417 s417 => if z417 = 0 then (fok (0 : Int32) (s417, gt, ta)) else (fon (F_X11_want 1 ((mr_size s417), 16, (mr_kind s417), (mr_whr s417), (mr_gw s417), (mr_gh s417), (mr_one s417), (mr_two s417), (mr_three s417))) (fun z433 s433 => if z433 = 0 then (fok (0 : Int32) (s433, gt, ta)) else (fon (F_X11_b 16 sb) (fun z444 s444 => if v4 = 0 then (if v5 = 0 then (if z444 = 16 then (F_X11_readTarga_498 sb v1 v3 v4 v5 v6 v7 v8 z444 s433 gt ta) else (if z444 = 24 then (F_X11_readTarga_498 sb v1 v3 v4 v5 v6 v7 v8 z444 s433 gt ta) else (if z444 = 32 then (F_X11_readTarga_498 sb v1 v3 v4 v5 v6 v7 v8 z444 s433 gt ta) else (F_X11_readTarga_490 sb s433 gt ta)))) else (F_X11_readTarga_459 sb v1 v3 v4 v5 v6 v7 v8 z444 s433 gt ta)) else (F_X11_readTarga_459 sb v1 v3 v4 v5 v6 v7 v8 z444 s433 gt ta)) (fun _ _ => fno))) (fun _ _ => fno))) (fun _ _ => fno))) (fun _ _ => fno))) (fun _ _ => fno))) (fun _ _ => fno))) (fun _ _ => fno)) else (fon (F_X11_readShort mr) (fun z317 s317 => if z317 = 0 then (fok (0 : Int32) (s317, gt, ta)) else (k307 v1 v3 v4 v5 v6 v7 v8 ((mr_size s317), ((mr_pos s317) + 2), (mr_kind s317), (mr_whr s317), (mr_gw s317), (mr_gh s317), (mr_one s317), (mr_two s317), (mr_three s317)) gt ta)) (fun _ _ => fno))
set_option maxHeartbeats 1000000 in
set_option maxRecDepth 100000 in
theorem b_X11_readTarga_307 (mo : MO) (mw : MW) (ms : Nat) (mt : A) (mu : A) (dd : A) (wi : A) (hi : A) (sp : A) (li : A) (sr : A) (co : A) (hb : aH) (n : Nat) (hms : isMS ms) (k307 : Int32 → Int32 → Int32 → Int32 → Int32 → Int32 → Int32 → MR → A → A → Out (MR × A × A) Int32) (hk307 : Q_X11_readTarga_307 mo mw ms mt mu dd wi hi sp li sr co hb n k307) : Q_X11_readTarga_307 mo mw ms mt mu dd wi hi sp li sr co hb n (F_X11_readTarga_307 (srcB ms mt mu) k307) := by
  intro v1 v3 v4 v5 v6 v7 v8 mr gt ta res hE hF
  unfold F_X11_readTarga_307 at hE
  refine aw_aload_n dX11_readTarga_307 rfl ?_
  refine aw_getf (v := .int (mr_pos mr)) dX11_readTarga_308 flX11_84_10 at_mod rfl ?_
  refine aw_bipush (v := 12) dX11_readTarga_311 (by decide) ?_
  refine aw_icmp_ge (tgt := 338) dX11_readTarga_313 (by decide) (fun c313 => ?_) (fun c313 => ?_)
  · replace hE := fit hE c313
    refine aw_aload_n dX11_readTarga_338 rfl ?_
    refine aw_callV dX11_readTarga_339 at_mod cvX11_208 rfl (kF_X11_readShort mo mw mr ms mt mu dd wi hi gt sp ta li sr co hb _   (fon_ne hE hF)) rfl (Nat.le_of_ble_eq_true rfl) (by decide) (by decide) (by decide) (by decide) (fun _ _ _ hf => False.elim hf) (fun r339 h339 n339 hp339 => ?_)
    obtain ⟨z339, s339, e339, rfl, rfl, rfl⟩ := hp339
    replace hE := fon_ok e339 hE
    refine aw_if_ne (tgt := 347) dX11_readTarga_342 (by decide) (fun c342 => ?_) (fun c342 => ?_)
    · replace hE := fif hE c342
      refine aw_aload_n dX11_readTarga_347 rfl ?_
      refine aw_bipush (v := 12) dX11_readTarga_348 (by decide) ?_
      refine aw_iconst (v := 2) dX11_readTarga_350 (by decide) ?_
      refine aw_callV dX11_readTarga_351 at_mod cvX11_183 rfl (kF_X11_low mo mw s339 ms mt mu dd wi hi gt sp ta li sr co hb _ hms 12 2 (fon_ne hE hF)) rfl (Nat.le_of_ble_eq_true rfl) (by decide) (by decide) (by decide) (by decide) (fun _ _ _ hf => False.elim hf) (fun r351 h351 n351 hp351 => ?_)
      obtain ⟨z351, s351, e351, rfl, rfl, rfl⟩ := hp351
      replace hE := fon_ok e351 hE
      refine aw_l2i dX11_readTarga_354 ?_
      refine aw_istore (lv2 := [(9, _), (0, _), (1, _), (3, _), (4, _), (5, _), (6, _), (7, _), (8, _)]) dX11_readTarga_355 (by decide) rfl ?_
      refine aw_iload dX11_readTarga_357 rfl ?_
      refine aw_if_ne (tgt := 370) dX11_readTarga_359 (by decide) (fun c359 => ?_) (fun c359 => ?_)
      · replace hE := fif hE c359
        refine aw_aload_n dX11_readTarga_370 rfl ?_
        refine aw_bipush (v := 14) dX11_readTarga_371 (by decide) ?_
        refine aw_putf dX11_readTarga_373 ptX11_84_10 at_mod (Nat.le_of_ble_eq_true rfl) ⟨rfl, rfl⟩ ?_
        refine aw_eqh (h2 := HM mo mw ((mr_size s339), 14, (mr_kind s339), (mr_whr s339), (mr_gw s339), (mr_gh s339), (mr_one s339), (mr_two s339), (mr_three s339)) ms mt mu dd wi hi gt sp ta li sr co hb) up_mod ?_
        refine aw_aload_n dX11_readTarga_376 rfl ?_
        refine aw_callV dX11_readTarga_377 at_mod cvX11_208 rfl (kF_X11_readShort mo mw ((mr_size s339), 14, (mr_kind s339), (mr_whr s339), (mr_gw s339), (mr_gh s339), (mr_one s339), (mr_two s339), (mr_three s339)) ms mt mu dd wi hi gt sp ta li sr co hb _   (fon_ne hE hF)) rfl (Nat.le_of_ble_eq_true rfl) (by decide) (by decide) (by decide) (by decide) (fun _ _ _ hf => False.elim hf) (fun r377 h377 n377 hp377 => ?_)
        obtain ⟨z377, s377, e377, rfl, rfl, rfl⟩ := hp377
        replace hE := fon_ok e377 hE
        refine aw_if_ne (tgt := 385) dX11_readTarga_380 (by decide) (fun c380 => ?_) (fun c380 => ?_)
        · replace hE := fif hE c380
          refine aw_aload_n dX11_readTarga_385 rfl ?_
          refine aw_bipush (v := 14) dX11_readTarga_386 (by decide) ?_
          refine aw_iconst (v := 2) dX11_readTarga_388 (by decide) ?_
          refine aw_callV dX11_readTarga_389 at_mod cvX11_183 rfl (kF_X11_low mo mw s377 ms mt mu dd wi hi gt sp ta li sr co hb _ hms 14 2 (fon_ne hE hF)) rfl (Nat.le_of_ble_eq_true rfl) (by decide) (by decide) (by decide) (by decide) (fun _ _ _ hf => False.elim hf) (fun r389 h389 n389 hp389 => ?_)
          obtain ⟨z389, s389, e389, rfl, rfl, rfl⟩ := hp389
          replace hE := fon_ok e389 hE
          refine aw_l2i dX11_readTarga_392 ?_
          refine aw_istore (lv2 := [(10, _), (9, _), (0, _), (1, _), (3, _), (4, _), (5, _), (6, _), (7, _), (8, _)]) dX11_readTarga_393 (by decide) rfl ?_
          refine aw_iload dX11_readTarga_395 rfl ?_
          refine aw_if_ne (tgt := 408) dX11_readTarga_397 (by decide) (fun c397 => ?_) (fun c397 => ?_)
          · replace hE := fif hE c397
            refine aw_aload_n dX11_readTarga_408 rfl ?_
            refine aw_iload dX11_readTarga_409 rfl ?_
            refine aw_i2l dX11_readTarga_411 ?_
            refine aw_iload dX11_readTarga_412 rfl ?_
            refine aw_i2l dX11_readTarga_414 ?_
            refine aw_bipush (v := 14) dX11_readTarga_415 (by decide) ?_
            refine aw_callV dX11_readTarga_417 at_mod cvX11_126 rfl (kF_X11_fits mo mw s377 ms mt mu dd wi hi gt sp ta li sr co hb _  (((z351).toInt32).toInt64) (((z389).toInt32).toInt64) 14 (fon_ne hE hF)) rfl (Nat.le_of_ble_eq_true rfl) (by decide) (by decide) (by decide) (by decide) (fun _ _ _ hf => False.elim hf) (fun r417 h417 n417 hp417 => ?_)
            obtain ⟨z417, s417, e417, rfl, rfl, rfl⟩ := hp417
            replace hE := fon_ok e417 hE
            refine aw_if_ne (tgt := 425) dX11_readTarga_420 (by decide) (fun c420 => ?_) (fun c420 => ?_)
            · replace hE := fif hE c420
              refine aw_aload_n dX11_readTarga_425 rfl ?_
              refine aw_bipush (v := 16) dX11_readTarga_426 (by decide) ?_
              refine aw_putf dX11_readTarga_428 ptX11_84_10 at_mod (Nat.le_of_ble_eq_true rfl) ⟨rfl, rfl⟩ ?_
              refine aw_eqh (h2 := HM mo mw ((mr_size s417), 16, (mr_kind s417), (mr_whr s417), (mr_gw s417), (mr_gh s417), (mr_one s417), (mr_two s417), (mr_three s417)) ms mt mu dd wi hi gt sp ta li sr co hb) up_mod ?_
              refine aw_aload_n dX11_readTarga_431 rfl ?_
              refine aw_iconst (v := 1) dX11_readTarga_432 (by decide) ?_
              refine aw_callV dX11_readTarga_433 at_mod cvX11_103 rfl (kF_X11_want mo mw ((mr_size s417), 16, (mr_kind s417), (mr_whr s417), (mr_gw s417), (mr_gh s417), (mr_one s417), (mr_two s417), (mr_three s417)) ms mt mu dd wi hi gt sp ta li sr co hb _  1 (fon_ne hE hF)) rfl (Nat.le_of_ble_eq_true rfl) (by decide) (by decide) (by decide) (by decide) (fun _ _ _ hf => False.elim hf) (fun r433 h433 n433 hp433 => ?_)
              obtain ⟨z433, s433, e433, rfl, rfl, rfl⟩ := hp433
              replace hE := fon_ok e433 hE
              refine aw_if_ne (tgt := 441) dX11_readTarga_436 (by decide) (fun c436 => ?_) (fun c436 => ?_)
              · replace hE := fif hE c436
                refine aw_aload_n dX11_readTarga_441 rfl ?_
                refine aw_bipush (v := 16) dX11_readTarga_442 (by decide) ?_
                refine aw_callV dX11_readTarga_444 at_mod cvX11_99 rfl (kF_X11_b mo mw s433 ms mt mu dd wi hi gt sp ta li sr co hb _ hms 16 (fon_ne hE hF)) rfl (Nat.le_of_ble_eq_true rfl) (by decide) (by decide) (by decide) (by decide) (fun _ _ _ hf => False.elim hf) (fun r444 h444 n444 hp444 => ?_)
                obtain ⟨z444, s444, e444, rfl, rfl, rfl⟩ := hp444
                replace hE := fon_ok e444 hE
                refine aw_istore (lv2 := [(11, _), (10, _), (9, _), (0, _), (1, _), (3, _), (4, _), (5, _), (6, _), (7, _), (8, _)]) dX11_readTarga_447 (by decide) rfl ?_
                refine aw_iload dX11_readTarga_449 rfl ?_
                refine aw_if_ne (tgt := 459) dX11_readTarga_451 (by decide) (fun c451 => ?_) (fun c451 => ?_)
                · replace hE := fif hE c451
                  exact aw_lv _ (List.forall_mem_cons.mpr ⟨rfl, (List.forall_mem_cons.mpr ⟨rfl, (List.forall_mem_cons.mpr ⟨rfl, (List.forall_mem_cons.mpr ⟨rfl, (List.forall_mem_cons.mpr ⟨rfl, (List.forall_mem_cons.mpr ⟨rfl, (List.forall_mem_cons.mpr ⟨rfl, (List.forall_mem_cons.mpr ⟨rfl, (List.forall_mem_cons.mpr ⟨rfl, fun _ h => absurd h List.not_mem_nil⟩)⟩)⟩)⟩)⟩)⟩)⟩)⟩)⟩) (b_X11_readTarga_459 mo mw ms mt mu dd wi hi sp li sr co hb n hms  v1 v3 v4 v5 v6 v7 v8 z444 s433 gt ta _ hE hF)
                · replace hE := fit hE c451
                  refine aw_iload dX11_readTarga_454 rfl ?_
                  refine aw_if_eq (tgt := 469) dX11_readTarga_456 (by decide) (fun c456 => ?_) (fun c456 => ?_)
                  · replace hE := fit hE c456
                    refine aw_iload dX11_readTarga_469 rfl ?_
                    refine aw_bipush (v := 16) dX11_readTarga_471 (by decide) ?_
                    refine aw_icmp_eq (tgt := 498) dX11_readTarga_473 (by decide) (fun c473 => ?_) (fun c473 => ?_)
                    · replace hE := fit hE c473
                      exact aw_lv _ (List.forall_mem_cons.mpr ⟨rfl, (List.forall_mem_cons.mpr ⟨rfl, (List.forall_mem_cons.mpr ⟨rfl, (List.forall_mem_cons.mpr ⟨rfl, (List.forall_mem_cons.mpr ⟨rfl, (List.forall_mem_cons.mpr ⟨rfl, (List.forall_mem_cons.mpr ⟨rfl, (List.forall_mem_cons.mpr ⟨rfl, (List.forall_mem_cons.mpr ⟨rfl, fun _ h => absurd h List.not_mem_nil⟩)⟩)⟩)⟩)⟩)⟩)⟩)⟩)⟩) (b_X11_readTarga_498 mo mw ms mt mu dd wi hi sp li sr co hb n hms  v1 v3 v4 v5 v6 v7 v8 z444 s433 gt ta _ hE hF)
                    · replace hE := fif hE c473
                      refine aw_iload dX11_readTarga_476 rfl ?_
                      refine aw_bipush (v := 24) dX11_readTarga_478 (by decide) ?_
                      refine aw_icmp_eq (tgt := 498) dX11_readTarga_480 (by decide) (fun c480 => ?_) (fun c480 => ?_)
                      · replace hE := fit hE c480
                        exact aw_lv _ (List.forall_mem_cons.mpr ⟨rfl, (List.forall_mem_cons.mpr ⟨rfl, (List.forall_mem_cons.mpr ⟨rfl, (List.forall_mem_cons.mpr ⟨rfl, (List.forall_mem_cons.mpr ⟨rfl, (List.forall_mem_cons.mpr ⟨rfl, (List.forall_mem_cons.mpr ⟨rfl, (List.forall_mem_cons.mpr ⟨rfl, (List.forall_mem_cons.mpr ⟨rfl, fun _ h => absurd h List.not_mem_nil⟩)⟩)⟩)⟩)⟩)⟩)⟩)⟩)⟩) (b_X11_readTarga_498 mo mw ms mt mu dd wi hi sp li sr co hb n hms  v1 v3 v4 v5 v6 v7 v8 z444 s433 gt ta _ hE hF)
                      · replace hE := fif hE c480
                        refine aw_iload dX11_readTarga_483 rfl ?_
                        refine aw_bipush (v := 32) dX11_readTarga_485 (by decide) ?_
                        refine aw_icmp_eq (tgt := 498) dX11_readTarga_487 (by decide) (fun c487 => ?_) (fun c487 => ?_)
                        · replace hE := fit hE c487
                          exact aw_lv _ (List.forall_mem_cons.mpr ⟨rfl, (List.forall_mem_cons.mpr ⟨rfl, (List.forall_mem_cons.mpr ⟨rfl, (List.forall_mem_cons.mpr ⟨rfl, (List.forall_mem_cons.mpr ⟨rfl, (List.forall_mem_cons.mpr ⟨rfl, (List.forall_mem_cons.mpr ⟨rfl, (List.forall_mem_cons.mpr ⟨rfl, (List.forall_mem_cons.mpr ⟨rfl, fun _ h => absurd h List.not_mem_nil⟩)⟩)⟩)⟩)⟩)⟩)⟩)⟩)⟩) (b_X11_readTarga_498 mo mw ms mt mu dd wi hi sp li sr co hb n hms  v1 v3 v4 v5 v6 v7 v8 z444 s433 gt ta _ hE hF)
                        · replace hE := fif hE c487
                          exact aw_lv _ (List.forall_mem_cons.mpr ⟨rfl, fun _ h => absurd h List.not_mem_nil⟩) (b_X11_readTarga_490 mo mw ms mt mu dd wi hi sp li sr co hb n hms  s433 gt ta _ hE hF)
                  · replace hE := fif hE c456
                    exact aw_lv _ (List.forall_mem_cons.mpr ⟨rfl, (List.forall_mem_cons.mpr ⟨rfl, (List.forall_mem_cons.mpr ⟨rfl, (List.forall_mem_cons.mpr ⟨rfl, (List.forall_mem_cons.mpr ⟨rfl, (List.forall_mem_cons.mpr ⟨rfl, (List.forall_mem_cons.mpr ⟨rfl, (List.forall_mem_cons.mpr ⟨rfl, (List.forall_mem_cons.mpr ⟨rfl, fun _ h => absurd h List.not_mem_nil⟩)⟩)⟩)⟩)⟩)⟩)⟩)⟩)⟩) (b_X11_readTarga_459 mo mw ms mt mu dd wi hi sp li sr co hb n hms  v1 v3 v4 v5 v6 v7 v8 z444 s433 gt ta _ hE hF)
              · replace hE := fit hE c436
                refine aw_iconst (v := 0) dX11_readTarga_439 (by decide) ?_
                exact aw_zret dX11_readTarga_440 rfl (narB (by decide)) (Nat.zero_le _) (Nat.zero_le _) (Nat.zero_le _) (Nat.zero_le _) ⟨_, _, hE.symm, rfl, rfl, rfl⟩
            · replace hE := fit hE c420
              refine aw_iconst (v := 0) dX11_readTarga_423 (by decide) ?_
              exact aw_zret dX11_readTarga_424 rfl (narB (by decide)) (Nat.zero_le _) (Nat.zero_le _) (Nat.zero_le _) (Nat.zero_le _) ⟨_, _, hE.symm, rfl, rfl, rfl⟩
          · replace hE := fit hE c397
            refine aw_aload_n dX11_readTarga_400 rfl ?_
            refine aw_iconst (v := 2) dX11_readTarga_401 (by decide) ?_
            refine aw_bipush (v := 14) dX11_readTarga_402 (by decide) ?_
            refine aw_callV dX11_readTarga_404 at_mod cvX11_90 rfl (kF_X11_wrong mo mw s377 ms mt mu dd wi hi gt sp ta li sr co hb _  2 14 (fon_ne hE hF)) rfl (Nat.le_of_ble_eq_true rfl) (by decide) (by decide) (by decide) (by decide) (fun _ _ _ hf => False.elim hf) (fun r404 h404 n404 hp404 => ?_)
            obtain ⟨z404, s404, e404, rfl, rfl, rfl⟩ := hp404
            replace hE := fon_ok e404 hE
            obtain ⟨g407, hE⟩ := fgd hE hF
            exact aw_zret dX11_readTarga_407 rfl (narB g407) (Nat.zero_le _) (Nat.zero_le _) (Nat.zero_le _) (Nat.zero_le _) ⟨_, _, hE.symm, rfl, rfl, rfl⟩
        · replace hE := fit hE c380
          refine aw_iconst (v := 0) dX11_readTarga_383 (by decide) ?_
          exact aw_zret dX11_readTarga_384 rfl (narB (by decide)) (Nat.zero_le _) (Nat.zero_le _) (Nat.zero_le _) (Nat.zero_le _) ⟨_, _, hE.symm, rfl, rfl, rfl⟩
      · replace hE := fit hE c359
        refine aw_aload_n dX11_readTarga_362 rfl ?_
        refine aw_iconst (v := 2) dX11_readTarga_363 (by decide) ?_
        refine aw_bipush (v := 12) dX11_readTarga_364 (by decide) ?_
        refine aw_callV dX11_readTarga_366 at_mod cvX11_90 rfl (kF_X11_wrong mo mw s339 ms mt mu dd wi hi gt sp ta li sr co hb _  2 12 (fon_ne hE hF)) rfl (Nat.le_of_ble_eq_true rfl) (by decide) (by decide) (by decide) (by decide) (fun _ _ _ hf => False.elim hf) (fun r366 h366 n366 hp366 => ?_)
        obtain ⟨z366, s366, e366, rfl, rfl, rfl⟩ := hp366
        replace hE := fon_ok e366 hE
        obtain ⟨g369, hE⟩ := fgd hE hF
        exact aw_zret dX11_readTarga_369 rfl (narB g369) (Nat.zero_le _) (Nat.zero_le _) (Nat.zero_le _) (Nat.zero_le _) ⟨_, _, hE.symm, rfl, rfl, rfl⟩
    · replace hE := fit hE c342
      refine aw_iconst (v := 0) dX11_readTarga_345 (by decide) ?_
      exact aw_zret dX11_readTarga_346 rfl (narB (by decide)) (Nat.zero_le _) (Nat.zero_le _) (Nat.zero_le _) (Nat.zero_le _) ⟨_, _, hE.symm, rfl, rfl, rfl⟩
  · replace hE := fif hE c313
    refine aw_aload_n dX11_readTarga_316 rfl ?_
    refine aw_callV dX11_readTarga_317 at_mod cvX11_208 rfl (kF_X11_readShort mo mw mr ms mt mu dd wi hi gt sp ta li sr co hb _   (fon_ne hE hF)) rfl (Nat.le_of_ble_eq_true rfl) (by decide) (by decide) (by decide) (by decide) (fun _ _ _ hf => False.elim hf) (fun r317 h317 n317 hp317 => ?_)
    obtain ⟨z317, s317, e317, rfl, rfl, rfl⟩ := hp317
    replace hE := fon_ok e317 hE
    refine aw_if_ne (tgt := 325) dX11_readTarga_320 (by decide) (fun c320 => ?_) (fun c320 => ?_)
    · replace hE := fif hE c320
      refine aw_aload_n dX11_readTarga_325 rfl ?_
      refine aw_dup dX11_readTarga_326 rfl ?_
      refine aw_getf (v := .int (mr_pos s317)) dX11_readTarga_327 flX11_84_10 at_mod rfl ?_
      refine aw_iconst (v := 2) dX11_readTarga_330 (by decide) ?_
      refine aw_iadd dX11_readTarga_331 ?_
      refine aw_putf dX11_readTarga_332 ptX11_84_10 at_mod (Nat.le_of_ble_eq_true rfl) ⟨rfl, rfl⟩ ?_
      refine aw_eqh (h2 := HM mo mw ((mr_size s317), ((mr_pos s317) + 2), (mr_kind s317), (mr_whr s317), (mr_gw s317), (mr_gh s317), (mr_one s317), (mr_two s317), (mr_three s317)) ms mt mu dd wi hi gt sp ta li sr co hb) up_mod ?_
      refine aw_goto (tgt := 307) dX11_readTarga_335 (by decide) ?_
      exact aw_lv _ (List.forall_mem_cons.mpr ⟨rfl, (List.forall_mem_cons.mpr ⟨rfl, (List.forall_mem_cons.mpr ⟨rfl, (List.forall_mem_cons.mpr ⟨rfl, (List.forall_mem_cons.mpr ⟨rfl, (List.forall_mem_cons.mpr ⟨rfl, (List.forall_mem_cons.mpr ⟨rfl, (List.forall_mem_cons.mpr ⟨rfl, fun _ h => absurd h List.not_mem_nil⟩)⟩)⟩)⟩)⟩)⟩)⟩)⟩) (hk307 v1 v3 v4 v5 v6 v7 v8 ((mr_size s317), ((mr_pos s317) + 2), (mr_kind s317), (mr_whr s317), (mr_gw s317), (mr_gh s317), (mr_one s317), (mr_two s317), (mr_three s317)) gt ta _ hE hF)
    · replace hE := fit hE c320
      refine aw_iconst (v := 0) dX11_readTarga_323 (by decide) ?_
      exact aw_zret dX11_readTarga_324 rfl (narB (by decide)) (Nat.zero_le _) (Nat.zero_le _) (Nat.zero_le _) (Nat.zero_le _) ⟨_, _, hE.symm, rfl, rfl, rfl⟩
def F_X11_readTarga_301 (sb : A)  (v1 : Int32) (v3 : Int32) (v4 : Int32) (v5 : Int32) (v6 : Int32) (v7 : Int32) (v8 : Int32) (mr : MR) (gt : A) (ta : A) : Out (MR × A × A) Int32 := lp (fun _ _ _ _ _ _ _ _ _ _ => fno) (F_X11_readTarga_307 sb) FU v1 v3 v4 v5 v6 v7 v8 ((mr_size mr), 8, (mr_kind mr), (mr_whr mr), (mr_gw mr), (mr_gh mr), (mr_one mr), (mr_two mr), (mr_three mr)) gt ta
set_option maxHeartbeats 1000000 in
set_option maxRecDepth 100000 in
theorem b_X11_readTarga_301 (mo : MO) (mw : MW) (ms : Nat) (mt : A) (mu : A) (dd : A) (wi : A) (hi : A) (sp : A) (li : A) (sr : A) (co : A) (hb : aH) (n : Nat) (hms : isMS ms)  : Q_X11_readTarga_301 mo mw ms mt mu dd wi hi sp li sr co hb n (F_X11_readTarga_301 (srcB ms mt mu)) := by
  intro v1 v3 v4 v5 v6 v7 v8 mr gt ta res hE hF
  unfold F_X11_readTarga_301 at hE
  refine aw_aload_n dX11_readTarga_301 rfl ?_
  refine aw_bipush (v := 8) dX11_readTarga_302 (by decide) ?_
  refine aw_putf dX11_readTarga_304 ptX11_84_10 at_mod (Nat.le_of_ble_eq_true rfl) ⟨rfl, rfl⟩ ?_
  refine aw_eqh (h2 := HM mo mw ((mr_size mr), 8, (mr_kind mr), (mr_whr mr), (mr_gw mr), (mr_gh mr), (mr_one mr), (mr_two mr), (mr_three mr)) ms mt mu dd wi hi gt sp ta li sr co hb) up_mod ?_
  exact aw_lv _ (List.forall_mem_cons.mpr ⟨rfl, (List.forall_mem_cons.mpr ⟨rfl, (List.forall_mem_cons.mpr ⟨rfl, (List.forall_mem_cons.mpr ⟨rfl, (List.forall_mem_cons.mpr ⟨rfl, (List.forall_mem_cons.mpr ⟨rfl, (List.forall_mem_cons.mpr ⟨rfl, (List.forall_mem_cons.mpr ⟨rfl, fun _ h => absurd h List.not_mem_nil⟩)⟩)⟩)⟩)⟩)⟩)⟩)⟩) (lp_ind (Q_X11_readTarga_307 mo mw ms mt mu dd wi hi sp li sr co hb n) (fun _ _ _ _ _ _ _ _ _ _ res hq hF => (hF hq.symm).elim) (fun k hk => b_X11_readTarga_307 mo mw ms mt mu dd wi hi sp li sr co hb n hms  k hk) FU v1 v3 v4 v5 v6 v7 v8 ((mr_size mr), 8, (mr_kind mr), (mr_whr mr), (mr_gw mr), (mr_gh mr), (mr_one mr), (mr_two mr), (mr_three mr)) gt ta _ hE hF)
def F_X11_readTarga_293 (sb : A)  (mr : MR) (gt : A) (ta : A) : Out (MR × A × A) Int32 := fon (F_X11_wrong 2 7 mr) (fun z297 s297 => if isB z297 then (fok (z297 : Int32) (s297, gt, ta)) else fno) (fun _ _ => fno)
set_option maxHeartbeats 1000000 in
set_option maxRecDepth 100000 in
theorem b_X11_readTarga_293 (mo : MO) (mw : MW) (ms : Nat) (mt : A) (mu : A) (dd : A) (wi : A) (hi : A) (sp : A) (li : A) (sr : A) (co : A) (hb : aH) (n : Nat) (hms : isMS ms)  : Q_X11_readTarga_293 mo mw ms mt mu dd wi hi sp li sr co hb n (F_X11_readTarga_293 (srcB ms mt mu)) := by
  intro mr gt ta res hE hF
  unfold F_X11_readTarga_293 at hE
  refine aw_aload_n dX11_readTarga_293 rfl ?_
  refine aw_iconst (v := 2) dX11_readTarga_294 (by decide) ?_
  refine aw_bipush (v := 7) dX11_readTarga_295 (by decide) ?_
  refine aw_callV dX11_readTarga_297 at_mod cvX11_90 rfl (kF_X11_wrong mo mw mr ms mt mu dd wi hi gt sp ta li sr co hb _  2 7 (fon_ne hE hF)) rfl (Nat.le_of_ble_eq_true rfl) (by decide) (by decide) (by decide) (by decide) (fun _ _ _ hf => False.elim hf) (fun r297 h297 n297 hp297 => ?_)
  obtain ⟨z297, s297, e297, rfl, rfl, rfl⟩ := hp297
  replace hE := fon_ok e297 hE
  obtain ⟨g300, hE⟩ := fgd hE hF
  exact aw_zret dX11_readTarga_300 rfl (narB g300) (Nat.zero_le _) (Nat.zero_le _) (Nat.zero_le _) (Nat.zero_le _) ⟨_, _, hE.symm, rfl, rfl, rfl⟩
def F_X11_readTarga_229 (sb : A)  (v1 : Int32) (v2 : Int32) (v3 : Int32) (v4 : Int32) (v5 : Int32) (v6 : Int32) (v7 : Int32) (mr : MR) (gt : A) (ta : A) : Out (MR × A × A) Int32 := fon (F_X11_want 1 ((mr_size mr), 7, (mr_kind mr), (mr_whr mr), (mr_gw mr), (mr_gh mr), (mr_one mr), (mr_two mr), (mr_three mr))) (fun z237 s237 => if z237 = 0 then (fok (0 : Int32) (s237, gt, ta)) else (fon (F_X11_b 7 sb) (fun z248 s248 => if v2 = 0 then (if z248 = 0 then (F_X11_readTarga_301 sb v1 v3 v4 v5 v6 v7 z248 s237 gt ta) else (F_X11_readTarga_293 sb s237 gt ta)) else (if z248 = 15 then (F_X11_readTarga_301 sb v1 v3 v4 v5 v6 v7 z248 s237 gt ta) else (if z248 = 16 then (F_X11_readTarga_301 sb v1 v3 v4 v5 v6 v7 z248 s237 gt ta) else (if z248 = 24 then (F_X11_readTarga_301 sb v1 v3 v4 v5 v6 v7 z248 s237 gt ta) else (if z248 = 32 then (F_X11_readTarga_301 sb v1 v3 v4 v5 v6 v7 z248 s237 gt ta) else (F_X11_readTarga_293 sb s237 gt ta)))))) (fun _ _ => fno))) (fun _ _ => fno)
set_option maxHeartbeats 1000000 in
set_option maxRecDepth 100000 in
theorem b_X11_readTarga_229 (mo : MO) (mw : MW) (ms : Nat) (mt : A) (mu : A) (dd : A) (wi : A) (hi : A) (sp : A) (li : A) (sr : A) (co : A) (hb : aH) (n : Nat) (hms : isMS ms)  : Q_X11_readTarga_229 mo mw ms mt mu dd wi hi sp li sr co hb n (F_X11_readTarga_229 (srcB ms mt mu)) := by
  intro v1 v2 v3 v4 v5 v6 v7 mr gt ta res hE hF
  unfold F_X11_readTarga_229 at hE
  refine aw_aload_n dX11_readTarga_229 rfl ?_
  refine aw_bipush (v := 7) dX11_readTarga_230 (by decide) ?_
  refine aw_putf dX11_readTarga_232 ptX11_84_10 at_mod (Nat.le_of_ble_eq_true rfl) ⟨rfl, rfl⟩ ?_
  refine aw_eqh (h2 := HM mo mw ((mr_size mr), 7, (mr_kind mr), (mr_whr mr), (mr_gw mr), (mr_gh mr), (mr_one mr), (mr_two mr), (mr_three mr)) ms mt mu dd wi hi gt sp ta li sr co hb) up_mod ?_
  refine aw_aload_n dX11_readTarga_235 rfl ?_
  refine aw_iconst (v := 1) dX11_readTarga_236 (by decide) ?_
  refine aw_callV dX11_readTarga_237 at_mod cvX11_103 rfl (kF_X11_want mo mw ((mr_size mr), 7, (mr_kind mr), (mr_whr mr), (mr_gw mr), (mr_gh mr), (mr_one mr), (mr_two mr), (mr_three mr)) ms mt mu dd wi hi gt sp ta li sr co hb _  1 (fon_ne hE hF)) rfl (Nat.le_of_ble_eq_true rfl) (by decide) (by decide) (by decide) (by decide) (fun _ _ _ hf => False.elim hf) (fun r237 h237 n237 hp237 => ?_)
  obtain ⟨z237, s237, e237, rfl, rfl, rfl⟩ := hp237
  replace hE := fon_ok e237 hE
  refine aw_if_ne (tgt := 245) dX11_readTarga_240 (by decide) (fun c240 => ?_) (fun c240 => ?_)
  · replace hE := fif hE c240
    refine aw_aload_n dX11_readTarga_245 rfl ?_
    refine aw_bipush (v := 7) dX11_readTarga_246 (by decide) ?_
    refine aw_callV dX11_readTarga_248 at_mod cvX11_99 rfl (kF_X11_b mo mw s237 ms mt mu dd wi hi gt sp ta li sr co hb _ hms 7 (fon_ne hE hF)) rfl (Nat.le_of_ble_eq_true rfl) (by decide) (by decide) (by decide) (by decide) (fun _ _ _ hf => False.elim hf) (fun r248 h248 n248 hp248 => ?_)
    obtain ⟨z248, s248, e248, rfl, rfl, rfl⟩ := hp248
    replace hE := fon_ok e248 hE
    refine aw_istore (lv2 := [(8, _), (0, _), (1, _), (2, _), (3, _), (4, _), (5, _), (6, _), (7, _)]) dX11_readTarga_251 (by decide) rfl ?_
    refine aw_iload_n dX11_readTarga_253 rfl ?_
    refine aw_if_ne (tgt := 265) dX11_readTarga_254 (by decide) (fun c254 => ?_) (fun c254 => ?_)
    · replace hE := fif hE c254
      refine aw_iload dX11_readTarga_265 rfl ?_
      refine aw_bipush (v := 15) dX11_readTarga_267 (by decide) ?_
      refine aw_icmp_eq (tgt := 301) dX11_readTarga_269 (by decide) (fun c269 => ?_) (fun c269 => ?_)
      · replace hE := fit hE c269
        exact aw_lv _ (List.forall_mem_cons.mpr ⟨rfl, (List.forall_mem_cons.mpr ⟨rfl, (List.forall_mem_cons.mpr ⟨rfl, (List.forall_mem_cons.mpr ⟨rfl, (List.forall_mem_cons.mpr ⟨rfl, (List.forall_mem_cons.mpr ⟨rfl, (List.forall_mem_cons.mpr ⟨rfl, (List.forall_mem_cons.mpr ⟨rfl, fun _ h => absurd h List.not_mem_nil⟩)⟩)⟩)⟩)⟩)⟩)⟩)⟩) (b_X11_readTarga_301 mo mw ms mt mu dd wi hi sp li sr co hb n hms  v1 v3 v4 v5 v6 v7 z248 s237 gt ta _ hE hF)
      · replace hE := fif hE c269
        refine aw_iload dX11_readTarga_272 rfl ?_
        refine aw_bipush (v := 16) dX11_readTarga_274 (by decide) ?_
        refine aw_icmp_eq (tgt := 301) dX11_readTarga_276 (by decide) (fun c276 => ?_) (fun c276 => ?_)
        · replace hE := fit hE c276
          exact aw_lv _ (List.forall_mem_cons.mpr ⟨rfl, (List.forall_mem_cons.mpr ⟨rfl, (List.forall_mem_cons.mpr ⟨rfl, (List.forall_mem_cons.mpr ⟨rfl, (List.forall_mem_cons.mpr ⟨rfl, (List.forall_mem_cons.mpr ⟨rfl, (List.forall_mem_cons.mpr ⟨rfl, (List.forall_mem_cons.mpr ⟨rfl, fun _ h => absurd h List.not_mem_nil⟩)⟩)⟩)⟩)⟩)⟩)⟩)⟩) (b_X11_readTarga_301 mo mw ms mt mu dd wi hi sp li sr co hb n hms  v1 v3 v4 v5 v6 v7 z248 s237 gt ta _ hE hF)
        · replace hE := fif hE c276
          refine aw_iload dX11_readTarga_279 rfl ?_
          refine aw_bipush (v := 24) dX11_readTarga_281 (by decide) ?_
          refine aw_icmp_eq (tgt := 301) dX11_readTarga_283 (by decide) (fun c283 => ?_) (fun c283 => ?_)
          · replace hE := fit hE c283
            exact aw_lv _ (List.forall_mem_cons.mpr ⟨rfl, (List.forall_mem_cons.mpr ⟨rfl, (List.forall_mem_cons.mpr ⟨rfl, (List.forall_mem_cons.mpr ⟨rfl, (List.forall_mem_cons.mpr ⟨rfl, (List.forall_mem_cons.mpr ⟨rfl, (List.forall_mem_cons.mpr ⟨rfl, (List.forall_mem_cons.mpr ⟨rfl, fun _ h => absurd h List.not_mem_nil⟩)⟩)⟩)⟩)⟩)⟩)⟩)⟩) (b_X11_readTarga_301 mo mw ms mt mu dd wi hi sp li sr co hb n hms  v1 v3 v4 v5 v6 v7 z248 s237 gt ta _ hE hF)
          · replace hE := fif hE c283
            refine aw_iload dX11_readTarga_286 rfl ?_
            refine aw_bipush (v := 32) dX11_readTarga_288 (by decide) ?_
            refine aw_icmp_eq (tgt := 301) dX11_readTarga_290 (by decide) (fun c290 => ?_) (fun c290 => ?_)
            · replace hE := fit hE c290
              exact aw_lv _ (List.forall_mem_cons.mpr ⟨rfl, (List.forall_mem_cons.mpr ⟨rfl, (List.forall_mem_cons.mpr ⟨rfl, (List.forall_mem_cons.mpr ⟨rfl, (List.forall_mem_cons.mpr ⟨rfl, (List.forall_mem_cons.mpr ⟨rfl, (List.forall_mem_cons.mpr ⟨rfl, (List.forall_mem_cons.mpr ⟨rfl, fun _ h => absurd h List.not_mem_nil⟩)⟩)⟩)⟩)⟩)⟩)⟩)⟩) (b_X11_readTarga_301 mo mw ms mt mu dd wi hi sp li sr co hb n hms  v1 v3 v4 v5 v6 v7 z248 s237 gt ta _ hE hF)
            · replace hE := fif hE c290
              exact aw_lv _ (List.forall_mem_cons.mpr ⟨rfl, fun _ h => absurd h List.not_mem_nil⟩) (b_X11_readTarga_293 mo mw ms mt mu dd wi hi sp li sr co hb n hms  s237 gt ta _ hE hF)
    · replace hE := fit hE c254
      refine aw_iload dX11_readTarga_257 rfl ?_
      refine aw_if_eq (tgt := 301) dX11_readTarga_259 (by decide) (fun c259 => ?_) (fun c259 => ?_)
      · replace hE := fit hE c259
        exact aw_lv _ (List.forall_mem_cons.mpr ⟨rfl, (List.forall_mem_cons.mpr ⟨rfl, (List.forall_mem_cons.mpr ⟨rfl, (List.forall_mem_cons.mpr ⟨rfl, (List.forall_mem_cons.mpr ⟨rfl, (List.forall_mem_cons.mpr ⟨rfl, (List.forall_mem_cons.mpr ⟨rfl, (List.forall_mem_cons.mpr ⟨rfl, fun _ h => absurd h List.not_mem_nil⟩)⟩)⟩)⟩)⟩)⟩)⟩)⟩) (b_X11_readTarga_301 mo mw ms mt mu dd wi hi sp li sr co hb n hms  v1 v3 v4 v5 v6 v7 z248 s237 gt ta _ hE hF)
      · replace hE := fif hE c259
        refine aw_goto (tgt := 293) dX11_readTarga_262 (by decide) ?_
        exact aw_lv _ (List.forall_mem_cons.mpr ⟨rfl, fun _ h => absurd h List.not_mem_nil⟩) (b_X11_readTarga_293 mo mw ms mt mu dd wi hi sp li sr co hb n hms  s237 gt ta _ hE hF)
  · replace hE := fit hE c240
    refine aw_iconst (v := 0) dX11_readTarga_243 (by decide) ?_
    exact aw_zret dX11_readTarga_244 rfl (narB (by decide)) (Nat.zero_le _) (Nat.zero_le _) (Nat.zero_le _) (Nat.zero_le _) ⟨_, _, hE.symm, rfl, rfl, rfl⟩
def F_X11_readTarga_222 (sb : A)  (mr : MR) (gt : A) (ta : A) : Out (MR × A × A) Int32 := fon (F_X11_wrong 2 5 mr) (fun z225 s225 => if isB z225 then (fok (z225 : Int32) (s225, gt, ta)) else fno) (fun _ _ => fno)
set_option maxHeartbeats 1000000 in
set_option maxRecDepth 100000 in
theorem b_X11_readTarga_222 (mo : MO) (mw : MW) (ms : Nat) (mt : A) (mu : A) (dd : A) (wi : A) (hi : A) (sp : A) (li : A) (sr : A) (co : A) (hb : aH) (n : Nat) (hms : isMS ms)  : Q_X11_readTarga_222 mo mw ms mt mu dd wi hi sp li sr co hb n (F_X11_readTarga_222 (srcB ms mt mu)) := by
  intro mr gt ta res hE hF
  unfold F_X11_readTarga_222 at hE
  refine aw_aload_n dX11_readTarga_222 rfl ?_
  refine aw_iconst (v := 2) dX11_readTarga_223 (by decide) ?_
  refine aw_iconst (v := 5) dX11_readTarga_224 (by decide) ?_
  refine aw_callV dX11_readTarga_225 at_mod cvX11_90 rfl (kF_X11_wrong mo mw mr ms mt mu dd wi hi gt sp ta li sr co hb _  2 5 (fon_ne hE hF)) rfl (Nat.le_of_ble_eq_true rfl) (by decide) (by decide) (by decide) (by decide) (fun _ _ _ hf => False.elim hf) (fun r225 h225 n225 hp225 => ?_)
  obtain ⟨z225, s225, e225, rfl, rfl, rfl⟩ := hp225
  replace hE := fon_ok e225 hE
  obtain ⟨g228, hE⟩ := fgd hE hF
  exact aw_zret dX11_readTarga_228 rfl (narB g228) (Nat.zero_le _) (Nat.zero_le _) (Nat.zero_le _) (Nat.zero_le _) ⟨_, _, hE.symm, rfl, rfl, rfl⟩
def F_X11_readTarga_182 (sb : A)  (v1 : Int32) (v2 : Int32) (v3 : Int32) (v4 : Int32) (v5 : Int32) (v6 : Int32) (mr : MR) (gt : A) (ta : A) : Out (MR × A × A) Int32 := fon (F_X11_readShort ((mr_size mr), 5, (mr_kind mr), (mr_whr mr), (mr_gw mr), (mr_gh mr), (mr_one mr), (mr_two mr), (mr_three mr))) (fun z188 s188 => if z188 = 0 then (fok (0 : Int32) (s188, gt, ta)) else (fon (F_X11_low 5 2 sb) (fun z199 s199 => if v2 = 0 then (if (z199).toInt32 = 0 then (F_X11_readTarga_229 sb v1 v2 v3 v4 v5 v6 ((z199).toInt32) s188 gt ta) else (F_X11_readTarga_222 sb s188 gt ta)) else (if (z199).toInt32 = 0 then (F_X11_readTarga_222 sb s188 gt ta) else (F_X11_readTarga_229 sb v1 v2 v3 v4 v5 v6 ((z199).toInt32) s188 gt ta))) (fun _ _ => fno))) (fun _ _ => fno)
set_option maxHeartbeats 1000000 in
set_option maxRecDepth 100000 in
theorem b_X11_readTarga_182 (mo : MO) (mw : MW) (ms : Nat) (mt : A) (mu : A) (dd : A) (wi : A) (hi : A) (sp : A) (li : A) (sr : A) (co : A) (hb : aH) (n : Nat) (hms : isMS ms)  : Q_X11_readTarga_182 mo mw ms mt mu dd wi hi sp li sr co hb n (F_X11_readTarga_182 (srcB ms mt mu)) := by
  intro v1 v2 v3 v4 v5 v6 mr gt ta res hE hF
  unfold F_X11_readTarga_182 at hE
  refine aw_aload_n dX11_readTarga_182 rfl ?_
  refine aw_iconst (v := 5) dX11_readTarga_183 (by decide) ?_
  refine aw_putf dX11_readTarga_184 ptX11_84_10 at_mod (Nat.le_of_ble_eq_true rfl) ⟨rfl, rfl⟩ ?_
  refine aw_eqh (h2 := HM mo mw ((mr_size mr), 5, (mr_kind mr), (mr_whr mr), (mr_gw mr), (mr_gh mr), (mr_one mr), (mr_two mr), (mr_three mr)) ms mt mu dd wi hi gt sp ta li sr co hb) up_mod ?_
  refine aw_aload_n dX11_readTarga_187 rfl ?_
  refine aw_callV dX11_readTarga_188 at_mod cvX11_208 rfl (kF_X11_readShort mo mw ((mr_size mr), 5, (mr_kind mr), (mr_whr mr), (mr_gw mr), (mr_gh mr), (mr_one mr), (mr_two mr), (mr_three mr)) ms mt mu dd wi hi gt sp ta li sr co hb _   (fon_ne hE hF)) rfl (Nat.le_of_ble_eq_true rfl) (by decide) (by decide) (by decide) (by decide) (fun _ _ _ hf => False.elim hf) (fun r188 h188 n188 hp188 => ?_)
  obtain ⟨z188, s188, e188, rfl, rfl, rfl⟩ := hp188
  replace hE := fon_ok e188 hE
  refine aw_if_ne (tgt := 196) dX11_readTarga_191 (by decide) (fun c191 => ?_) (fun c191 => ?_)
  · replace hE := fif hE c191
    refine aw_aload_n dX11_readTarga_196 rfl ?_
    refine aw_iconst (v := 5) dX11_readTarga_197 (by decide) ?_
    refine aw_iconst (v := 2) dX11_readTarga_198 (by decide) ?_
    refine aw_callV dX11_readTarga_199 at_mod cvX11_183 rfl (kF_X11_low mo mw s188 ms mt mu dd wi hi gt sp ta li sr co hb _ hms 5 2 (fon_ne hE hF)) rfl (Nat.le_of_ble_eq_true rfl) (by decide) (by decide) (by decide) (by decide) (fun _ _ _ hf => False.elim hf) (fun r199 h199 n199 hp199 => ?_)
    obtain ⟨z199, s199, e199, rfl, rfl, rfl⟩ := hp199
    replace hE := fon_ok e199 hE
    refine aw_l2i dX11_readTarga_202 ?_
    refine aw_istore (lv2 := [(7, _), (0, _), (1, _), (2, _), (3, _), (4, _), (5, _), (6, _)]) dX11_readTarga_203 (by decide) rfl ?_
    refine aw_iload_n dX11_readTarga_205 rfl ?_
    refine aw_if_ne (tgt := 217) dX11_readTarga_206 (by decide) (fun c206 => ?_) (fun c206 => ?_)
    · replace hE := fif hE c206
      refine aw_iload dX11_readTarga_217 rfl ?_
      refine aw_if_ne (tgt := 229) dX11_readTarga_219 (by decide) (fun c219 => ?_) (fun c219 => ?_)
      · replace hE := fif hE c219
        exact aw_lv _ (List.forall_mem_cons.mpr ⟨rfl, (List.forall_mem_cons.mpr ⟨rfl, (List.forall_mem_cons.mpr ⟨rfl, (List.forall_mem_cons.mpr ⟨rfl, (List.forall_mem_cons.mpr ⟨rfl, (List.forall_mem_cons.mpr ⟨rfl, (List.forall_mem_cons.mpr ⟨rfl, (List.forall_mem_cons.mpr ⟨rfl, fun _ h => absurd h List.not_mem_nil⟩)⟩)⟩)⟩)⟩)⟩)⟩)⟩) (b_X11_readTarga_229 mo mw ms mt mu dd wi hi sp li sr co hb n hms  v1 v2 v3 v4 v5 v6 ((z199).toInt32) s188 gt ta _ hE hF)
      · replace hE := fit hE c219
        exact aw_lv _ (List.forall_mem_cons.mpr ⟨rfl, fun _ h => absurd h List.not_mem_nil⟩) (b_X11_readTarga_222 mo mw ms mt mu dd wi hi sp li sr co hb n hms  s188 gt ta _ hE hF)
    · replace hE := fit hE c206
      refine aw_iload dX11_readTarga_209 rfl ?_
      refine aw_if_eq (tgt := 229) dX11_readTarga_211 (by decide) (fun c211 => ?_) (fun c211 => ?_)
      · replace hE := fit hE c211
        exact aw_lv _ (List.forall_mem_cons.mpr ⟨rfl, (List.forall_mem_cons.mpr ⟨rfl, (List.forall_mem_cons.mpr ⟨rfl, (List.forall_mem_cons.mpr ⟨rfl, (List.forall_mem_cons.mpr ⟨rfl, (List.forall_mem_cons.mpr ⟨rfl, (List.forall_mem_cons.mpr ⟨rfl, (List.forall_mem_cons.mpr ⟨rfl, fun _ h => absurd h List.not_mem_nil⟩)⟩)⟩)⟩)⟩)⟩)⟩)⟩) (b_X11_readTarga_229 mo mw ms mt mu dd wi hi sp li sr co hb n hms  v1 v2 v3 v4 v5 v6 ((z199).toInt32) s188 gt ta _ hE hF)
      · replace hE := fif hE c211
        refine aw_goto (tgt := 222) dX11_readTarga_214 (by decide) ?_
        exact aw_lv _ (List.forall_mem_cons.mpr ⟨rfl, fun _ h => absurd h List.not_mem_nil⟩) (b_X11_readTarga_222 mo mw ms mt mu dd wi hi sp li sr co hb n hms  s188 gt ta _ hE hF)
  · replace hE := fit hE c191
    refine aw_iconst (v := 0) dX11_readTarga_194 (by decide) ?_
    exact aw_zret dX11_readTarga_195 rfl (narB (by decide)) (Nat.zero_le _) (Nat.zero_le _) (Nat.zero_le _) (Nat.zero_le _) ⟨_, _, hE.symm, rfl, rfl, rfl⟩
def F_X11_readTarga_143 (sb : A)  (v1 : Int32) (v2 : Int32) (v3 : Int32) (v4 : Int32) (v5 : Int32) (mr : MR) (gt : A) (ta : A) : Out (MR × A × A) Int32 := fon (F_X11_readShort ((mr_size mr), 3, (mr_kind mr), (mr_whr mr), (mr_gw mr), (mr_gh mr), (mr_one mr), (mr_two mr), (mr_three mr))) (fun z149 s149 => if z149 = 0 then (fok (0 : Int32) (s149, gt, ta)) else (fon (F_X11_low 3 2 sb) (fun z160 s160 => if v2 = 0 then (if (z160).toInt32 = 0 then (F_X11_readTarga_182 sb v1 v2 v3 v4 v5 ((z160).toInt32) s149 gt ta) else (fon (F_X11_wrong 2 3 s149) (fun z178 s178 => if isB z178 then (fok (z178 : Int32) (s178, gt, ta)) else fno) (fun _ _ => fno))) else (F_X11_readTarga_182 sb v1 v2 v3 v4 v5 ((z160).toInt32) s149 gt ta)) (fun _ _ => fno))) (fun _ _ => fno)
set_option maxHeartbeats 1000000 in
set_option maxRecDepth 100000 in
theorem b_X11_readTarga_143 (mo : MO) (mw : MW) (ms : Nat) (mt : A) (mu : A) (dd : A) (wi : A) (hi : A) (sp : A) (li : A) (sr : A) (co : A) (hb : aH) (n : Nat) (hms : isMS ms)  : Q_X11_readTarga_143 mo mw ms mt mu dd wi hi sp li sr co hb n (F_X11_readTarga_143 (srcB ms mt mu)) := by
  intro v1 v2 v3 v4 v5 mr gt ta res hE hF
  unfold F_X11_readTarga_143 at hE
  refine aw_aload_n dX11_readTarga_143 rfl ?_
  refine aw_iconst (v := 3) dX11_readTarga_144 (by decide) ?_
  refine aw_putf dX11_readTarga_145 ptX11_84_10 at_mod (Nat.le_of_ble_eq_true rfl) ⟨rfl, rfl⟩ ?_
  refine aw_eqh (h2 := HM mo mw ((mr_size mr), 3, (mr_kind mr), (mr_whr mr), (mr_gw mr), (mr_gh mr), (mr_one mr), (mr_two mr), (mr_three mr)) ms mt mu dd wi hi gt sp ta li sr co hb) up_mod ?_
  refine aw_aload_n dX11_readTarga_148 rfl ?_
  refine aw_callV dX11_readTarga_149 at_mod cvX11_208 rfl (kF_X11_readShort mo mw ((mr_size mr), 3, (mr_kind mr), (mr_whr mr), (mr_gw mr), (mr_gh mr), (mr_one mr), (mr_two mr), (mr_three mr)) ms mt mu dd wi hi gt sp ta li sr co hb _   (fon_ne hE hF)) rfl (Nat.le_of_ble_eq_true rfl) (by decide) (by decide) (by decide) (by decide) (fun _ _ _ hf => False.elim hf) (fun r149 h149 n149 hp149 => ?_)
  obtain ⟨z149, s149, e149, rfl, rfl, rfl⟩ := hp149
  replace hE := fon_ok e149 hE
  refine aw_if_ne (tgt := 157) dX11_readTarga_152 (by decide) (fun c152 => ?_) (fun c152 => ?_)
  · replace hE := fif hE c152
    refine aw_aload_n dX11_readTarga_157 rfl ?_
    refine aw_iconst (v := 3) dX11_readTarga_158 (by decide) ?_
    refine aw_iconst (v := 2) dX11_readTarga_159 (by decide) ?_
    refine aw_callV dX11_readTarga_160 at_mod cvX11_183 rfl (kF_X11_low mo mw s149 ms mt mu dd wi hi gt sp ta li sr co hb _ hms 3 2 (fon_ne hE hF)) rfl (Nat.le_of_ble_eq_true rfl) (by decide) (by decide) (by decide) (by decide) (fun _ _ _ hf => False.elim hf) (fun r160 h160 n160 hp160 => ?_)
    obtain ⟨z160, s160, e160, rfl, rfl, rfl⟩ := hp160
    replace hE := fon_ok e160 hE
    refine aw_l2i dX11_readTarga_163 ?_
    refine aw_istore (lv2 := [(6, _), (0, _), (1, _), (2, _), (3, _), (4, _), (5, _)]) dX11_readTarga_164 (by decide) rfl ?_
    refine aw_iload_n dX11_readTarga_166 rfl ?_
    refine aw_if_ne (tgt := 182) dX11_readTarga_167 (by decide) (fun c167 => ?_) (fun c167 => ?_)
    · replace hE := fif hE c167
      exact aw_lv _ (List.forall_mem_cons.mpr ⟨rfl, (List.forall_mem_cons.mpr ⟨rfl, (List.forall_mem_cons.mpr ⟨rfl, (List.forall_mem_cons.mpr ⟨rfl, (List.forall_mem_cons.mpr ⟨rfl, (List.forall_mem_cons.mpr ⟨rfl, (List.forall_mem_cons.mpr ⟨rfl, fun _ h => absurd h List.not_mem_nil⟩)⟩)⟩)⟩)⟩)⟩)⟩) (b_X11_readTarga_182 mo mw ms mt mu dd wi hi sp li sr co hb n hms  v1 v2 v3 v4 v5 ((z160).toInt32) s149 gt ta _ hE hF)
    · replace hE := fit hE c167
      refine aw_iload dX11_readTarga_170 rfl ?_
      refine aw_if_eq (tgt := 182) dX11_readTarga_172 (by decide) (fun c172 => ?_) (fun c172 => ?_)
      · replace hE := fit hE c172
        exact aw_lv _ (List.forall_mem_cons.mpr ⟨rfl, (List.forall_mem_cons.mpr ⟨rfl, (List.forall_mem_cons.mpr ⟨rfl, (List.forall_mem_cons.mpr ⟨rfl, (List.forall_mem_cons.mpr ⟨rfl, (List.forall_mem_cons.mpr ⟨rfl, (List.forall_mem_cons.mpr ⟨rfl, fun _ h => absurd h List.not_mem_nil⟩)⟩)⟩)⟩)⟩)⟩)⟩) (b_X11_readTarga_182 mo mw ms mt mu dd wi hi sp li sr co hb n hms  v1 v2 v3 v4 v5 ((z160).toInt32) s149 gt ta _ hE hF)
      · replace hE := fif hE c172
        refine aw_aload_n dX11_readTarga_175 rfl ?_
        refine aw_iconst (v := 2) dX11_readTarga_176 (by decide) ?_
        refine aw_iconst (v := 3) dX11_readTarga_177 (by decide) ?_
        refine aw_callV dX11_readTarga_178 at_mod cvX11_90 rfl (kF_X11_wrong mo mw s149 ms mt mu dd wi hi gt sp ta li sr co hb _  2 3 (fon_ne hE hF)) rfl (Nat.le_of_ble_eq_true rfl) (by decide) (by decide) (by decide) (by decide) (fun _ _ _ hf => False.elim hf) (fun r178 h178 n178 hp178 => ?_)
        obtain ⟨z178, s178, e178, rfl, rfl, rfl⟩ := hp178
        replace hE := fon_ok e178 hE
        obtain ⟨g181, hE⟩ := fgd hE hF
        exact aw_zret dX11_readTarga_181 rfl (narB g181) (Nat.zero_le _) (Nat.zero_le _) (Nat.zero_le _) (Nat.zero_le _) ⟨_, _, hE.symm, rfl, rfl, rfl⟩
  · replace hE := fit hE c152
    refine aw_iconst (v := 0) dX11_readTarga_155 (by decide) ?_
    exact aw_zret dX11_readTarga_156 rfl (narB (by decide)) (Nat.zero_le _) (Nat.zero_le _) (Nat.zero_le _) (Nat.zero_le _) ⟨_, _, hE.symm, rfl, rfl, rfl⟩
def F_X11_readTarga_136 (sb : A)  (mr : MR) (gt : A) (ta : A) : Out (MR × A × A) Int32 := fon (F_X11_wrong 2 2 mr) (fun z139 s139 => if isB z139 then (fok (z139 : Int32) (s139, gt, ta)) else fno) (fun _ _ => fno)
set_option maxHeartbeats 1000000 in
set_option maxRecDepth 100000 in
theorem b_X11_readTarga_136 (mo : MO) (mw : MW) (ms : Nat) (mt : A) (mu : A) (dd : A) (wi : A) (hi : A) (sp : A) (li : A) (sr : A) (co : A) (hb : aH) (n : Nat) (hms : isMS ms)  : Q_X11_readTarga_136 mo mw ms mt mu dd wi hi sp li sr co hb n (F_X11_readTarga_136 (srcB ms mt mu)) := by
  intro mr gt ta res hE hF
  unfold F_X11_readTarga_136 at hE
  refine aw_aload_n dX11_readTarga_136 rfl ?_
  refine aw_iconst (v := 2) dX11_readTarga_137 (by decide) ?_
  refine aw_iconst (v := 2) dX11_readTarga_138 (by decide) ?_
  refine aw_callV dX11_readTarga_139 at_mod cvX11_90 rfl (kF_X11_wrong mo mw mr ms mt mu dd wi hi gt sp ta li sr co hb _  2 2 (fon_ne hE hF)) rfl (Nat.le_of_ble_eq_true rfl) (by decide) (by decide) (by decide) (by decide) (fun _ _ _ hf => False.elim hf) (fun r139 h139 n139 hp139 => ?_)
  obtain ⟨z139, s139, e139, rfl, rfl, rfl⟩ := hp139
  replace hE := fon_ok e139 hE
  obtain ⟨g142, hE⟩ := fgd hE hF
  exact aw_zret dX11_readTarga_142 rfl (narB g142) (Nat.zero_le _) (Nat.zero_le _) (Nat.zero_le _) (Nat.zero_le _) ⟨_, _, hE.symm, rfl, rfl, rfl⟩
def F_X11_readTarga_127 (sb : A)  (v1 : Int32) (v2 : Int32) (v3 : Int32) (v4 : Int32) (v5 : Int32) (mr : MR) (gt : A) (ta : A) : Out (MR × A × A) Int32 := if v4 = 0 then (F_X11_readTarga_143 sb v1 v2 v3 v4 v5 mr gt ta) else (if v2 = 0 then (F_X11_readTarga_136 sb mr gt ta) else (F_X11_readTarga_143 sb v1 v2 v3 v4 v5 mr gt ta))
set_option maxHeartbeats 1000000 in
set_option maxRecDepth 100000 in
theorem b_X11_readTarga_127 (mo : MO) (mw : MW) (ms : Nat) (mt : A) (mu : A) (dd : A) (wi : A) (hi : A) (sp : A) (li : A) (sr : A) (co : A) (hb : aH) (n : Nat) (hms : isMS ms)  : Q_X11_readTarga_127 mo mw ms mt mu dd wi hi sp li sr co hb n (F_X11_readTarga_127 (srcB ms mt mu)) := by
  intro v1 v2 v3 v4 v5 mr gt ta res hE hF
  unfold F_X11_readTarga_127 at hE
  refine aw_iload dX11_readTarga_127 rfl ?_
  refine aw_if_eq (tgt := 143) dX11_readTarga_129 (by decide) (fun c129 => ?_) (fun c129 => ?_)
  · replace hE := fit hE c129
    exact aw_lv _ (List.forall_mem_cons.mpr ⟨rfl, (List.forall_mem_cons.mpr ⟨rfl, (List.forall_mem_cons.mpr ⟨rfl, (List.forall_mem_cons.mpr ⟨rfl, (List.forall_mem_cons.mpr ⟨rfl, (List.forall_mem_cons.mpr ⟨rfl, fun _ h => absurd h List.not_mem_nil⟩)⟩)⟩)⟩)⟩)⟩) (b_X11_readTarga_143 mo mw ms mt mu dd wi hi sp li sr co hb n hms  v1 v2 v3 v4 v5 mr gt ta _ hE hF)
  · replace hE := fif hE c129
    refine aw_iload_n dX11_readTarga_132 rfl ?_
    refine aw_if_ne (tgt := 143) dX11_readTarga_133 (by decide) (fun c133 => ?_) (fun c133 => ?_)
    · replace hE := fif hE c133
      exact aw_lv _ (List.forall_mem_cons.mpr ⟨rfl, (List.forall_mem_cons.mpr ⟨rfl, (List.forall_mem_cons.mpr ⟨rfl, (List.forall_mem_cons.mpr ⟨rfl, (List.forall_mem_cons.mpr ⟨rfl, (List.forall_mem_cons.mpr ⟨rfl, fun _ h => absurd h List.not_mem_nil⟩)⟩)⟩)⟩)⟩)⟩) (b_X11_readTarga_143 mo mw ms mt mu dd wi hi sp li sr co hb n hms  v1 v2 v3 v4 v5 mr gt ta _ hE hF)
    · replace hE := fit hE c133
      exact aw_lv _ (List.forall_mem_cons.mpr ⟨rfl, fun _ h => absurd h List.not_mem_nil⟩) (b_X11_readTarga_136 mo mw ms mt mu dd wi hi sp li sr co hb n hms  mr gt ta _ hE hF)
def F_X11_readTarga_104 (sb : A)  (v1 : Int32) (v2 : Int32) (v3 : Int32) (v4 : Int32) (t0 : Int32) (mr : MR) (gt : A) (ta : A) : Out (MR × A × A) Int32 := if v4 = 0 then (if t0 = 0 then (if v3 = 2 then (F_X11_readTarga_127 sb v1 v2 v3 v4 t0 mr gt ta) else (if v3 = 10 then (F_X11_readTarga_127 sb v1 v2 v3 v4 t0 mr gt ta) else (F_X11_readTarga_136 sb mr gt ta))) else (F_X11_readTarga_127 sb v1 v2 v3 v4 t0 mr gt ta)) else (F_X11_readTarga_127 sb v1 v2 v3 v4 t0 mr gt ta)
set_option maxHeartbeats 1000000 in
set_option maxRecDepth 100000 in
theorem b_X11_readTarga_104 (mo : MO) (mw : MW) (ms : Nat) (mt : A) (mu : A) (dd : A) (wi : A) (hi : A) (sp : A) (li : A) (sr : A) (co : A) (hb : aH) (n : Nat) (hms : isMS ms)  : Q_X11_readTarga_104 mo mw ms mt mu dd wi hi sp li sr co hb n (F_X11_readTarga_104 (srcB ms mt mu)) := by
  intro v1 v2 v3 v4 t0 mr gt ta res hE hF
  unfold F_X11_readTarga_104 at hE
  refine aw_istore (lv2 := [(5, _), (0, _), (1, _), (2, _), (3, _), (4, _)]) dX11_readTarga_104 (by decide) rfl ?_
  refine aw_iload dX11_readTarga_106 rfl ?_
  refine aw_if_ne (tgt := 127) dX11_readTarga_108 (by decide) (fun c108 => ?_) (fun c108 => ?_)
  · replace hE := fif hE c108
    exact aw_lv _ (List.forall_mem_cons.mpr ⟨rfl, (List.forall_mem_cons.mpr ⟨rfl, (List.forall_mem_cons.mpr ⟨rfl, (List.forall_mem_cons.mpr ⟨rfl, (List.forall_mem_cons.mpr ⟨rfl, (List.forall_mem_cons.mpr ⟨rfl, fun _ h => absurd h List.not_mem_nil⟩)⟩)⟩)⟩)⟩)⟩) (b_X11_readTarga_127 mo mw ms mt mu dd wi hi sp li sr co hb n hms  v1 v2 v3 v4 t0 mr gt ta _ hE hF)
  · replace hE := fit hE c108
    refine aw_iload dX11_readTarga_111 rfl ?_
    refine aw_if_ne (tgt := 127) dX11_readTarga_113 (by decide) (fun c113 => ?_) (fun c113 => ?_)
    · replace hE := fif hE c113
      exact aw_lv _ (List.forall_mem_cons.mpr ⟨rfl, (List.forall_mem_cons.mpr ⟨rfl, (List.forall_mem_cons.mpr ⟨rfl, (List.forall_mem_cons.mpr ⟨rfl, (List.forall_mem_cons.mpr ⟨rfl, (List.forall_mem_cons.mpr ⟨rfl, fun _ h => absurd h List.not_mem_nil⟩)⟩)⟩)⟩)⟩)⟩) (b_X11_readTarga_127 mo mw ms mt mu dd wi hi sp li sr co hb n hms  v1 v2 v3 v4 t0 mr gt ta _ hE hF)
    · replace hE := fit hE c113
      refine aw_iload_n dX11_readTarga_116 rfl ?_
      refine aw_iconst (v := 2) dX11_readTarga_117 (by decide) ?_
      refine aw_icmp_eq (tgt := 127) dX11_readTarga_118 (by decide) (fun c118 => ?_) (fun c118 => ?_)
      · replace hE := fit hE c118
        exact aw_lv _ (List.forall_mem_cons.mpr ⟨rfl, (List.forall_mem_cons.mpr ⟨rfl, (List.forall_mem_cons.mpr ⟨rfl, (List.forall_mem_cons.mpr ⟨rfl, (List.forall_mem_cons.mpr ⟨rfl, (List.forall_mem_cons.mpr ⟨rfl, fun _ h => absurd h List.not_mem_nil⟩)⟩)⟩)⟩)⟩)⟩) (b_X11_readTarga_127 mo mw ms mt mu dd wi hi sp li sr co hb n hms  v1 v2 v3 v4 t0 mr gt ta _ hE hF)
      · replace hE := fif hE c118
        refine aw_iload_n dX11_readTarga_121 rfl ?_
        refine aw_bipush (v := 10) dX11_readTarga_122 (by decide) ?_
        refine aw_icmp_ne (tgt := 136) dX11_readTarga_124 (by decide) (fun c124 => ?_) (fun c124 => ?_)
        · replace hE := fif hE c124
          exact aw_lv _ (List.forall_mem_cons.mpr ⟨rfl, fun _ h => absurd h List.not_mem_nil⟩) (b_X11_readTarga_136 mo mw ms mt mu dd wi hi sp li sr co hb n hms  mr gt ta _ hE hF)
        · replace hE := fit hE c124
          exact aw_lv _ (List.forall_mem_cons.mpr ⟨rfl, (List.forall_mem_cons.mpr ⟨rfl, (List.forall_mem_cons.mpr ⟨rfl, (List.forall_mem_cons.mpr ⟨rfl, (List.forall_mem_cons.mpr ⟨rfl, (List.forall_mem_cons.mpr ⟨rfl, fun _ h => absurd h List.not_mem_nil⟩)⟩)⟩)⟩)⟩)⟩) (b_X11_readTarga_127 mo mw ms mt mu dd wi hi sp li sr co hb n hms  v1 v2 v3 v4 t0 mr gt ta _ hE hF)
def F_X11_readTarga_99 (sb : A)  (v1 : Int32) (v2 : Int32) (v3 : Int32) (v4 : Int32) (mr : MR) (gt : A) (ta : A) : Out (MR × A × A) Int32 := F_X11_readTarga_104 sb v1 v2 v3 v4 (1 : Int32) mr gt ta
set_option maxHeartbeats 1000000 in
set_option maxRecDepth 100000 in
theorem b_X11_readTarga_99 (mo : MO) (mw : MW) (ms : Nat) (mt : A) (mu : A) (dd : A) (wi : A) (hi : A) (sp : A) (li : A) (sr : A) (co : A) (hb : aH) (n : Nat) (hms : isMS ms)  : Q_X11_readTarga_99 mo mw ms mt mu dd wi hi sp li sr co hb n (F_X11_readTarga_99 (srcB ms mt mu)) := by
  intro v1 v2 v3 v4 mr gt ta res hE hF
  unfold F_X11_readTarga_99 at hE
  refine aw_iconst (v := 1) dX11_readTarga_99 (by decide) ?_
  refine aw_goto (tgt := 104) dX11_readTarga_100 (by decide) ?_
  exact aw_lv _ (List.forall_mem_cons.mpr ⟨rfl, (List.forall_mem_cons.mpr ⟨rfl, (List.forall_mem_cons.mpr ⟨rfl, (List.forall_mem_cons.mpr ⟨rfl, (List.forall_mem_cons.mpr ⟨rfl, fun _ h => absurd h List.not_mem_nil⟩)⟩)⟩)⟩)⟩) (b_X11_readTarga_104 mo mw ms mt mu dd wi hi sp li sr co hb n hms  v1 v2 v3 v4 (1 : Int32) mr gt ta _ hE hF)
def F_X11_readTarga_86 (sb : A)  (v1 : Int32) (v2 : Int32) (v3 : Int32) (t0 : Int32) (mr : MR) (gt : A) (ta : A) : Out (MR × A × A) Int32 := if v3 = 3 then (F_X11_readTarga_99 sb v1 v2 v3 t0 mr gt ta) else (if v3 = 11 then (F_X11_readTarga_99 sb v1 v2 v3 t0 mr gt ta) else (F_X11_readTarga_104 sb v1 v2 v3 t0 (0 : Int32) mr gt ta))
set_option maxHeartbeats 1000000 in
set_option maxRecDepth 100000 in
theorem b_X11_readTarga_86 (mo : MO) (mw : MW) (ms : Nat) (mt : A) (mu : A) (dd : A) (wi : A) (hi : A) (sp : A) (li : A) (sr : A) (co : A) (hb : aH) (n : Nat) (hms : isMS ms)  : Q_X11_readTarga_86 mo mw ms mt mu dd wi hi sp li sr co hb n (F_X11_readTarga_86 (srcB ms mt mu)) := by
  intro v1 v2 v3 t0 mr gt ta res hE hF
  unfold F_X11_readTarga_86 at hE
  refine aw_istore (lv2 := [(4, _), (0, _), (1, _), (2, _), (3, _)]) dX11_readTarga_86 (by decide) rfl ?_
  refine aw_iload_n dX11_readTarga_88 rfl ?_
  refine aw_iconst (v := 3) dX11_readTarga_89 (by decide) ?_
  refine aw_icmp_eq (tgt := 99) dX11_readTarga_90 (by decide) (fun c90 => ?_) (fun c90 => ?_)
  · replace hE := fit hE c90
    exact aw_lv _ (List.forall_mem_cons.mpr ⟨rfl, (List.forall_mem_cons.mpr ⟨rfl, (List.forall_mem_cons.mpr ⟨rfl, (List.forall_mem_cons.mpr ⟨rfl, (List.forall_mem_cons.mpr ⟨rfl, fun _ h => absurd h List.not_mem_nil⟩)⟩)⟩)⟩)⟩) (b_X11_readTarga_99 mo mw ms mt mu dd wi hi sp li sr co hb n hms  v1 v2 v3 t0 mr gt ta _ hE hF)
  · replace hE := fif hE c90
    refine aw_iload_n dX11_readTarga_93 rfl ?_
    refine aw_bipush (v := 11) dX11_readTarga_94 (by decide) ?_
    refine aw_icmp_ne (tgt := 103) dX11_readTarga_96 (by decide) (fun c96 => ?_) (fun c96 => ?_)
    · replace hE := fif hE c96
      refine aw_iconst (v := 0) dX11_readTarga_103 (by decide) ?_
      exact aw_lv _ (List.forall_mem_cons.mpr ⟨rfl, (List.forall_mem_cons.mpr ⟨rfl, (List.forall_mem_cons.mpr ⟨rfl, (List.forall_mem_cons.mpr ⟨rfl, (List.forall_mem_cons.mpr ⟨rfl, fun _ h => absurd h List.not_mem_nil⟩)⟩)⟩)⟩)⟩) (b_X11_readTarga_104 mo mw ms mt mu dd wi hi sp li sr co hb n hms  v1 v2 v3 t0 (0 : Int32) mr gt ta _ hE hF)
    · replace hE := fit hE c96
      exact aw_lv _ (List.forall_mem_cons.mpr ⟨rfl, (List.forall_mem_cons.mpr ⟨rfl, (List.forall_mem_cons.mpr ⟨rfl, (List.forall_mem_cons.mpr ⟨rfl, (List.forall_mem_cons.mpr ⟨rfl, fun _ h => absurd h List.not_mem_nil⟩)⟩)⟩)⟩)⟩) (b_X11_readTarga_99 mo mw ms mt mu dd wi hi sp li sr co hb n hms  v1 v2 v3 t0 mr gt ta _ hE hF)
def F_X11_readTarga_81 (sb : A)  (v1 : Int32) (v2 : Int32) (v3 : Int32) (mr : MR) (gt : A) (ta : A) : Out (MR × A × A) Int32 := F_X11_readTarga_86 sb v1 v2 v3 (1 : Int32) mr gt ta
set_option maxHeartbeats 1000000 in
set_option maxRecDepth 100000 in
theorem b_X11_readTarga_81 (mo : MO) (mw : MW) (ms : Nat) (mt : A) (mu : A) (dd : A) (wi : A) (hi : A) (sp : A) (li : A) (sr : A) (co : A) (hb : aH) (n : Nat) (hms : isMS ms)  : Q_X11_readTarga_81 mo mw ms mt mu dd wi hi sp li sr co hb n (F_X11_readTarga_81 (srcB ms mt mu)) := by
  intro v1 v2 v3 mr gt ta res hE hF
  unfold F_X11_readTarga_81 at hE
  refine aw_iconst (v := 1) dX11_readTarga_81 (by decide) ?_
  refine aw_goto (tgt := 86) dX11_readTarga_82 (by decide) ?_
  exact aw_lv _ (List.forall_mem_cons.mpr ⟨rfl, (List.forall_mem_cons.mpr ⟨rfl, (List.forall_mem_cons.mpr ⟨rfl, (List.forall_mem_cons.mpr ⟨rfl, fun _ h => absurd h List.not_mem_nil⟩)⟩)⟩)⟩) (b_X11_readTarga_86 mo mw ms mt mu dd wi hi sp li sr co hb n hms  v1 v2 v3 (1 : Int32) mr gt ta _ hE hF)
def F_X11_readTarga (sb : A) (mr : MR) (gt : A) (ta : A) : Out (MR × A × A) Int32 := fon (F_X11_want 1 mr) (fun z2 s2 => if z2 = 0 then (fok (0 : Int32) (s2, gt, ta)) else (fon (F_X11_b 0 sb) (fun z12 s12 => fon (F_X11_want 1 ((mr_size s2), 1, (mr_kind s2), (mr_whr s2), (mr_gw s2), (mr_gh s2), (mr_one s2), (mr_two s2), (mr_three s2))) (fun z23 s23 => if z23 = 0 then (fok (0 : Int32) (s23, gt, ta)) else (fon (F_X11_b 1 sb) (fun z33 s33 => if z33 ≤ 1 then (fon (F_X11_want 1 ((mr_size s23), 2, (mr_kind s23), (mr_whr s23), (mr_gw s23), (mr_gh s23), (mr_one s23), (mr_two s23), (mr_three s23))) (fun z56 s56 => if z56 = 0 then (fok (0 : Int32) (s56, gt, ta)) else (fon (F_X11_b 2 sb) (fun z66 s66 => if z66 = 1 then (F_X11_readTarga_81 sb z12 z33 z66 s56 gt ta) else (if z66 = 9 then (F_X11_readTarga_81 sb z12 z33 z66 s56 gt ta) else (F_X11_readTarga_86 sb z12 z33 z66 (0 : Int32) s56 gt ta))) (fun _ _ => fno))) (fun _ _ => fno)) else (fon (F_X11_wrong 2 1 s23) (fun z45 s45 => if isB z45 then (fok (z45 : Int32) (s45, gt, ta)) else fno) (fun _ _ => fno))) (fun _ _ => fno))) (fun _ _ => fno)) (fun _ _ => fno))) (fun _ _ => fno)
set_option maxHeartbeats 1000000 in
set_option maxRecDepth 100000 in
theorem kF_X11_readTarga (mo : MO) (mw : MW) (mr : MR) (ms : Nat) (mt : A) (mu : A) (dd : A) (wi : A) (hi : A) (gt : A) (sp : A) (ta : A) (li : A) (sr : A) (co : A) (hb : aH) (n : Nat) (hms : isMS ms)  (hF : F_X11_readTarga (srcB ms mt mu) mr gt ta ≠ fno) : AM mX11_readTarga 6 [.ref 31] (HM mo mw mr ms mt mu dd wi hi gt sp ta li sr co hb) n 0 0 0 0 (P_X11_readTarga mo mw ms mt mu dd wi hi sp li sr co hb n (F_X11_readTarga (srcB ms mt mu) mr gt ta)) (fun _ _ _ => False) := by
  generalize hE : F_X11_readTarga (srcB ms mt mu) mr gt ta = res at hF ⊢
  refine aw_of (by decide +kernel) rfl (Nat.le_of_ble_eq_true rfl) ?_
  unfold F_X11_readTarga at hE
  refine aw_aload_n dX11_readTarga_0 rfl ?_
  refine aw_iconst (v := 1) dX11_readTarga_1 (by decide) ?_
  refine aw_callV dX11_readTarga_2 at_mod cvX11_103 rfl (kF_X11_want mo mw mr ms mt mu dd wi hi gt sp ta li sr co hb _  1 (fon_ne hE hF)) rfl (Nat.le_of_ble_eq_true rfl) (by decide) (by decide) (by decide) (by decide) (fun _ _ _ hf => False.elim hf) (fun r2 h2 n2 hp2 => ?_)
  obtain ⟨z2, s2, e2, rfl, rfl, rfl⟩ := hp2
  replace hE := fon_ok e2 hE
  refine aw_if_ne (tgt := 10) dX11_readTarga_5 (by decide) (fun c5 => ?_) (fun c5 => ?_)
  · replace hE := fif hE c5
    refine aw_aload_n dX11_readTarga_10 rfl ?_
    refine aw_iconst (v := 0) dX11_readTarga_11 (by decide) ?_
    refine aw_callV dX11_readTarga_12 at_mod cvX11_99 rfl (kF_X11_b mo mw s2 ms mt mu dd wi hi gt sp ta li sr co hb _ hms 0 (fon_ne hE hF)) rfl (Nat.le_of_ble_eq_true rfl) (by decide) (by decide) (by decide) (by decide) (fun _ _ _ hf => False.elim hf) (fun r12 h12 n12 hp12 => ?_)
    obtain ⟨z12, s12, e12, rfl, rfl, rfl⟩ := hp12
    replace hE := fon_ok e12 hE
    refine aw_istore_n (lv2 := [(1, _), (0, _)]) dX11_readTarga_15 (by decide) rfl ?_
    refine aw_aload_n dX11_readTarga_16 rfl ?_
    refine aw_iconst (v := 1) dX11_readTarga_17 (by decide) ?_
    refine aw_putf dX11_readTarga_18 ptX11_84_10 at_mod (Nat.le_of_ble_eq_true rfl) ⟨rfl, rfl⟩ ?_
    refine aw_eqh (h2 := HM mo mw ((mr_size s2), 1, (mr_kind s2), (mr_whr s2), (mr_gw s2), (mr_gh s2), (mr_one s2), (mr_two s2), (mr_three s2)) ms mt mu dd wi hi gt sp ta li sr co hb) up_mod ?_
    refine aw_aload_n dX11_readTarga_21 rfl ?_
    refine aw_iconst (v := 1) dX11_readTarga_22 (by decide) ?_
    refine aw_callV dX11_readTarga_23 at_mod cvX11_103 rfl (kF_X11_want mo mw ((mr_size s2), 1, (mr_kind s2), (mr_whr s2), (mr_gw s2), (mr_gh s2), (mr_one s2), (mr_two s2), (mr_three s2)) ms mt mu dd wi hi gt sp ta li sr co hb _  1 (fon_ne hE hF)) rfl (Nat.le_of_ble_eq_true rfl) (by decide) (by decide) (by decide) (by decide) (fun _ _ _ hf => False.elim hf) (fun r23 h23 n23 hp23 => ?_)
    obtain ⟨z23, s23, e23, rfl, rfl, rfl⟩ := hp23
    replace hE := fon_ok e23 hE
    refine aw_if_ne (tgt := 31) dX11_readTarga_26 (by decide) (fun c26 => ?_) (fun c26 => ?_)
    · replace hE := fif hE c26
      refine aw_aload_n dX11_readTarga_31 rfl ?_
      refine aw_iconst (v := 1) dX11_readTarga_32 (by decide) ?_
      refine aw_callV dX11_readTarga_33 at_mod cvX11_99 rfl (kF_X11_b mo mw s23 ms mt mu dd wi hi gt sp ta li sr co hb _ hms 1 (fon_ne hE hF)) rfl (Nat.le_of_ble_eq_true rfl) (by decide) (by decide) (by decide) (by decide) (fun _ _ _ hf => False.elim hf) (fun r33 h33 n33 hp33 => ?_)
      obtain ⟨z33, s33, e33, rfl, rfl, rfl⟩ := hp33
      replace hE := fon_ok e33 hE
      refine aw_istore_n (lv2 := [(2, _), (1, _), (0, _)]) dX11_readTarga_36 (by decide) rfl ?_
      refine aw_iload_n dX11_readTarga_37 rfl ?_
      refine aw_iconst (v := 1) dX11_readTarga_38 (by decide) ?_
      refine aw_icmp_le (tgt := 49) dX11_readTarga_39 (by decide) (fun c39 => ?_) (fun c39 => ?_)
      · replace hE := fit hE c39
        refine aw_aload_n dX11_readTarga_49 rfl ?_
        refine aw_iconst (v := 2) dX11_readTarga_50 (by decide) ?_
        refine aw_putf dX11_readTarga_51 ptX11_84_10 at_mod (Nat.le_of_ble_eq_true rfl) ⟨rfl, rfl⟩ ?_
        refine aw_eqh (h2 := HM mo mw ((mr_size s23), 2, (mr_kind s23), (mr_whr s23), (mr_gw s23), (mr_gh s23), (mr_one s23), (mr_two s23), (mr_three s23)) ms mt mu dd wi hi gt sp ta li sr co hb) up_mod ?_
        refine aw_aload_n dX11_readTarga_54 rfl ?_
        refine aw_iconst (v := 1) dX11_readTarga_55 (by decide) ?_
        refine aw_callV dX11_readTarga_56 at_mod cvX11_103 rfl (kF_X11_want mo mw ((mr_size s23), 2, (mr_kind s23), (mr_whr s23), (mr_gw s23), (mr_gh s23), (mr_one s23), (mr_two s23), (mr_three s23)) ms mt mu dd wi hi gt sp ta li sr co hb _  1 (fon_ne hE hF)) rfl (Nat.le_of_ble_eq_true rfl) (by decide) (by decide) (by decide) (by decide) (fun _ _ _ hf => False.elim hf) (fun r56 h56 n56 hp56 => ?_)
        obtain ⟨z56, s56, e56, rfl, rfl, rfl⟩ := hp56
        replace hE := fon_ok e56 hE
        refine aw_if_ne (tgt := 64) dX11_readTarga_59 (by decide) (fun c59 => ?_) (fun c59 => ?_)
        · replace hE := fif hE c59
          refine aw_aload_n dX11_readTarga_64 rfl ?_
          refine aw_iconst (v := 2) dX11_readTarga_65 (by decide) ?_
          refine aw_callV dX11_readTarga_66 at_mod cvX11_99 rfl (kF_X11_b mo mw s56 ms mt mu dd wi hi gt sp ta li sr co hb _ hms 2 (fon_ne hE hF)) rfl (Nat.le_of_ble_eq_true rfl) (by decide) (by decide) (by decide) (by decide) (fun _ _ _ hf => False.elim hf) (fun r66 h66 n66 hp66 => ?_)
          obtain ⟨z66, s66, e66, rfl, rfl, rfl⟩ := hp66
          replace hE := fon_ok e66 hE
          refine aw_istore_n (lv2 := [(3, _), (2, _), (1, _), (0, _)]) dX11_readTarga_69 (by decide) rfl ?_
          refine aw_iload_n dX11_readTarga_70 rfl ?_
          refine aw_iconst (v := 1) dX11_readTarga_71 (by decide) ?_
          refine aw_icmp_eq (tgt := 81) dX11_readTarga_72 (by decide) (fun c72 => ?_) (fun c72 => ?_)
          · replace hE := fit hE c72
            exact aw_lv _ (List.forall_mem_cons.mpr ⟨rfl, (List.forall_mem_cons.mpr ⟨rfl, (List.forall_mem_cons.mpr ⟨rfl, (List.forall_mem_cons.mpr ⟨rfl, fun _ h => absurd h List.not_mem_nil⟩)⟩)⟩)⟩) (b_X11_readTarga_81 mo mw ms mt mu dd wi hi sp li sr co hb n hms  z12 z33 z66 s56 gt ta _ hE hF)
          · replace hE := fif hE c72
            refine aw_iload_n dX11_readTarga_75 rfl ?_
            refine aw_bipush (v := 9) dX11_readTarga_76 (by decide) ?_
            refine aw_icmp_ne (tgt := 85) dX11_readTarga_78 (by decide) (fun c78 => ?_) (fun c78 => ?_)
            · replace hE := fif hE c78
              refine aw_iconst (v := 0) dX11_readTarga_85 (by decide) ?_
              exact aw_lv _ (List.forall_mem_cons.mpr ⟨rfl, (List.forall_mem_cons.mpr ⟨rfl, (List.forall_mem_cons.mpr ⟨rfl, (List.forall_mem_cons.mpr ⟨rfl, fun _ h => absurd h List.not_mem_nil⟩)⟩)⟩)⟩) (b_X11_readTarga_86 mo mw ms mt mu dd wi hi sp li sr co hb n hms  z12 z33 z66 (0 : Int32) s56 gt ta _ hE hF)
            · replace hE := fit hE c78
              exact aw_lv _ (List.forall_mem_cons.mpr ⟨rfl, (List.forall_mem_cons.mpr ⟨rfl, (List.forall_mem_cons.mpr ⟨rfl, (List.forall_mem_cons.mpr ⟨rfl, fun _ h => absurd h List.not_mem_nil⟩)⟩)⟩)⟩) (b_X11_readTarga_81 mo mw ms mt mu dd wi hi sp li sr co hb n hms  z12 z33 z66 s56 gt ta _ hE hF)
        · replace hE := fit hE c59
          refine aw_iconst (v := 0) dX11_readTarga_62 (by decide) ?_
          exact aw_zret dX11_readTarga_63 rfl (narB (by decide)) (Nat.zero_le _) (Nat.zero_le _) (Nat.zero_le _) (Nat.zero_le _) ⟨_, _, hE.symm, rfl, rfl, rfl⟩
      · replace hE := fif hE c39
        refine aw_aload_n dX11_readTarga_42 rfl ?_
        refine aw_iconst (v := 2) dX11_readTarga_43 (by decide) ?_
        refine aw_iconst (v := 1) dX11_readTarga_44 (by decide) ?_
        refine aw_callV dX11_readTarga_45 at_mod cvX11_90 rfl (kF_X11_wrong mo mw s23 ms mt mu dd wi hi gt sp ta li sr co hb _  2 1 (fon_ne hE hF)) rfl (Nat.le_of_ble_eq_true rfl) (by decide) (by decide) (by decide) (by decide) (fun _ _ _ hf => False.elim hf) (fun r45 h45 n45 hp45 => ?_)
        obtain ⟨z45, s45, e45, rfl, rfl, rfl⟩ := hp45
        replace hE := fon_ok e45 hE
        obtain ⟨g48, hE⟩ := fgd hE hF
        exact aw_zret dX11_readTarga_48 rfl (narB g48) (Nat.zero_le _) (Nat.zero_le _) (Nat.zero_le _) (Nat.zero_le _) ⟨_, _, hE.symm, rfl, rfl, rfl⟩
    · replace hE := fit hE c26
      refine aw_iconst (v := 0) dX11_readTarga_29 (by decide) ?_
      exact aw_zret dX11_readTarga_30 rfl (narB (by decide)) (Nat.zero_le _) (Nat.zero_le _) (Nat.zero_le _) (Nat.zero_le _) ⟨_, _, hE.symm, rfl, rfl, rfl⟩
  · replace hE := fit hE c5
    refine aw_iconst (v := 0) dX11_readTarga_8 (by decide) ?_
    exact aw_zret dX11_readTarga_9 rfl (narB (by decide)) (Nat.zero_le _) (Nat.zero_le _) (Nat.zero_le _) (Nat.zero_le _) ⟨_, _, hE.symm, rfl, rfl, rfl⟩
