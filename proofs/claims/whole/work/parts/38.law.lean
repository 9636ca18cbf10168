abbrev IV : Type := Mnt → (Nat → Nat) → (Nat → Ras) → (Nat → Row) → Nat → Src → Pal → Qoi → Pnm → Bmp → Tga → Pcx → A → MO → MW → MR → Nat → A → A → A → A → A → A → A → A → A → A → A → Prop
def S_feed (I : IV) : Prop := ∀ (m0 : Mnt) (sh : Nat → Nat) (rr : Nat → Ras) (ww : Nat → Row) (so : Nat) (sc : Src) (pl : Pal) (qo : Qoi) (pn : Pnm) (bm : Bmp) (tg : Tga) (px : Pcx) (fa : A) (mo : MO) (mw : MW) (mr : MR) (ms : Nat) (mt : A) (mu : A) (dd : A) (wi : A) (hi : A) (gt : A) (sp : A) (ta : A) (li : A) (sr : A) (co : A), I m0 sh rr ww so sc pl qo pn bm tg px fa mo mw mr ms mt mu dd wi hi gt sp ta li sr co → ∀ (x1 : Int32) (x2 : Int32) (x3 : Int32) (x4 : Int32) (x5 : Int32), ∃ (z : Int32) (s : (Nat → Row)) (s2 : (MO × A)), F_X10_feed x1 x2 x3 x4 x5 ww = fok z s ∧ F_X11_feed x1 x2 x3 x4 x5 mo mt = fok z s2 ∧ I m0 sh rr s so sc pl qo pn bm tg px fa s2.1 mw mr ms s2.2 mu dd wi hi gt sp ta li sr co
def S_end (I : IV) : Prop := ∀ (m0 : Mnt) (sh : Nat → Nat) (rr : Nat → Ras) (ww : Nat → Row) (so : Nat) (sc : Src) (pl : Pal) (qo : Qoi) (pn : Pnm) (bm : Bmp) (tg : Tga) (px : Pcx) (fa : A) (mo : MO) (mw : MW) (mr : MR) (ms : Nat) (mt : A) (mu : A) (dd : A) (wi : A) (hi : A) (gt : A) (sp : A) (ta : A) (li : A) (sr : A) (co : A), I m0 sh rr ww so sc pl qo pn bm tg px fa mo mw mr ms mt mu dd wi hi gt sp ta li sr co → ∀ (x1 : Int32), ∃ (z : Int32) (s : (Nat → Row)) (s2 : MO), F_X10_end x1 ww = fok z s ∧ F_X11_end x1 mo = fok z s2 ∧ I m0 sh rr s so sc pl qo pn bm tg px fa s2 mw mr ms mt mu dd wi hi gt sp ta li sr co
def S_again (I : IV) : Prop := ∀ (m0 : Mnt) (sh : Nat → Nat) (rr : Nat → Ras) (ww : Nat → Row) (so : Nat) (sc : Src) (pl : Pal) (qo : Qoi) (pn : Pnm) (bm : Bmp) (tg : Tga) (px : Pcx) (fa : A) (mo : MO) (mw : MW) (mr : MR) (ms : Nat) (mt : A) (mu : A) (dd : A) (wi : A) (hi : A) (gt : A) (sp : A) (ta : A) (li : A) (sr : A) (co : A), I m0 sh rr ww so sc pl qo pn bm tg px fa mo mw mr ms mt mu dd wi hi gt sp ta li sr co →  ∃ (z : Int32) (s : (Nat → Row)) (s2 : (MO × A)), F_X10_again ww = fok z s ∧ F_X11_again mo mw mt mu = fok z s2 ∧ I m0 sh rr s so sc pl qo pn bm tg px fa s2.1 mw mr ms s2.2 mu dd wi hi gt sp ta li sr co
def S_read (I : IV) : Prop := ∀ (m0 : Mnt) (sh : Nat → Nat) (rr : Nat → Ras) (ww : Nat → Row) (so : Nat) (sc : Src) (pl : Pal) (qo : Qoi) (pn : Pnm) (bm : Bmp) (tg : Tga) (px : Pcx) (fa : A) (mo : MO) (mw : MW) (mr : MR) (ms : Nat) (mt : A) (mu : A) (dd : A) (wi : A) (hi : A) (gt : A) (sp : A) (ta : A) (li : A) (sr : A) (co : A), I m0 sh rr ww so sc pl qo pn bm tg px fa mo mw mr ms mt mu dd wi hi gt sp ta li sr co → ∀ (x1 : Int32) (x2 : Int32), ∃ (b : Int32) (s2 : (MO × MR × Nat × A × A × A × A × A × A × A)), F_X11_read x1 x2 mo mr ms mt mu dd wi hi gt sp ta li = fok b s2 ∧ ((∃ s : (Mnt × (Nat → Nat) × (Nat → Ras) × (Nat → Row) × Nat × Src × Qoi × Pnm × Bmp × Tga × Pcx × A), F_X10_read x1 x2 m0 sh rr ww so sc qo pn bm tg px fa = fok b s ∧ F_X11_thrown s2.1 = fok 0 () ∧ I s.1 s.2.1 s.2.2.1 s.2.2.2.1 s.2.2.2.2.1 s.2.2.2.2.2.1 pl s.2.2.2.2.2.2.1 s.2.2.2.2.2.2.2.1 s.2.2.2.2.2.2.2.2.1 s.2.2.2.2.2.2.2.2.2.1 s.2.2.2.2.2.2.2.2.2.2.1 s.2.2.2.2.2.2.2.2.2.2.2 s2.1 mw s2.2.1 s2.2.2.1 mt mu s2.2.2.2.1 s2.2.2.2.2.1 s2.2.2.2.2.2.1 s2.2.2.2.2.2.2.1 s2.2.2.2.2.2.2.2.1 s2.2.2.2.2.2.2.2.2.1 s2.2.2.2.2.2.2.2.2.2 sr co) ∨ (∃ s : (Mnt × (Nat → Nat) × (Nat → Ras) × (Nat → Row) × Nat × Src × Qoi × Pnm × Bmp × Tga × Pcx × A), F_X10_read x1 x2 m0 sh rr ww so sc qo pn bm tg px fa = fex "java/lang/IllegalArgumentException" s ∧ F_X11_thrown s2.1 = fok 1 () ∧ I s.1 s.2.1 s.2.2.1 s.2.2.2.1 s.2.2.2.2.1 s.2.2.2.2.2.1 pl s.2.2.2.2.2.2.1 s.2.2.2.2.2.2.2.1 s.2.2.2.2.2.2.2.2.1 s.2.2.2.2.2.2.2.2.2.1 s.2.2.2.2.2.2.2.2.2.2.1 s.2.2.2.2.2.2.2.2.2.2.2 s2.1 mw s2.2.1 s2.2.2.1 mt mu s2.2.2.2.1 s2.2.2.2.2.1 s2.2.2.2.2.2.1 s2.2.2.2.2.2.2.1 s2.2.2.2.2.2.2.2.1 s2.2.2.2.2.2.2.2.2.1 s2.2.2.2.2.2.2.2.2.2 sr co) ∨ (∃ s : (Mnt × (Nat → Nat) × (Nat → Ras) × (Nat → Row) × Nat × Src × Qoi × Pnm × Bmp × Tga × Pcx × A), F_X10_read x1 x2 m0 sh rr ww so sc qo pn bm tg px fa = fex "java/util/NoSuchElementException" s ∧ F_X11_thrown s2.1 = fok 2 () ∧ I s.1 s.2.1 s.2.2.1 s.2.2.2.1 s.2.2.2.2.1 s.2.2.2.2.2.1 pl s.2.2.2.2.2.2.1 s.2.2.2.2.2.2.2.1 s.2.2.2.2.2.2.2.2.1 s.2.2.2.2.2.2.2.2.2.1 s.2.2.2.2.2.2.2.2.2.2.1 s.2.2.2.2.2.2.2.2.2.2.2 s2.1 mw s2.2.1 s2.2.2.1 mt mu s2.2.2.2.1 s2.2.2.2.2.1 s2.2.2.2.2.2.1 s2.2.2.2.2.2.2.1 s2.2.2.2.2.2.2.2.1 s2.2.2.2.2.2.2.2.2.1 s2.2.2.2.2.2.2.2.2.2 sr co))
def S_place (I : IV) : Prop := ∀ (m0 : Mnt) (sh : Nat → Nat) (rr : Nat → Ras) (ww : Nat → Row) (so : Nat) (sc : Src) (pl : Pal) (qo : Qoi) (pn : Pnm) (bm : Bmp) (tg : Tga) (px : Pcx) (fa : A) (mo : MO) (mw : MW) (mr : MR) (ms : Nat) (mt : A) (mu : A) (dd : A) (wi : A) (hi : A) (gt : A) (sp : A) (ta : A) (li : A) (sr : A) (co : A), I m0 sh rr ww so sc pl qo pn bm tg px fa mo mw mr ms mt mu dd wi hi gt sp ta li sr co →  ∃ (z : Int32) (s : Unit) (s2 : MO), F_X10_place m0 = fok z s ∧ F_X11_place mo = fok z s2 ∧ I m0 sh rr ww so sc pl qo pn bm tg px fa s2 mw mr ms mt mu dd wi hi gt sp ta li sr co
def S_told (I : IV) : Prop := ∀ (m0 : Mnt) (sh : Nat → Nat) (rr : Nat → Ras) (ww : Nat → Row) (so : Nat) (sc : Src) (pl : Pal) (qo : Qoi) (pn : Pnm) (bm : Bmp) (tg : Tga) (px : Pcx) (fa : A) (mo : MO) (mw : MW) (mr : MR) (ms : Nat) (mt : A) (mu : A) (dd : A) (wi : A) (hi : A) (gt : A) (sp : A) (ta : A) (li : A) (sr : A) (co : A), I m0 sh rr ww so sc pl qo pn bm tg px fa mo mw mr ms mt mu dd wi hi gt sp ta li sr co → ∀ (x1 : Int32), ∃ (z : Int32) (s : Unit) (s2 : MO), F_X10_told x1 fa = fok z s ∧ F_X11_told x1 mo = fok z s2 ∧ I m0 sh rr ww so sc pl qo pn bm tg px fa s2 mw mr ms mt mu dd wi hi gt sp ta li sr co
def S_write (I : IV) : Prop := ∀ (m0 : Mnt) (sh : Nat → Nat) (rr : Nat → Ras) (ww : Nat → Row) (so : Nat) (sc : Src) (pl : Pal) (qo : Qoi) (pn : Pnm) (bm : Bmp) (tg : Tga) (px : Pcx) (fa : A) (mo : MO) (mw : MW) (mr : MR) (ms : Nat) (mt : A) (mu : A) (dd : A) (wi : A) (hi : A) (gt : A) (sp : A) (ta : A) (li : A) (sr : A) (co : A), I m0 sh rr ww so sc pl qo pn bm tg px fa mo mw mr ms mt mu dd wi hi gt sp ta li sr co → ∀ (x1 : Int32) (x2 : Int32), ∃ (z : Int32) (s : ((Nat → Row) × Pal × Qoi)) (s2 : (MO × MW × A × A × A × A)), F_X10_write x1 x2 sh rr ww pl qo = fok z s ∧ F_X11_write x1 x2 mo mw mu dd wi hi sp sr co = fok z s2 ∧ I m0 sh rr s.1 so sc s.2.1 s.2.2 pn bm tg px fa s2.1 s2.2.1 mr ms mt s2.2.2.1 dd wi hi gt s2.2.2.2.1 ta li s2.2.2.2.2.1 s2.2.2.2.2.2
def S_byteAt (I : IV) : Prop := ∀ (m0 : Mnt) (sh : Nat → Nat) (rr : Nat → Ras) (ww : Nat → Row) (so : Nat) (sc : Src) (pl : Pal) (qo : Qoi) (pn : Pnm) (bm : Bmp) (tg : Tga) (px : Pcx) (fa : A) (mo : MO) (mw : MW) (mr : MR) (ms : Nat) (mt : A) (mu : A) (dd : A) (wi : A) (hi : A) (gt : A) (sp : A) (ta : A) (li : A) (sr : A) (co : A), I m0 sh rr ww so sc pl qo pn bm tg px fa mo mw mr ms mt mu dd wi hi gt sp ta li sr co → ∀ (x1 : Int32), ∃ (z : Int32) (s : Unit) (s2 : MO), F_X10_byteAt x1 ww = fok z s ∧ F_X11_byteAt x1 mo mw mu = fok z s2 ∧ I m0 sh rr ww so sc pl qo pn bm tg px fa s2 mw mr ms mt mu dd wi hi gt sp ta li sr co
def S_bytes (I : IV) : Prop := ∀ (m0 : Mnt) (sh : Nat → Nat) (rr : Nat → Ras) (ww : Nat → Row) (so : Nat) (sc : Src) (pl : Pal) (qo : Qoi) (pn : Pnm) (bm : Bmp) (tg : Tga) (px : Pcx) (fa : A) (mo : MO) (mw : MW) (mr : MR) (ms : Nat) (mt : A) (mu : A) (dd : A) (wi : A) (hi : A) (gt : A) (sp : A) (ta : A) (li : A) (sr : A) (co : A), I m0 sh rr ww so sc pl qo pn bm tg px fa mo mw mr ms mt mu dd wi hi gt sp ta li sr co → ∀ (x1 : Int32), ∃ (b : Int64) (s2 : MO), F_X11_bytes x1 mo mw mu = fok b s2 ∧ ((∃ s : Unit, F_X10_bytes x1 ww = fok b s ∧ F_X11_thrown s2 = fok 0 () ∧ I m0 sh rr ww so sc pl qo pn bm tg px fa s2 mw mr ms mt mu dd wi hi gt sp ta li sr co) ∨ (∃ s : Unit, F_X10_bytes x1 ww = fex "java/util/NoSuchElementException" s ∧ F_X11_thrown s2 = fok 1 () ∧ I m0 sh rr ww so sc pl qo pn bm tg px fa s2 mw mr ms mt mu dd wi hi gt sp ta li sr co))
def S_make (I : IV) : Prop := ∀ (m0 : Mnt) (sh : Nat → Nat) (rr : Nat → Ras) (ww : Nat → Row) (so : Nat) (sc : Src) (pl : Pal) (qo : Qoi) (pn : Pnm) (bm : Bmp) (tg : Tga) (px : Pcx) (fa : A) (mo : MO) (mw : MW) (mr : MR) (ms : Nat) (mt : A) (mu : A) (dd : A) (wi : A) (hi : A) (gt : A) (sp : A) (ta : A) (li : A) (sr : A) (co : A), I m0 sh rr ww so sc pl qo pn bm tg px fa mo mw mr ms mt mu dd wi hi gt sp ta li sr co → ∀ (x1 : Int32) (x2 : Int32) (x3 : Int32) (x4 : Int32), ∃ (z : Int32) (s : (Nat → Ras)) (s2 : (MO × A × A × A)), F_X10_make x1 x2 x3 x4 sh rr = fok z s ∧ F_X11_make x1 x2 x3 x4 mo dd wi hi = fok z s2 ∧ I m0 sh s ww so sc pl qo pn bm tg px fa s2.1 mw mr ms mt mu s2.2.1 s2.2.2.1 s2.2.2.2 gt sp ta li sr co
def S_dot (I : IV) : Prop := ∀ (m0 : Mnt) (sh : Nat → Nat) (rr : Nat → Ras) (ww : Nat → Row) (so : Nat) (sc : Src) (pl : Pal) (qo : Qoi) (pn : Pnm) (bm : Bmp) (tg : Tga) (px : Pcx) (fa : A) (mo : MO) (mw : MW) (mr : MR) (ms : Nat) (mt : A) (mu : A) (dd : A) (wi : A) (hi : A) (gt : A) (sp : A) (ta : A) (li : A) (sr : A) (co : A), I m0 sh rr ww so sc pl qo pn bm tg px fa mo mw mr ms mt mu dd wi hi gt sp ta li sr co → ∀ (x1 : Int32) (x2 : Int32) (x3 : Int32) (x4 : Int32), ∃ (b : Int32) (s2 : (MO × A)), F_X11_dot x1 x2 x3 x4 mo dd wi hi = fok b s2 ∧ ((∃ s : (Nat → Ras), F_X10_dot x1 x2 x3 x4 sh rr = fok b s ∧ F_X11_thrown s2.1 = fok 0 () ∧ I m0 sh s ww so sc pl qo pn bm tg px fa s2.1 mw mr ms mt mu s2.2 wi hi gt sp ta li sr co) ∨ (∃ s : (Nat → Ras), F_X10_dot x1 x2 x3 x4 sh rr = fex "java/lang/IllegalArgumentException" s ∧ F_X11_thrown s2.1 = fok 1 () ∧ I m0 sh s ww so sc pl qo pn bm tg px fa s2.1 mw mr ms mt mu s2.2 wi hi gt sp ta li sr co) ∨ (∃ s : (Nat → Ras), F_X10_dot x1 x2 x3 x4 sh rr = fex "java/lang/IndexOutOfBoundsException" s ∧ F_X11_thrown s2.1 = fok 2 () ∧ I m0 sh s ww so sc pl qo pn bm tg px fa s2.1 mw mr ms mt mu s2.2 wi hi gt sp ta li sr co))
def S_sweep (I : IV) : Prop := ∀ (m0 : Mnt) (sh : Nat → Nat) (rr : Nat → Ras) (ww : Nat → Row) (so : Nat) (sc : Src) (pl : Pal) (qo : Qoi) (pn : Pnm) (bm : Bmp) (tg : Tga) (px : Pcx) (fa : A) (mo : MO) (mw : MW) (mr : MR) (ms : Nat) (mt : A) (mu : A) (dd : A) (wi : A) (hi : A) (gt : A) (sp : A) (ta : A) (li : A) (sr : A) (co : A), I m0 sh rr ww so sc pl qo pn bm tg px fa mo mw mr ms mt mu dd wi hi gt sp ta li sr co → ∀ (x1 : Int32) (x2 : Int32) (x3 : Int32) (x4 : Int32) (x5 : Int32) (x6 : Int32), ∃ (b : Int32) (s2 : (MO × A)), F_X11_sweep x1 x2 x3 x4 x5 x6 mo dd wi hi = fok b s2 ∧ ((∃ s : (Nat → Ras), F_X10_sweep x1 x2 x3 x4 x5 x6 sh rr = fok b s ∧ F_X11_thrown s2.1 = fok 0 () ∧ I m0 sh s ww so sc pl qo pn bm tg px fa s2.1 mw mr ms mt mu s2.2 wi hi gt sp ta li sr co) ∨ (∃ s : (Nat → Ras), F_X10_sweep x1 x2 x3 x4 x5 x6 sh rr = fex "java/lang/IllegalArgumentException" s ∧ F_X11_thrown s2.1 = fok 1 () ∧ I m0 sh s ww so sc pl qo pn bm tg px fa s2.1 mw mr ms mt mu s2.2 wi hi gt sp ta li sr co) ∨ (∃ s : (Nat → Ras), F_X10_sweep x1 x2 x3 x4 x5 x6 sh rr = fex "java/lang/IndexOutOfBoundsException" s ∧ F_X11_thrown s2.1 = fok 2 () ∧ I m0 sh s ww so sc pl qo pn bm tg px fa s2.1 mw mr ms mt mu s2.2 wi hi gt sp ta li sr co))
def S_pixel (I : IV) : Prop := ∀ (m0 : Mnt) (sh : Nat → Nat) (rr : Nat → Ras) (ww : Nat → Row) (so : Nat) (sc : Src) (pl : Pal) (qo : Qoi) (pn : Pnm) (bm : Bmp) (tg : Tga) (px : Pcx) (fa : A) (mo : MO) (mw : MW) (mr : MR) (ms : Nat) (mt : A) (mu : A) (dd : A) (wi : A) (hi : A) (gt : A) (sp : A) (ta : A) (li : A) (sr : A) (co : A), I m0 sh rr ww so sc pl qo pn bm tg px fa mo mw mr ms mt mu dd wi hi gt sp ta li sr co → ∀ (x1 : Int32) (x2 : Int32) (x3 : Int32), ∃ (b : Int32) (s2 : MO), F_X11_pixel x1 x2 x3 mo dd wi hi = fok b s2 ∧ ((∃ s : Unit, F_X10_pixel x1 x2 x3 sh rr = fok b s ∧ F_X11_thrown s2 = fok 0 () ∧ I m0 sh rr ww so sc pl qo pn bm tg px fa s2 mw mr ms mt mu dd wi hi gt sp ta li sr co) ∨ (∃ s : Unit, F_X10_pixel x1 x2 x3 sh rr = fex "java/lang/IllegalArgumentException" s ∧ F_X11_thrown s2 = fok 1 () ∧ I m0 sh rr ww so sc pl qo pn bm tg px fa s2 mw mr ms mt mu dd wi hi gt sp ta li sr co) ∨ (∃ s : Unit, F_X10_pixel x1 x2 x3 sh rr = fex "java/lang/IndexOutOfBoundsException" s ∧ F_X11_thrown s2 = fok 2 () ∧ I m0 sh rr ww so sc pl qo pn bm tg px fa s2 mw mr ms mt mu dd wi hi gt sp ta li sr co))
def S_raster (I : IV) : Prop := ∀ (m0 : Mnt) (sh : Nat → Nat) (rr : Nat → Ras) (ww : Nat → Row) (so : Nat) (sc : Src) (pl : Pal) (qo : Qoi) (pn : Pnm) (bm : Bmp) (tg : Tga) (px : Pcx) (fa : A) (mo : MO) (mw : MW) (mr : MR) (ms : Nat) (mt : A) (mu : A) (dd : A) (wi : A) (hi : A) (gt : A) (sp : A) (ta : A) (li : A) (sr : A) (co : A), I m0 sh rr ww so sc pl qo pn bm tg px fa mo mw mr ms mt mu dd wi hi gt sp ta li sr co → ∀ (x1 : Int32) (x2 : Int32), ∃ (z : Int32) (s : Pal) (s2 : (MO × A)), F_X10_raster x1 x2 sh rr pl = fok z s ∧ F_X11_raster x1 x2 mo dd wi hi sr = fok z s2 ∧ I m0 sh rr ww so sc s qo pn bm tg px fa s2.1 mw mr ms mt mu dd wi hi gt sp ta li s2.2 co
def S_holds (I : IV) : Prop := ∀ (m0 : Mnt) (sh : Nat → Nat) (rr : Nat → Ras) (ww : Nat → Row) (so : Nat) (sc : Src) (pl : Pal) (qo : Qoi) (pn : Pnm) (bm : Bmp) (tg : Tga) (px : Pcx) (fa : A) (mo : MO) (mw : MW) (mr : MR) (ms : Nat) (mt : A) (mu : A) (dd : A) (wi : A) (hi : A) (gt : A) (sp : A) (ta : A) (li : A) (sr : A) (co : A), I m0 sh rr ww so sc pl qo pn bm tg px fa mo mw mr ms mt mu dd wi hi gt sp ta li sr co → ∀ (x1 : Int32) (x2 : Int32), ∃ (z : Int32) (s : Pal) (s2 : (MO × A)), F_X10_holds x1 x2 sh rr pl = fok z s ∧ F_X11_holds x1 x2 mo dd wi hi sr = fok z s2 ∧ I m0 sh rr ww so sc s qo pn bm tg px fa s2.1 mw mr ms mt mu dd wi hi gt sp ta li s2.2 co
def S_copy (I : IV) : Prop := ∀ (m0 : Mnt) (sh : Nat → Nat) (rr : Nat → Ras) (ww : Nat → Row) (so : Nat) (sc : Src) (pl : Pal) (qo : Qoi) (pn : Pnm) (bm : Bmp) (tg : Tga) (px : Pcx) (fa : A) (mo : MO) (mw : MW) (mr : MR) (ms : Nat) (mt : A) (mu : A) (dd : A) (wi : A) (hi : A) (gt : A) (sp : A) (ta : A) (li : A) (sr : A) (co : A), I m0 sh rr ww so sc pl qo pn bm tg px fa mo mw mr ms mt mu dd wi hi gt sp ta li sr co → ∀ (x1 : Int32) (x2 : Int32), ∃ (z : Int32) (s : (Nat → Ras)) (s2 : (MO × A × A × A)), F_X10_copy x1 x2 sh rr = fok z s ∧ F_X11_copy x1 x2 mo dd wi hi = fok z s2 ∧ I m0 sh s ww so sc pl qo pn bm tg px fa s2.1 mw mr ms mt mu s2.2.1 s2.2.2.1 s2.2.2.2 gt sp ta li sr co
def S_same (I : IV) : Prop := ∀ (m0 : Mnt) (sh : Nat → Nat) (rr : Nat → Ras) (ww : Nat → Row) (so : Nat) (sc : Src) (pl : Pal) (qo : Qoi) (pn : Pnm) (bm : Bmp) (tg : Tga) (px : Pcx) (fa : A) (mo : MO) (mw : MW) (mr : MR) (ms : Nat) (mt : A) (mu : A) (dd : A) (wi : A) (hi : A) (gt : A) (sp : A) (ta : A) (li : A) (sr : A) (co : A), I m0 sh rr ww so sc pl qo pn bm tg px fa mo mw mr ms mt mu dd wi hi gt sp ta li sr co → ∀ (x1 : Int32) (x2 : Int32), ∃ (z : Int32) (s : Unit) (s2 : MO), F_X10_same x1 x2 sh rr = fok z s ∧ F_X11_same x1 x2 mo dd wi hi = fok z s2 ∧ I m0 sh rr ww so sc pl qo pn bm tg px fa s2 mw mr ms mt mu dd wi hi gt sp ta li sr co
def S_chain (I : IV) : Prop := ∀ (m0 : Mnt) (sh : Nat → Nat) (rr : Nat → Ras) (ww : Nat → Row) (so : Nat) (sc : Src) (pl : Pal) (qo : Qoi) (pn : Pnm) (bm : Bmp) (tg : Tga) (px : Pcx) (fa : A) (mo : MO) (mw : MW) (mr : MR) (ms : Nat) (mt : A) (mu : A) (dd : A) (wi : A) (hi : A) (gt : A) (sp : A) (ta : A) (li : A) (sr : A) (co : A), I m0 sh rr ww so sc pl qo pn bm tg px fa mo mw mr ms mt mu dd wi hi gt sp ta li sr co → ∀ (x1 : Int32) (x2 : Int32) (x3 : Int32), ∃ (z : Int32) (s : (Mnt × (Nat → Nat) × (Nat → Ras) × (Nat → Row) × Nat × Src × Pal × Qoi × Pnm × Bmp × Tga × Pcx × A)) (s2 : (MO × MW × MR × Nat × A × A × A × A × A × A × A × A × A × A)), F_X10_chain x1 x2 x3 m0 sh rr ww so sc pl qo pn bm tg px fa = fok z s ∧ F_X11_chain x1 x2 x3 mo mw mr ms mt mu dd wi hi gt sp ta li sr co = fok z s2 ∧ I s.1 s.2.1 s.2.2.1 s.2.2.2.1 s.2.2.2.2.1 s.2.2.2.2.2.1 s.2.2.2.2.2.2.1 s.2.2.2.2.2.2.2.1 s.2.2.2.2.2.2.2.2.1 s.2.2.2.2.2.2.2.2.2.1 s.2.2.2.2.2.2.2.2.2.2.1 s.2.2.2.2.2.2.2.2.2.2.2.1 s.2.2.2.2.2.2.2.2.2.2.2.2 s2.1 s2.2.1 s2.2.2.1 s2.2.2.2.1 mt s2.2.2.2.2.1 s2.2.2.2.2.2.1 s2.2.2.2.2.2.2.1 s2.2.2.2.2.2.2.2.1 s2.2.2.2.2.2.2.2.2.1 s2.2.2.2.2.2.2.2.2.2.1 s2.2.2.2.2.2.2.2.2.2.2.1 s2.2.2.2.2.2.2.2.2.2.2.2.1 s2.2.2.2.2.2.2.2.2.2.2.2.2.1 s2.2.2.2.2.2.2.2.2.2.2.2.2.2
def S_all (I : IV) : Prop := S_feed I ∧ S_end I ∧ S_again I ∧ S_read I ∧ S_place I ∧ S_told I ∧ S_write I ∧ S_byteAt I ∧ S_bytes I ∧ S_make I ∧ S_dot I ∧ S_sweep I ∧ S_pixel I ∧ S_raster I ∧ S_holds I ∧ S_copy I ∧ S_same I ∧ S_chain I
theorem fokI {s a : Type} {x y : a} {u v : s} (h : (fok x u : Out s a) = fok y v) : x = y ∧ u = v := by
  have := Sum.inl.inj (Option.some.inj h)
  exact ⟨congrArg Prod.fst this, congrArg Prod.snd this⟩
theorem fexI {s a : Type} {x : String} {u v : s} (h : (fex x u : Out s a) = fex x v) : u = v := congrArg Prod.snd (Sum.inr.inj (Option.some.inj h))
theorem okex {s a : Type} {x : a} {E : String} {u v : s} (h : (fok x u : Out s a) = fex E v) : False := by
  have := Option.some.inj h
  cases this
theorem exI {s a : Type} {E E2 : String} {u v : s} (h : (fex E u : Out s a) = fex E2 v) : E = E2 := congrArg Prod.fst (Sum.inr.inj (Option.some.inj h))
theorem okne {s a : Type} {x : a} {u : s} : (fok x u : Out s a) ≠ fno := fun h => by cases h
theorem exne {s a : Type} {x : String} {u : s} : (fex x u : Out s a) ≠ fno := fun h => by cases h
theorem updL_same (f : Nat → Int64) (k : Nat) (x : Int64) : vp_updL f k x k = x := by simp [vp_updL]
theorem lgc (x : Int64) : lg_cmp x x = 0 := by unfold lg_cmp; simp
def XS (b L : Nat) (xs : Nat → Int32) : State → (Nat → Prop) → Prop := fun s A => va_X b L xs s s.heap ∧ b < s.heap.size ∧ ¬ A b
abbrev mLaw (nm : String) (t : List (Nat × Nat × Nat × Nat)) : aM := (⟨RL, nm, "([I)Z"⟩, cL_law, 8, ret, t)
abbrev PoL : Option Value → aH → Nat → Prop := fun r _ _ => r = some (.int 1)
abbrev LW (b L : Nat) (xs : Nat → Int32) (nm : String) (t : List (Nat × Nat × Nat × Nat)) (k j pc : Nat) (i : Int32) (h : aH) : Prop := AW (XS b L xs) (mLaw nm t) room_1 601024 7293034 PoL (fun _ _ _ => False) k j pc [(0, .retAddr b), (1, .ref 0), (2, .ref 31), (3, .ref 43), (4, .int i)] [] h 44
set_option maxHeartbeats 2000000 in
set_option maxRecDepth 100000 in
theorem law_feed {b L : Nat} {xs : Nat → Int32} {nm : String} {t : List (Nat × Nat × Nat × Nat)} {I : IV} (S : S_feed I) (i : Int32) (hix : ∀ d : Int32, d = 1 ∨ d = 2 ∨ d = 3 ∨ d = 4 ∨ d = 5 ∨ d = 6 → vp_in (i + d) L) (k j : Nat) (hk : k + 1 ≤ 601024) (hj : j + 6 ≤ 7293034) (m0 : Mnt) (sh : Nat → Nat) (rr : Nat → Ras) (ww : Nat → Row) (so : Nat) (sc : Src) (pl : Pal) (qo : Qoi) (pn : Pnm) (bm : Bmp) (tg : Tga) (px : Pcx) (fa : A) (mo : MO) (mw : MW) (mr : MR) (ms : Nat) (mt : A) (mu : A) (dd : A) (wi : A) (hi : A) (gt : A) (sp : A) (ta : A) (li : A) (sr : A) (co : A) (f : Nat → Int64) (hI : I m0 sh rr ww so sc pl qo pn bm tg px fa mo mw mr ms mt mu dd wi hi gt sp ta li sr co) (kk : ∀ (m0 : Mnt) (sh : Nat → Nat) (rr : Nat → Ras) (ww : Nat → Row) (so : Nat) (sc : Src) (pl : Pal) (qo : Qoi) (pn : Pnm) (bm : Bmp) (tg : Tga) (px : Pcx) (fa : A) (mo : MO) (mw : MW) (mr : MR) (ms : Nat) (mt : A) (mu : A) (dd : A) (wi : A) (hi : A) (gt : A) (sp : A) (ta : A) (li : A) (sr : A) (co : A) (f : Nat → Int64), I m0 sh rr ww so sc pl qo pn bm tg px fa mo mw mr ms mt mu dd wi hi gt sp ta li sr co → LW b L xs nm t (k + 1) (j + 6) 1010 i (HC m0 sh rr ww so sc pl qo pn bm tg px fa (HM mo mw mr ms mt mu dd wi hi gt sp ta li sr co (LB f)))) : LW b L xs nm t k j 128 i (HC m0 sh rr ww so sc pl qo pn bm tg px fa (HM mo mw mr ms mt mu dd wi hi gt sp ta li sr co (LB f))) := by
  obtain ⟨z, s, s2, e1, e2, hI2⟩ := S m0 sh rr ww so sc pl qo pn bm tg px fa mo mw mr ms mt mu dd wi hi gt sp ta li sr co hI (xs (Int32.toNatClampNeg (i + 1))) (xs (Int32.toNatClampNeg (i + 2))) (xs (Int32.toNatClampNeg (i + 3))) (xs (Int32.toNatClampNeg (i + 4))) (xs (Int32.toNatClampNeg (i + 5)))
  refine aw_aload_n dL_law_128 rfl ?_
  refine aw_aload_nA dL_law_129 rfl ?_
  refine aw_iload dL_law_130 rfl ?_
  refine aw_iconst (v := 1) dL_law_132 (by decide) ?_
  refine aw_iadd dL_law_133 ?_
  refine aw_sld (L := L) (xs := xs) dL_law_134 (fun _ _ h => h) (hix 1 (by decide)) ?_
  refine aw_aload_nA dL_law_135 rfl ?_
  refine aw_iload dL_law_136 rfl ?_
  refine aw_iconst (v := 2) dL_law_138 (by decide) ?_
  refine aw_iadd dL_law_139 ?_
  refine aw_sld (L := L) (xs := xs) dL_law_140 (fun _ _ h => h) (hix 2 (by decide)) ?_
  refine aw_aload_nA dL_law_141 rfl ?_
  refine aw_iload dL_law_142 rfl ?_
  refine aw_iconst (v := 3) dL_law_144 (by decide) ?_
  refine aw_iadd dL_law_145 ?_
  refine aw_sld (L := L) (xs := xs) dL_law_146 (fun _ _ h => h) (hix 3 (by decide)) ?_
  refine aw_aload_nA dL_law_147 rfl ?_
  refine aw_iload dL_law_148 rfl ?_
  refine aw_iconst (v := 4) dL_law_150 (by decide) ?_
  refine aw_iadd dL_law_151 ?_
  refine aw_sld (L := L) (xs := xs) dL_law_152 (fun _ _ h => h) (hix 4 (by decide)) ?_
  refine aw_aload_nA dL_law_153 rfl ?_
  refine aw_iload dL_law_154 rfl ?_
  refine aw_iconst (v := 5) dL_law_156 (by decide) ?_
  refine aw_iadd dL_law_157 ?_
  refine aw_sld (L := L) (xs := xs) dL_law_158 (fun _ _ h => h) (hix 5 (by decide)) ?_
  refine aw_callV dL_law_159 at_mint cvL_39 rfl (kF_X10_feed (m0) (sh) (rr) (ww) (so) (sc) (pl) (qo) (pn) (bm) (tg) (px) (fa) (HM (mo) (mw) (mr) (ms) (mt) (mu) (dd) (wi) (hi) (gt) (sp) (ta) (li) (sr) (co) (LB f)) 44 (xs (Int32.toNatClampNeg (i + 1))) (xs (Int32.toNatClampNeg (i + 2))) (xs (Int32.toNatClampNeg (i + 3))) (xs (Int32.toNatClampNeg (i + 4))) (xs (Int32.toNatClampNeg (i + 5))) (by rw [e1]; exact okne)) rfl (Nat.le_of_ble_eq_true rfl) (Nat.le_of_ble_eq_true rfl) (Nat.le_of_ble_eq_true rfl) (show k + 0 ≤ 601024 by omega) (show j + 0 ≤ 7293034 by omega) (fun _ _ _ hf => False.elim hf) (fun r159 h159 n159 hp159 => ?_)
  obtain ⟨z159, s159, e159, rfl, rfl, rfl⟩ := hp159
  obtain ⟨rfl, rfl⟩ := fokI (e1.symm.trans e159)
  refine aw_eqh (h2 := HC m0 sh rr s so sc pl qo pn bm tg px fa (HM mo mw mr ms mt mu dd wi hi gt sp ta li sr co (LB f))) rfl ?_
  refine aw_aload_n dL_law_162 rfl ?_
  refine aw_aload_nA dL_law_163 rfl ?_
  refine aw_iload dL_law_164 rfl ?_
  refine aw_iconst (v := 1) dL_law_166 (by decide) ?_
  refine aw_iadd dL_law_167 ?_
  refine aw_sld (L := L) (xs := xs) dL_law_168 (fun _ _ h => h) (hix 1 (by decide)) ?_
  refine aw_aload_nA dL_law_169 rfl ?_
  refine aw_iload dL_law_170 rfl ?_
  refine aw_iconst (v := 2) dL_law_172 (by decide) ?_
  refine aw_iadd dL_law_173 ?_
  refine aw_sld (L := L) (xs := xs) dL_law_174 (fun _ _ h => h) (hix 2 (by decide)) ?_
  refine aw_aload_nA dL_law_175 rfl ?_
  refine aw_iload dL_law_176 rfl ?_
  refine aw_iconst (v := 3) dL_law_178 (by decide) ?_
  refine aw_iadd dL_law_179 ?_
  refine aw_sld (L := L) (xs := xs) dL_law_180 (fun _ _ h => h) (hix 3 (by decide)) ?_
  refine aw_aload_nA dL_law_181 rfl ?_
  refine aw_iload dL_law_182 rfl ?_
  refine aw_iconst (v := 4) dL_law_184 (by decide) ?_
  refine aw_iadd dL_law_185 ?_
  refine aw_sld (L := L) (xs := xs) dL_law_186 (fun _ _ h => h) (hix 4 (by decide)) ?_
  refine aw_aload_nA dL_law_187 rfl ?_
  refine aw_iload dL_law_188 rfl ?_
  refine aw_iconst (v := 5) dL_law_190 (by decide) ?_
  refine aw_iadd dL_law_191 ?_
  refine aw_sld (L := L) (xs := xs) dL_law_192 (fun _ _ h => h) (hix 5 (by decide)) ?_
  refine aw_eqh (h2 := HM mo mw mr ms mt mu dd wi hi gt sp ta li sr co (HC m0 sh rr s so sc pl qo pn bm tg px fa (LB f))) (comm LB_z) ?_
  refine aw_callV dL_law_193 at_mod cvL_43 rfl (kF_X11_feed (mo) (mw) (mr) (ms) (mt) (mu) (dd) (wi) (hi) (gt) (sp) (ta) (li) (sr) (co) (HC (m0) (sh) (rr) (s) (so) (sc) (pl) (qo) (pn) (bm) (tg) (px) (fa) (LB f)) 44 (xs (Int32.toNatClampNeg (i + 1))) (xs (Int32.toNatClampNeg (i + 2))) (xs (Int32.toNatClampNeg (i + 3))) (xs (Int32.toNatClampNeg (i + 4))) (xs (Int32.toNatClampNeg (i + 5))) (by rw [e2]; exact okne)) rfl (Nat.le_of_ble_eq_true rfl) (Nat.le_of_ble_eq_true rfl) (Nat.le_of_ble_eq_true rfl) (show _ + 0 ≤ 601024 by omega) (show _ + 0 ≤ 7293034 by omega) (fun _ _ _ hf => False.elim hf) (fun r193 h193 n193 hp193 => ?_)
  obtain ⟨z193, s193, e193, rfl, rfl, rfl⟩ := hp193
  obtain ⟨rfl, rfl⟩ := fokI (e2.symm.trans e193)
  refine aw_eqh (h2 := HC m0 sh rr s so sc pl qo pn bm tg px fa (HM s2.1 mw mr ms s2.2 mu dd wi hi gt sp ta li sr co (LB f))) (comm LB_z).symm ?_
  refine aw_icmp_eq (tgt := 1010) dL_law_196 (by decide) (fun _ => ?_) (fun c => absurd rfl c)
  exact aw_lv _ (List.forall_mem_cons.mpr ⟨rfl, (List.forall_mem_cons.mpr ⟨rfl, (List.forall_mem_cons.mpr ⟨rfl, (List.forall_mem_cons.mpr ⟨rfl, (List.forall_mem_cons.mpr ⟨rfl, fun _ h => absurd h List.not_mem_nil⟩)⟩)⟩)⟩)⟩) (aw_wide (by omega) (by omega) (kk (m0) (sh) (rr) (s) (so) (sc) (pl) (qo) (pn) (bm) (tg) (px) (fa) (s2.1) (mw) (mr) (ms) (s2.2) (mu) (dd) (wi) (hi) (gt) (sp) (ta) (li) (sr) (co) f hI2))
set_option maxHeartbeats 2000000 in
set_option maxRecDepth 100000 in
theorem law_end {b L : Nat} {xs : Nat → Int32} {nm : String} {t : List (Nat × Nat × Nat × Nat)} {I : IV} (S : S_end I) (i : Int32) (hix : ∀ d : Int32, d = 1 ∨ d = 2 ∨ d = 3 ∨ d = 4 ∨ d = 5 ∨ d = 6 → vp_in (i + d) L) (k j : Nat) (hk : k + 1 ≤ 601024) (hj : j + 6 ≤ 7293034) (m0 : Mnt) (sh : Nat → Nat) (rr : Nat → Ras) (ww : Nat → Row) (so : Nat) (sc : Src) (pl : Pal) (qo : Qoi) (pn : Pnm) (bm : Bmp) (tg : Tga) (px : Pcx) (fa : A) (mo : MO) (mw : MW) (mr : MR) (ms : Nat) (mt : A) (mu : A) (dd : A) (wi : A) (hi : A) (gt : A) (sp : A) (ta : A) (li : A) (sr : A) (co : A) (f : Nat → Int64) (hI : I m0 sh rr ww so sc pl qo pn bm tg px fa mo mw mr ms mt mu dd wi hi gt sp ta li sr co) (kk : ∀ (m0 : Mnt) (sh : Nat → Nat) (rr : Nat → Ras) (ww : Nat → Row) (so : Nat) (sc : Src) (pl : Pal) (qo : Qoi) (pn : Pnm) (bm : Bmp) (tg : Tga) (px : Pcx) (fa : A) (mo : MO) (mw : MW) (mr : MR) (ms : Nat) (mt : A) (mu : A) (dd : A) (wi : A) (hi : A) (gt : A) (sp : A) (ta : A) (li : A) (sr : A) (co : A) (f : Nat → Int64), I m0 sh rr ww so sc pl qo pn bm tg px fa mo mw mr ms mt mu dd wi hi gt sp ta li sr co → LW b L xs nm t (k + 1) (j + 6) 1010 i (HC m0 sh rr ww so sc pl qo pn bm tg px fa (HM mo mw mr ms mt mu dd wi hi gt sp ta li sr co (LB f)))) : LW b L xs nm t k j 201 i (HC m0 sh rr ww so sc pl qo pn bm tg px fa (HM mo mw mr ms mt mu dd wi hi gt sp ta li sr co (LB f))) := by
  obtain ⟨z, s, s2, e1, e2, hI2⟩ := S m0 sh rr ww so sc pl qo pn bm tg px fa mo mw mr ms mt mu dd wi hi gt sp ta li sr co hI (xs (Int32.toNatClampNeg (i + 1)))
  refine aw_aload_n dL_law_201 rfl ?_
  refine aw_aload_nA dL_law_202 rfl ?_
  refine aw_iload dL_law_203 rfl ?_
  refine aw_iconst (v := 1) dL_law_205 (by decide) ?_
  refine aw_iadd dL_law_206 ?_
  refine aw_sld (L := L) (xs := xs) dL_law_207 (fun _ _ h => h) (hix 1 (by decide)) ?_
  refine aw_callV dL_law_208 at_mint cvL_44 rfl (kF_X10_end (m0) (sh) (rr) (ww) (so) (sc) (pl) (qo) (pn) (bm) (tg) (px) (fa) (HM (mo) (mw) (mr) (ms) (mt) (mu) (dd) (wi) (hi) (gt) (sp) (ta) (li) (sr) (co) (LB f)) 44 (xs (Int32.toNatClampNeg (i + 1))) (by rw [e1]; exact okne)) rfl (Nat.le_of_ble_eq_true rfl) (Nat.le_of_ble_eq_true rfl) (Nat.le_of_ble_eq_true rfl) (show k + 0 ≤ 601024 by omega) (show j + 0 ≤ 7293034 by omega) (fun _ _ _ hf => False.elim hf) (fun r208 h208 n208 hp208 => ?_)
  obtain ⟨z208, s208, e208, rfl, rfl, rfl⟩ := hp208
  obtain ⟨rfl, rfl⟩ := fokI (e1.symm.trans e208)
  refine aw_eqh (h2 := HC m0 sh rr s so sc pl qo pn bm tg px fa (HM mo mw mr ms mt mu dd wi hi gt sp ta li sr co (LB f))) rfl ?_
  refine aw_aload_n dL_law_211 rfl ?_
  refine aw_aload_nA dL_law_212 rfl ?_
  refine aw_iload dL_law_213 rfl ?_
  refine aw_iconst (v := 1) dL_law_215 (by decide) ?_
  refine aw_iadd dL_law_216 ?_
  refine aw_sld (L := L) (xs := xs) dL_law_217 (fun _ _ h => h) (hix 1 (by decide)) ?_
  refine aw_eqh (h2 := HM mo mw mr ms mt mu dd wi hi gt sp ta li sr co (HC m0 sh rr s so sc pl qo pn bm tg px fa (LB f))) (comm LB_z) ?_
  refine aw_callV dL_law_218 at_mod cvL_48 rfl (kF_X11_end (mo) (mw) (mr) (ms) (mt) (mu) (dd) (wi) (hi) (gt) (sp) (ta) (li) (sr) (co) (HC (m0) (sh) (rr) (s) (so) (sc) (pl) (qo) (pn) (bm) (tg) (px) (fa) (LB f)) 44 (xs (Int32.toNatClampNeg (i + 1))) (by rw [e2]; exact okne)) rfl (Nat.le_of_ble_eq_true rfl) (Nat.le_of_ble_eq_true rfl) (Nat.le_of_ble_eq_true rfl) (show _ + 0 ≤ 601024 by omega) (show _ + 0 ≤ 7293034 by omega) (fun _ _ _ hf => False.elim hf) (fun r218 h218 n218 hp218 => ?_)
  obtain ⟨z218, s218, e218, rfl, rfl, rfl⟩ := hp218
  obtain ⟨rfl, rfl⟩ := fokI (e2.symm.trans e218)
  refine aw_eqh (h2 := HC m0 sh rr s so sc pl qo pn bm tg px fa (HM s2 mw mr ms mt mu dd wi hi gt sp ta li sr co (LB f))) (comm LB_z).symm ?_
  refine aw_icmp_eq (tgt := 1010) dL_law_221 (by decide) (fun _ => ?_) (fun c => absurd rfl c)
  exact aw_lv _ (List.forall_mem_cons.mpr ⟨rfl, (List.forall_mem_cons.mpr ⟨rfl, (List.forall_mem_cons.mpr ⟨rfl, (List.forall_mem_cons.mpr ⟨rfl, (List.forall_mem_cons.mpr ⟨rfl, fun _ h => absurd h List.not_mem_nil⟩)⟩)⟩)⟩)⟩) (aw_wide (by omega) (by omega) (kk (m0) (sh) (rr) (s) (so) (sc) (pl) (qo) (pn) (bm) (tg) (px) (fa) (s2) (mw) (mr) (ms) (mt) (mu) (dd) (wi) (hi) (gt) (sp) (ta) (li) (sr) (co) f hI2))
set_option maxHeartbeats 2000000 in
set_option maxRecDepth 100000 in
theorem law_again {b L : Nat} {xs : Nat → Int32} {nm : String} {t : List (Nat × Nat × Nat × Nat)} {I : IV} (S : S_again I) (i : Int32) (hix : ∀ d : Int32, d = 1 ∨ d = 2 ∨ d = 3 ∨ d = 4 ∨ d = 5 ∨ d = 6 → vp_in (i + d) L) (k j : Nat) (hk : k + 1 ≤ 601024) (hj : j + 6 ≤ 7293034) (m0 : Mnt) (sh : Nat → Nat) (rr : Nat → Ras) (ww : Nat → Row) (so : Nat) (sc : Src) (pl : Pal) (qo : Qoi) (pn : Pnm) (bm : Bmp) (tg : Tga) (px : Pcx) (fa : A) (mo : MO) (mw : MW) (mr : MR) (ms : Nat) (mt : A) (mu : A) (dd : A) (wi : A) (hi : A) (gt : A) (sp : A) (ta : A) (li : A) (sr : A) (co : A) (f : Nat → Int64) (hI : I m0 sh rr ww so sc pl qo pn bm tg px fa mo mw mr ms mt mu dd wi hi gt sp ta li sr co) (kk : ∀ (m0 : Mnt) (sh : Nat → Nat) (rr : Nat → Ras) (ww : Nat → Row) (so : Nat) (sc : Src) (pl : Pal) (qo : Qoi) (pn : Pnm) (bm : Bmp) (tg : Tga) (px : Pcx) (fa : A) (mo : MO) (mw : MW) (mr : MR) (ms : Nat) (mt : A) (mu : A) (dd : A) (wi : A) (hi : A) (gt : A) (sp : A) (ta : A) (li : A) (sr : A) (co : A) (f : Nat → Int64), I m0 sh rr ww so sc pl qo pn bm tg px fa mo mw mr ms mt mu dd wi hi gt sp ta li sr co → LW b L xs nm t (k + 1) (j + 6) 1010 i (HC m0 sh rr ww so sc pl qo pn bm tg px fa (HM mo mw mr ms mt mu dd wi hi gt sp ta li sr co (LB f)))) : LW b L xs nm t k j 226 i (HC m0 sh rr ww so sc pl qo pn bm tg px fa (HM mo mw mr ms mt mu dd wi hi gt sp ta li sr co (LB f))) := by
  obtain ⟨z, s, s2, e1, e2, hI2⟩ := S m0 sh rr ww so sc pl qo pn bm tg px fa mo mw mr ms mt mu dd wi hi gt sp ta li sr co hI 
  refine aw_aload_n dL_law_226 rfl ?_
  refine aw_callV dL_law_227 at_mint cvL_49 rfl (kF_X10_again (m0) (sh) (rr) (ww) (so) (sc) (pl) (qo) (pn) (bm) (tg) (px) (fa) (HM (mo) (mw) (mr) (ms) (mt) (mu) (dd) (wi) (hi) (gt) (sp) (ta) (li) (sr) (co) (LB f)) 44  (by rw [e1]; exact okne)) rfl (Nat.le_of_ble_eq_true rfl) (Nat.le_of_ble_eq_true rfl) (Nat.le_of_ble_eq_true rfl) (show k + 0 ≤ 601024 by omega) (show j + 0 ≤ 7293034 by omega) (fun _ _ _ hf => False.elim hf) (fun r227 h227 n227 hp227 => ?_)
  obtain ⟨z227, s227, e227, rfl, rfl, rfl⟩ := hp227
  obtain ⟨rfl, rfl⟩ := fokI (e1.symm.trans e227)
  refine aw_eqh (h2 := HC m0 sh rr s so sc pl qo pn bm tg px fa (HM mo mw mr ms mt mu dd wi hi gt sp ta li sr co (LB f))) rfl ?_
  refine aw_aload_n dL_law_230 rfl ?_
  refine aw_eqh (h2 := HM mo mw mr ms mt mu dd wi hi gt sp ta li sr co (HC m0 sh rr s so sc pl qo pn bm tg px fa (LB f))) (comm LB_z) ?_
  refine aw_callV dL_law_231 at_mod cvL_53 rfl (kF_X11_again (mo) (mw) (mr) (ms) (mt) (mu) (dd) (wi) (hi) (gt) (sp) (ta) (li) (sr) (co) (HC (m0) (sh) (rr) (s) (so) (sc) (pl) (qo) (pn) (bm) (tg) (px) (fa) (LB f)) 44  (by rw [e2]; exact okne)) rfl (Nat.le_of_ble_eq_true rfl) (Nat.le_of_ble_eq_true rfl) (Nat.le_of_ble_eq_true rfl) (show _ + 0 ≤ 601024 by omega) (show _ + 0 ≤ 7293034 by omega) (fun _ _ _ hf => False.elim hf) (fun r231 h231 n231 hp231 => ?_)
  obtain ⟨z231, s231, e231, rfl, rfl, rfl⟩ := hp231
  obtain ⟨rfl, rfl⟩ := fokI (e2.symm.trans e231)
  refine aw_eqh (h2 := HC m0 sh rr s so sc pl qo pn bm tg px fa (HM s2.1 mw mr ms s2.2 mu dd wi hi gt sp ta li sr co (LB f))) (comm LB_z).symm ?_
  refine aw_icmp_eq (tgt := 1010) dL_law_234 (by decide) (fun _ => ?_) (fun c => absurd rfl c)
  exact aw_lv _ (List.forall_mem_cons.mpr ⟨rfl, (List.forall_mem_cons.mpr ⟨rfl, (List.forall_mem_cons.mpr ⟨rfl, (List.forall_mem_cons.mpr ⟨rfl, (List.forall_mem_cons.mpr ⟨rfl, fun _ h => absurd h List.not_mem_nil⟩)⟩)⟩)⟩)⟩) (aw_wide (by omega) (by omega) (kk (m0) (sh) (rr) (s) (so) (sc) (pl) (qo) (pn) (bm) (tg) (px) (fa) (s2.1) (mw) (mr) (ms) (s2.2) (mu) (dd) (wi) (hi) (gt) (sp) (ta) (li) (sr) (co) f hI2))
set_option maxHeartbeats 2000000 in
set_option maxRecDepth 100000 in
theorem law_read {b L : Nat} {xs : Nat → Int32} {nm : String} {t : List (Nat × Nat × Nat × Nat)} {I : IV} (S : S_read I) (i : Int32) (hix : ∀ d : Int32, d = 1 ∨ d = 2 ∨ d = 3 ∨ d = 4 ∨ d = 5 ∨ d = 6 → vp_in (i + d) L) (k j : Nat) (hk : k + 1 ≤ 601024) (hj : j + 6 ≤ 7293034) (m0 : Mnt) (sh : Nat → Nat) (rr : Nat → Ras) (ww : Nat → Row) (so : Nat) (sc : Src) (pl : Pal) (qo : Qoi) (pn : Pnm) (bm : Bmp) (tg : Tga) (px : Pcx) (fa : A) (mo : MO) (mw : MW) (mr : MR) (ms : Nat) (mt : A) (mu : A) (dd : A) (wi : A) (hi : A) (gt : A) (sp : A) (ta : A) (li : A) (sr : A) (co : A) (f : Nat → Int64) (hI : I m0 sh rr ww so sc pl qo pn bm tg px fa mo mw mr ms mt mu dd wi hi gt sp ta li sr co) (kk : ∀ (m0 : Mnt) (sh : Nat → Nat) (rr : Nat → Ras) (ww : Nat → Row) (so : Nat) (sc : Src) (pl : Pal) (qo : Qoi) (pn : Pnm) (bm : Bmp) (tg : Tga) (px : Pcx) (fa : A) (mo : MO) (mw : MW) (mr : MR) (ms : Nat) (mt : A) (mu : A) (dd : A) (wi : A) (hi : A) (gt : A) (sp : A) (ta : A) (li : A) (sr : A) (co : A) (f : Nat → Int64), I m0 sh rr ww so sc pl qo pn bm tg px fa mo mw mr ms mt mu dd wi hi gt sp ta li sr co → LW b L xs nm t (k + 1) (j + 6) 1010 i (HC m0 sh rr ww so sc pl qo pn bm tg px fa (HM mo mw mr ms mt mu dd wi hi gt sp ta li sr co (LB f)))) : LW b L xs nm t k j 239 i (HC m0 sh rr ww so sc pl qo pn bm tg px fa (HM mo mw mr ms mt mu dd wi hi gt sp ta li sr co (LB f))) := by
  obtain ⟨bv, s2, e2, hd⟩ := S m0 sh rr ww so sc pl qo pn bm tg px fa mo mw mr ms mt mu dd wi hi gt sp ta li sr co hI (xs (Int32.toNatClampNeg (i + 1))) (xs (Int32.toNatClampNeg (i + 2)))
  refine aw_aload_n dL_law_239 rfl ?_
  refine aw_aload_nA dL_law_240 rfl ?_
  refine aw_iload dL_law_241 rfl ?_
  refine aw_iconst (v := 1) dL_law_243 (by decide) ?_
  refine aw_iadd dL_law_244 ?_
  refine aw_sld (L := L) (xs := xs) dL_law_245 (fun _ _ h => h) (hix 1 (by decide)) ?_
  refine aw_aload_nA dL_law_246 rfl ?_
  refine aw_iload dL_law_247 rfl ?_
  refine aw_iconst (v := 2) dL_law_249 (by decide) ?_
  refine aw_iadd dL_law_250 ?_
  refine aw_sld (L := L) (xs := xs) dL_law_251 (fun _ _ h => h) (hix 2 (by decide)) ?_
  refine aw_aload_n dL_law_252 rfl ?_
  have hF : F_X10_read (xs (Int32.toNatClampNeg (i + 1))) (xs (Int32.toNatClampNeg (i + 2))) m0 sh rr ww so sc qo pn bm tg px fa ≠ fno ∧ ∀ E s, F_X10_read (xs (Int32.toNatClampNeg (i + 1))) (xs (Int32.toNatClampNeg (i + 2))) m0 sh rr ww so sc qo pn bm tg px fa = fex E s → E = "java/lang/IllegalArgumentException" ∨ E = "java/util/NoSuchElementException" := by
    rcases hd with ⟨s, e1, -⟩ | ⟨s, e1, -⟩ | ⟨s, e1, -⟩
    · exact ⟨by rw [e1]; exact okne, fun E s h => (okex (e1.symm.trans h)).elim⟩
    · exact ⟨by rw [e1]; exact exne, fun E s h => Or.inl (exI (e1.symm.trans h)).symm⟩
    · exact ⟨by rw [e1]; exact exne, fun E s h => Or.inr (exI (e1.symm.trans h)).symm⟩
  refine aw_callSX dL_law_253 cxL_54 rfl (kL_read m0 sh rr ww so sc pl qo pn bm tg px fa mo mw mr ms mt mu dd wi hi gt sp ta li sr co f 44 (xs (Int32.toNatClampNeg (i + 1))) (xs (Int32.toNatClampNeg (i + 2))) hF.1 hF.2) rfl (Nat.le_of_ble_eq_true rfl) (Nat.le_of_ble_eq_true rfl) (Nat.le_of_ble_eq_true rfl) (show k + 1 ≤ 601024 by omega) (show j + 6 ≤ 7293034 by omega) (fun _ _ _ hf => False.elim hf) (fun r253 h253 n253 hp253 => ?_)
  rcases hd with ⟨s, e1, e3, hI2⟩ | ⟨s, e1, e3, hI2⟩ | ⟨s, e1, e3, hI2⟩
  · rcases hp253 with ⟨z253, s253, e253, rfl, rfl, rfl⟩ | ⟨s253, e253, rfl, rfl, rfl⟩ | ⟨s253, e253, rfl, rfl, rfl⟩
    · obtain ⟨rfl, rfl⟩ := fokI (e1.symm.trans e253)
      refine aw_istore (lv2 := [(5, _), (0, _), (1, _), (2, _), (3, _), (4, _)]) dL_law_256 (Nat.le_of_ble_eq_true rfl) rfl ?_
      refine aw_aload_n dL_law_258 rfl ?_
      refine aw_aload_nA dL_law_259 rfl ?_
      refine aw_iload dL_law_260 rfl ?_
      refine aw_iconst (v := 1) dL_law_262 (by decide) ?_
      refine aw_iadd dL_law_263 ?_
      refine aw_sld (L := L) (xs := xs) dL_law_264 (fun _ _ h => h) (hix 1 (by decide)) ?_
      refine aw_aload_nA dL_law_265 rfl ?_
      refine aw_iload dL_law_266 rfl ?_
      refine aw_iconst (v := 2) dL_law_268 (by decide) ?_
      refine aw_iadd dL_law_269 ?_
      refine aw_sld (L := L) (xs := xs) dL_law_270 (fun _ _ h => h) (hix 2 (by decide)) ?_
      refine aw_eqh (h2 := HM mo mw mr ms mt mu dd wi hi gt sp ta li sr co (HC s.1 s.2.1 s.2.2.1 s.2.2.2.1 s.2.2.2.2.1 s.2.2.2.2.2.1 pl s.2.2.2.2.2.2.1 s.2.2.2.2.2.2.2.1 s.2.2.2.2.2.2.2.2.1 s.2.2.2.2.2.2.2.2.2.1 s.2.2.2.2.2.2.2.2.2.2.1 s.2.2.2.2.2.2.2.2.2.2.2 (LB (vp_updL f (Int32.toNatClampNeg 0) bv.toInt64)))) (comm LB_z) ?_
      refine aw_callV dL_law_271 at_mod cvL_59 rfl (kF_X11_read (mo) (mw) (mr) (ms) (mt) (mu) (dd) (wi) (hi) (gt) (sp) (ta) (li) (sr) (co) (HC (s.1) (s.2.1) (s.2.2.1) (s.2.2.2.1) (s.2.2.2.2.1) (s.2.2.2.2.2.1) (pl) (s.2.2.2.2.2.2.1) (s.2.2.2.2.2.2.2.1) (s.2.2.2.2.2.2.2.2.1) (s.2.2.2.2.2.2.2.2.2.1) (s.2.2.2.2.2.2.2.2.2.2.1) (s.2.2.2.2.2.2.2.2.2.2.2) (LB (vp_updL f (Int32.toNatClampNeg 0) bv.toInt64))) 44 (xs (Int32.toNatClampNeg (i + 1))) (xs (Int32.toNatClampNeg (i + 2))) (by rw [e2]; exact okne)) rfl (Nat.le_of_ble_eq_true rfl) (Nat.le_of_ble_eq_true rfl) (Nat.le_of_ble_eq_true rfl) (show _ + 0 ≤ 601024 by omega) (show _ + 0 ≤ 7293034 by omega) (fun _ _ _ hf => False.elim hf) (fun r271 h271 n271 hp271 => ?_)
      obtain ⟨z271, s271, e271, rfl, rfl, rfl⟩ := hp271
      obtain ⟨rfl, rfl⟩ := fokI (e2.symm.trans e271)
      refine aw_eqh (h2 := HC s.1 s.2.1 s.2.2.1 s.2.2.2.1 s.2.2.2.2.1 s.2.2.2.2.2.1 pl s.2.2.2.2.2.2.1 s.2.2.2.2.2.2.2.1 s.2.2.2.2.2.2.2.2.1 s.2.2.2.2.2.2.2.2.2.1 s.2.2.2.2.2.2.2.2.2.2.1 s.2.2.2.2.2.2.2.2.2.2.2 (HM s2.1 mw s2.2.1 s2.2.2.1 mt mu s2.2.2.2.1 s2.2.2.2.2.1 s2.2.2.2.2.2.1 s2.2.2.2.2.2.2.1 s2.2.2.2.2.2.2.2.1 s2.2.2.2.2.2.2.2.2.1 s2.2.2.2.2.2.2.2.2.2 sr co (LB (vp_updL f (Int32.toNatClampNeg 0) bv.toInt64)))) (comm LB_z).symm ?_
      refine aw_istore (lv2 := [(6, _), (5, _), (0, _), (1, _), (2, _), (3, _), (4, _)]) dL_law_274 (Nat.le_of_ble_eq_true rfl) rfl ?_
      refine aw_aload_n dL_law_276 rfl ?_
      refine aw_eqh (h2 := HM s2.1 mw s2.2.1 s2.2.2.1 mt mu s2.2.2.2.1 s2.2.2.2.2.1 s2.2.2.2.2.2.1 s2.2.2.2.2.2.2.1 s2.2.2.2.2.2.2.2.1 s2.2.2.2.2.2.2.2.2.1 s2.2.2.2.2.2.2.2.2.2 sr co (HC s.1 s.2.1 s.2.2.1 s.2.2.2.1 s.2.2.2.2.1 s.2.2.2.2.2.1 pl s.2.2.2.2.2.2.1 s.2.2.2.2.2.2.2.1 s.2.2.2.2.2.2.2.2.1 s.2.2.2.2.2.2.2.2.2.1 s.2.2.2.2.2.2.2.2.2.2.1 s.2.2.2.2.2.2.2.2.2.2.2 (LB (vp_updL f (Int32.toNatClampNeg 0) bv.toInt64)))) (comm LB_z) ?_
      refine aw_callV dL_law_277 at_mod cvL_60 rfl (kF_X11_thrown (s2.1) (mw) (s2.2.1) (s2.2.2.1) (mt) (mu) (s2.2.2.2.1) (s2.2.2.2.2.1) (s2.2.2.2.2.2.1) (s2.2.2.2.2.2.2.1) (s2.2.2.2.2.2.2.2.1) (s2.2.2.2.2.2.2.2.2.1) (s2.2.2.2.2.2.2.2.2.2) (sr) (co) (HC (s.1) (s.2.1) (s.2.2.1) (s.2.2.2.1) (s.2.2.2.2.1) (s.2.2.2.2.2.1) (pl) (s.2.2.2.2.2.2.1) (s.2.2.2.2.2.2.2.1) (s.2.2.2.2.2.2.2.2.1) (s.2.2.2.2.2.2.2.2.2.1) (s.2.2.2.2.2.2.2.2.2.2.1) (s.2.2.2.2.2.2.2.2.2.2.2) (LB (vp_updL f (Int32.toNatClampNeg 0) bv.toInt64))) 44  (by rw [e3]; exact okne)) rfl (Nat.le_of_ble_eq_true rfl) (Nat.le_of_ble_eq_true rfl) (Nat.le_of_ble_eq_true rfl) (show _ + 0 ≤ 601024 by omega) (show _ + 0 ≤ 7293034 by omega) (fun _ _ _ hf => False.elim hf) (fun r277 h277 n277 hp277 => ?_)
      obtain ⟨z277, s277, e277, rfl, rfl, rfl⟩ := hp277
      obtain ⟨rfl, rfl⟩ := fokI (e3.symm.trans e277)
      refine aw_eqh (h2 := HC s.1 s.2.1 s.2.2.1 s.2.2.2.1 s.2.2.2.2.1 s.2.2.2.2.2.1 pl s.2.2.2.2.2.2.1 s.2.2.2.2.2.2.2.1 s.2.2.2.2.2.2.2.2.1 s.2.2.2.2.2.2.2.2.2.1 s.2.2.2.2.2.2.2.2.2.2.1 s.2.2.2.2.2.2.2.2.2.2.2 (HM s2.1 mw s2.2.1 s2.2.2.1 mt mu s2.2.2.2.1 s2.2.2.2.2.1 s2.2.2.2.2.2.1 s2.2.2.2.2.2.2.1 s2.2.2.2.2.2.2.2.1 s2.2.2.2.2.2.2.2.2.1 s2.2.2.2.2.2.2.2.2.2 sr co (LB (vp_updL f (Int32.toNatClampNeg 0) bv.toInt64)))) (comm LB_z).symm ?_
      refine aw_iload dL_law_280 rfl ?_
      refine aw_icmp_eq (tgt := 287) dL_law_282 (by decide) (fun _ => ?_) (fun c => absurd rfl c)
      refine aw_iload dL_law_287 rfl ?_
      refine aw_if_ne (tgt := 304) dL_law_289 (by decide) (fun c => absurd rfl c) (fun _ => ?_)
      refine aw_aload_n dL_law_292 rfl ?_
      refine aw_iconst (v := 0) dL_law_293 (by decide) ?_
      refine aw_lald dL_law_294 at_out (vp_in_iff.mpr (by decide)) ?_
      refine aw_iload dL_law_295 rfl ?_
      refine aw_i2l dL_law_297 ?_
      refine aw_lcmp dL_law_298 ?_
      rw [updL_same, lgc]
      refine aw_if_eq (tgt := 304) dL_law_299 (by decide) (fun _ => ?_) (fun c => absurd rfl c)
      refine aw_goto (tgt := 1010) dL_law_304 (by decide) ?_
      exact aw_lv _ (List.forall_mem_cons.mpr ⟨rfl, (List.forall_mem_cons.mpr ⟨rfl, (List.forall_mem_cons.mpr ⟨rfl, (List.forall_mem_cons.mpr ⟨rfl, (List.forall_mem_cons.mpr ⟨rfl, fun _ h => absurd h List.not_mem_nil⟩)⟩)⟩)⟩)⟩) (aw_wide (by omega) (by omega) (kk (s.1) (s.2.1) (s.2.2.1) (s.2.2.2.1) (s.2.2.2.2.1) (s.2.2.2.2.2.1) (pl) (s.2.2.2.2.2.2.1) (s.2.2.2.2.2.2.2.1) (s.2.2.2.2.2.2.2.2.1) (s.2.2.2.2.2.2.2.2.2.1) (s.2.2.2.2.2.2.2.2.2.2.1) (s.2.2.2.2.2.2.2.2.2.2.2) (s2.1) (mw) (s2.2.1) (s2.2.2.1) (mt) (mu) (s2.2.2.2.1) (s2.2.2.2.2.1) (s2.2.2.2.2.2.1) (s2.2.2.2.2.2.2.1) (s2.2.2.2.2.2.2.2.1) (s2.2.2.2.2.2.2.2.2.1) (s2.2.2.2.2.2.2.2.2.2) (sr) (co) (vp_updL f (Int32.toNatClampNeg 0) bv.toInt64) hI2))
    · exact (okex (e1.symm.trans e253)).elim
    · exact (okex (e1.symm.trans e253)).elim
  · rcases hp253 with ⟨z253, s253, e253, rfl, rfl, rfl⟩ | ⟨s253, e253, rfl, rfl, rfl⟩ | ⟨s253, e253, rfl, rfl, rfl⟩
    · exact (okex (e253.symm.trans e1)).elim
    · obtain rfl := fexI (e1.symm.trans e253)
      refine aw_istore (lv2 := [(5, _), (0, _), (1, _), (2, _), (3, _), (4, _)]) dL_law_256 (Nat.le_of_ble_eq_true rfl) rfl ?_
      refine aw_aload_n dL_law_258 rfl ?_
      refine aw_aload_nA dL_law_259 rfl ?_
      refine aw_iload dL_law_260 rfl ?_
      refine aw_iconst (v := 1) dL_law_262 (by decide) ?_
      refine aw_iadd dL_law_263 ?_
      refine aw_sld (L := L) (xs := xs) dL_law_264 (fun _ _ h => h) (hix 1 (by decide)) ?_
      refine aw_aload_nA dL_law_265 rfl ?_
      refine aw_iload dL_law_266 rfl ?_
      refine aw_iconst (v := 2) dL_law_268 (by decide) ?_
      refine aw_iadd dL_law_269 ?_
      refine aw_sld (L := L) (xs := xs) dL_law_270 (fun _ _ h => h) (hix 2 (by decide)) ?_
      refine aw_eqh (h2 := HM mo mw mr ms mt mu dd wi hi gt sp ta li sr co (HC s.1 s.2.1 s.2.2.1 s.2.2.2.1 s.2.2.2.2.1 s.2.2.2.2.2.1 pl s.2.2.2.2.2.2.1 s.2.2.2.2.2.2.2.1 s.2.2.2.2.2.2.2.2.1 s.2.2.2.2.2.2.2.2.2.1 s.2.2.2.2.2.2.2.2.2.2.1 s.2.2.2.2.2.2.2.2.2.2.2 (LB f))) (comm LB_z) ?_
      refine aw_callV dL_law_271 at_mod cvL_59 rfl (kF_X11_read (mo) (mw) (mr) (ms) (mt) (mu) (dd) (wi) (hi) (gt) (sp) (ta) (li) (sr) (co) (HC (s.1) (s.2.1) (s.2.2.1) (s.2.2.2.1) (s.2.2.2.2.1) (s.2.2.2.2.2.1) (pl) (s.2.2.2.2.2.2.1) (s.2.2.2.2.2.2.2.1) (s.2.2.2.2.2.2.2.2.1) (s.2.2.2.2.2.2.2.2.2.1) (s.2.2.2.2.2.2.2.2.2.2.1) (s.2.2.2.2.2.2.2.2.2.2.2) (LB f)) 44 (xs (Int32.toNatClampNeg (i + 1))) (xs (Int32.toNatClampNeg (i + 2))) (by rw [e2]; exact okne)) rfl (Nat.le_of_ble_eq_true rfl) (Nat.le_of_ble_eq_true rfl) (Nat.le_of_ble_eq_true rfl) (show _ + 0 ≤ 601024 by omega) (show _ + 0 ≤ 7293034 by omega) (fun _ _ _ hf => False.elim hf) (fun r271 h271 n271 hp271 => ?_)
      obtain ⟨z271, s271, e271, rfl, rfl, rfl⟩ := hp271
      obtain ⟨rfl, rfl⟩ := fokI (e2.symm.trans e271)
      refine aw_eqh (h2 := HC s.1 s.2.1 s.2.2.1 s.2.2.2.1 s.2.2.2.2.1 s.2.2.2.2.2.1 pl s.2.2.2.2.2.2.1 s.2.2.2.2.2.2.2.1 s.2.2.2.2.2.2.2.2.1 s.2.2.2.2.2.2.2.2.2.1 s.2.2.2.2.2.2.2.2.2.2.1 s.2.2.2.2.2.2.2.2.2.2.2 (HM s2.1 mw s2.2.1 s2.2.2.1 mt mu s2.2.2.2.1 s2.2.2.2.2.1 s2.2.2.2.2.2.1 s2.2.2.2.2.2.2.1 s2.2.2.2.2.2.2.2.1 s2.2.2.2.2.2.2.2.2.1 s2.2.2.2.2.2.2.2.2.2 sr co (LB f))) (comm LB_z).symm ?_
      refine aw_istore (lv2 := [(6, _), (5, _), (0, _), (1, _), (2, _), (3, _), (4, _)]) dL_law_274 (Nat.le_of_ble_eq_true rfl) rfl ?_
      refine aw_aload_n dL_law_276 rfl ?_
      refine aw_eqh (h2 := HM s2.1 mw s2.2.1 s2.2.2.1 mt mu s2.2.2.2.1 s2.2.2.2.2.1 s2.2.2.2.2.2.1 s2.2.2.2.2.2.2.1 s2.2.2.2.2.2.2.2.1 s2.2.2.2.2.2.2.2.2.1 s2.2.2.2.2.2.2.2.2.2 sr co (HC s.1 s.2.1 s.2.2.1 s.2.2.2.1 s.2.2.2.2.1 s.2.2.2.2.2.1 pl s.2.2.2.2.2.2.1 s.2.2.2.2.2.2.2.1 s.2.2.2.2.2.2.2.2.1 s.2.2.2.2.2.2.2.2.2.1 s.2.2.2.2.2.2.2.2.2.2.1 s.2.2.2.2.2.2.2.2.2.2.2 (LB f))) (comm LB_z) ?_
      refine aw_callV dL_law_277 at_mod cvL_60 rfl (kF_X11_thrown (s2.1) (mw) (s2.2.1) (s2.2.2.1) (mt) (mu) (s2.2.2.2.1) (s2.2.2.2.2.1) (s2.2.2.2.2.2.1) (s2.2.2.2.2.2.2.1) (s2.2.2.2.2.2.2.2.1) (s2.2.2.2.2.2.2.2.2.1) (s2.2.2.2.2.2.2.2.2.2) (sr) (co) (HC (s.1) (s.2.1) (s.2.2.1) (s.2.2.2.1) (s.2.2.2.2.1) (s.2.2.2.2.2.1) (pl) (s.2.2.2.2.2.2.1) (s.2.2.2.2.2.2.2.1) (s.2.2.2.2.2.2.2.2.1) (s.2.2.2.2.2.2.2.2.2.1) (s.2.2.2.2.2.2.2.2.2.2.1) (s.2.2.2.2.2.2.2.2.2.2.2) (LB f)) 44  (by rw [e3]; exact okne)) rfl (Nat.le_of_ble_eq_true rfl) (Nat.le_of_ble_eq_true rfl) (Nat.le_of_ble_eq_true rfl) (show _ + 0 ≤ 601024 by omega) (show _ + 0 ≤ 7293034 by omega) (fun _ _ _ hf => False.elim hf) (fun r277 h277 n277 hp277 => ?_)
      obtain ⟨z277, s277, e277, rfl, rfl, rfl⟩ := hp277
      obtain ⟨rfl, rfl⟩ := fokI (e3.symm.trans e277)
      refine aw_eqh (h2 := HC s.1 s.2.1 s.2.2.1 s.2.2.2.1 s.2.2.2.2.1 s.2.2.2.2.2.1 pl s.2.2.2.2.2.2.1 s.2.2.2.2.2.2.2.1 s.2.2.2.2.2.2.2.2.1 s.2.2.2.2.2.2.2.2.2.1 s.2.2.2.2.2.2.2.2.2.2.1 s.2.2.2.2.2.2.2.2.2.2.2 (HM s2.1 mw s2.2.1 s2.2.2.1 mt mu s2.2.2.2.1 s2.2.2.2.2.1 s2.2.2.2.2.2.1 s2.2.2.2.2.2.2.1 s2.2.2.2.2.2.2.2.1 s2.2.2.2.2.2.2.2.2.1 s2.2.2.2.2.2.2.2.2.2 sr co (LB f))) (comm LB_z).symm ?_
      refine aw_iload dL_law_280 rfl ?_
      refine aw_icmp_eq (tgt := 287) dL_law_282 (by decide) (fun _ => ?_) (fun c => absurd rfl c)
      refine aw_iload dL_law_287 rfl ?_
      refine aw_if_ne (tgt := 304) dL_law_289 (by decide) (fun _ => ?_) (fun c => absurd c (by decide))
      refine aw_goto (tgt := 1010) dL_law_304 (by decide) ?_
      exact aw_lv _ (List.forall_mem_cons.mpr ⟨rfl, (List.forall_mem_cons.mpr ⟨rfl, (List.forall_mem_cons.mpr ⟨rfl, (List.forall_mem_cons.mpr ⟨rfl, (List.forall_mem_cons.mpr ⟨rfl, fun _ h => absurd h List.not_mem_nil⟩)⟩)⟩)⟩)⟩) (aw_wide (by omega) (by omega) (kk (s.1) (s.2.1) (s.2.2.1) (s.2.2.2.1) (s.2.2.2.2.1) (s.2.2.2.2.2.1) (pl) (s.2.2.2.2.2.2.1) (s.2.2.2.2.2.2.2.1) (s.2.2.2.2.2.2.2.2.1) (s.2.2.2.2.2.2.2.2.2.1) (s.2.2.2.2.2.2.2.2.2.2.1) (s.2.2.2.2.2.2.2.2.2.2.2) (s2.1) (mw) (s2.2.1) (s2.2.2.1) (mt) (mu) (s2.2.2.2.1) (s2.2.2.2.2.1) (s2.2.2.2.2.2.1) (s2.2.2.2.2.2.2.1) (s2.2.2.2.2.2.2.2.1) (s2.2.2.2.2.2.2.2.2.1) (s2.2.2.2.2.2.2.2.2.2) (sr) (co) f hI2))
    · exact absurd (exI (e1.symm.trans e253)) (by decide)
  · rcases hp253 with ⟨z253, s253, e253, rfl, rfl, rfl⟩ | ⟨s253, e253, rfl, rfl, rfl⟩ | ⟨s253, e253, rfl, rfl, rfl⟩
    · exact (okex (e253.symm.trans e1)).elim
    · exact absurd (exI (e1.symm.trans e253)) (by decide)
    · obtain rfl := fexI (e1.symm.trans e253)
      refine aw_istore (lv2 := [(5, _), (0, _), (1, _), (2, _), (3, _), (4, _)]) dL_law_256 (Nat.le_of_ble_eq_true rfl) rfl ?_
      refine aw_aload_n dL_law_258 rfl ?_
      refine aw_aload_nA dL_law_259 rfl ?_
      refine aw_iload dL_law_260 rfl ?_
      refine aw_iconst (v := 1) dL_law_262 (by decide) ?_
      refine aw_iadd dL_law_263 ?_
      refine aw_sld (L := L) (xs := xs) dL_law_264 (fun _ _ h => h) (hix 1 (by decide)) ?_
      refine aw_aload_nA dL_law_265 rfl ?_
      refine aw_iload dL_law_266 rfl ?_
      refine aw_iconst (v := 2) dL_law_268 (by decide) ?_
      refine aw_iadd dL_law_269 ?_
      refine aw_sld (L := L) (xs := xs) dL_law_270 (fun _ _ h => h) (hix 2 (by decide)) ?_
      refine aw_eqh (h2 := HM mo mw mr ms mt mu dd wi hi gt sp ta li sr co (HC s.1 s.2.1 s.2.2.1 s.2.2.2.1 s.2.2.2.2.1 s.2.2.2.2.2.1 pl s.2.2.2.2.2.2.1 s.2.2.2.2.2.2.2.1 s.2.2.2.2.2.2.2.2.1 s.2.2.2.2.2.2.2.2.2.1 s.2.2.2.2.2.2.2.2.2.2.1 s.2.2.2.2.2.2.2.2.2.2.2 (LB f))) (comm LB_z) ?_
      refine aw_callV dL_law_271 at_mod cvL_59 rfl (kF_X11_read (mo) (mw) (mr) (ms) (mt) (mu) (dd) (wi) (hi) (gt) (sp) (ta) (li) (sr) (co) (HC (s.1) (s.2.1) (s.2.2.1) (s.2.2.2.1) (s.2.2.2.2.1) (s.2.2.2.2.2.1) (pl) (s.2.2.2.2.2.2.1) (s.2.2.2.2.2.2.2.1) (s.2.2.2.2.2.2.2.2.1) (s.2.2.2.2.2.2.2.2.2.1) (s.2.2.2.2.2.2.2.2.2.2.1) (s.2.2.2.2.2.2.2.2.2.2.2) (LB f)) 44 (xs (Int32.toNatClampNeg (i + 1))) (xs (Int32.toNatClampNeg (i + 2))) (by rw [e2]; exact okne)) rfl (Nat.le_of_ble_eq_true rfl) (Nat.le_of_ble_eq_true rfl) (Nat.le_of_ble_eq_true rfl) (show _ + 0 ≤ 601024 by omega) (show _ + 0 ≤ 7293034 by omega) (fun _ _ _ hf => False.elim hf) (fun r271 h271 n271 hp271 => ?_)
      obtain ⟨z271, s271, e271, rfl, rfl, rfl⟩ := hp271
      obtain ⟨rfl, rfl⟩ := fokI (e2.symm.trans e271)
      refine aw_eqh (h2 := HC s.1 s.2.1 s.2.2.1 s.2.2.2.1 s.2.2.2.2.1 s.2.2.2.2.2.1 pl s.2.2.2.2.2.2.1 s.2.2.2.2.2.2.2.1 s.2.2.2.2.2.2.2.2.1 s.2.2.2.2.2.2.2.2.2.1 s.2.2.2.2.2.2.2.2.2.2.1 s.2.2.2.2.2.2.2.2.2.2.2 (HM s2.1 mw s2.2.1 s2.2.2.1 mt mu s2.2.2.2.1 s2.2.2.2.2.1 s2.2.2.2.2.2.1 s2.2.2.2.2.2.2.1 s2.2.2.2.2.2.2.2.1 s2.2.2.2.2.2.2.2.2.1 s2.2.2.2.2.2.2.2.2.2 sr co (LB f))) (comm LB_z).symm ?_
      refine aw_istore (lv2 := [(6, _), (5, _), (0, _), (1, _), (2, _), (3, _), (4, _)]) dL_law_274 (Nat.le_of_ble_eq_true rfl) rfl ?_
      refine aw_aload_n dL_law_276 rfl ?_
      refine aw_eqh (h2 := HM s2.1 mw s2.2.1 s2.2.2.1 mt mu s2.2.2.2.1 s2.2.2.2.2.1 s2.2.2.2.2.2.1 s2.2.2.2.2.2.2.1 s2.2.2.2.2.2.2.2.1 s2.2.2.2.2.2.2.2.2.1 s2.2.2.2.2.2.2.2.2.2 sr co (HC s.1 s.2.1 s.2.2.1 s.2.2.2.1 s.2.2.2.2.1 s.2.2.2.2.2.1 pl s.2.2.2.2.2.2.1 s.2.2.2.2.2.2.2.1 s.2.2.2.2.2.2.2.2.1 s.2.2.2.2.2.2.2.2.2.1 s.2.2.2.2.2.2.2.2.2.2.1 s.2.2.2.2.2.2.2.2.2.2.2 (LB f))) (comm LB_z) ?_
      refine aw_callV dL_law_277 at_mod cvL_60 rfl (kF_X11_thrown (s2.1) (mw) (s2.2.1) (s2.2.2.1) (mt) (mu) (s2.2.2.2.1) (s2.2.2.2.2.1) (s2.2.2.2.2.2.1) (s2.2.2.2.2.2.2.1) (s2.2.2.2.2.2.2.2.1) (s2.2.2.2.2.2.2.2.2.1) (s2.2.2.2.2.2.2.2.2.2) (sr) (co) (HC (s.1) (s.2.1) (s.2.2.1) (s.2.2.2.1) (s.2.2.2.2.1) (s.2.2.2.2.2.1) (pl) (s.2.2.2.2.2.2.1) (s.2.2.2.2.2.2.2.1) (s.2.2.2.2.2.2.2.2.1) (s.2.2.2.2.2.2.2.2.2.1) (s.2.2.2.2.2.2.2.2.2.2.1) (s.2.2.2.2.2.2.2.2.2.2.2) (LB f)) 44  (by rw [e3]; exact okne)) rfl (Nat.le_of_ble_eq_true rfl) (Nat.le_of_ble_eq_true rfl) (Nat.le_of_ble_eq_true rfl) (show _ + 0 ≤ 601024 by omega) (show _ + 0 ≤ 7293034 by omega) (fun _ _ _ hf => False.elim hf) (fun r277 h277 n277 hp277 => ?_)
      obtain ⟨z277, s277, e277, rfl, rfl, rfl⟩ := hp277
      obtain ⟨rfl, rfl⟩ := fokI (e3.symm.trans e277)
      refine aw_eqh (h2 := HC s.1 s.2.1 s.2.2.1 s.2.2.2.1 s.2.2.2.2.1 s.2.2.2.2.2.1 pl s.2.2.2.2.2.2.1 s.2.2.2.2.2.2.2.1 s.2.2.2.2.2.2.2.2.1 s.2.2.2.2.2.2.2.2.2.1 s.2.2.2.2.2.2.2.2.2.2.1 s.2.2.2.2.2.2.2.2.2.2.2 (HM s2.1 mw s2.2.1 s2.2.2.1 mt mu s2.2.2.2.1 s2.2.2.2.2.1 s2.2.2.2.2.2.1 s2.2.2.2.2.2.2.1 s2.2.2.2.2.2.2.2.1 s2.2.2.2.2.2.2.2.2.1 s2.2.2.2.2.2.2.2.2.2 sr co (LB f))) (comm LB_z).symm ?_
      refine aw_iload dL_law_280 rfl ?_
      refine aw_icmp_eq (tgt := 287) dL_law_282 (by decide) (fun _ => ?_) (fun c => absurd rfl c)
      refine aw_iload dL_law_287 rfl ?_
      refine aw_if_ne (tgt := 304) dL_law_289 (by decide) (fun _ => ?_) (fun c => absurd c (by decide))
      refine aw_goto (tgt := 1010) dL_law_304 (by decide) ?_
      exact aw_lv _ (List.forall_mem_cons.mpr ⟨rfl, (List.forall_mem_cons.mpr ⟨rfl, (List.forall_mem_cons.mpr ⟨rfl, (List.forall_mem_cons.mpr ⟨rfl, (List.forall_mem_cons.mpr ⟨rfl, fun _ h => absurd h List.not_mem_nil⟩)⟩)⟩)⟩)⟩) (aw_wide (by omega) (by omega) (kk (s.1) (s.2.1) (s.2.2.1) (s.2.2.2.1) (s.2.2.2.2.1) (s.2.2.2.2.2.1) (pl) (s.2.2.2.2.2.2.1) (s.2.2.2.2.2.2.2.1) (s.2.2.2.2.2.2.2.2.1) (s.2.2.2.2.2.2.2.2.2.1) (s.2.2.2.2.2.2.2.2.2.2.1) (s.2.2.2.2.2.2.2.2.2.2.2) (s2.1) (mw) (s2.2.1) (s2.2.2.1) (mt) (mu) (s2.2.2.2.1) (s2.2.2.2.2.1) (s2.2.2.2.2.2.1) (s2.2.2.2.2.2.2.1) (s2.2.2.2.2.2.2.2.1) (s2.2.2.2.2.2.2.2.2.1) (s2.2.2.2.2.2.2.2.2.2) (sr) (co) f hI2))
set_option maxHeartbeats 2000000 in
set_option maxRecDepth 100000 in
theorem law_place {b L : Nat} {xs : Nat → Int32} {nm : String} {t : List (Nat × Nat × Nat × Nat)} {I : IV} (S : S_place I) (i : Int32) (hix : ∀ d : Int32, d = 1 ∨ d = 2 ∨ d = 3 ∨ d = 4 ∨ d = 5 ∨ d = 6 → vp_in (i + d) L) (k j : Nat) (hk : k + 1 ≤ 601024) (hj : j + 6 ≤ 7293034) (m0 : Mnt) (sh : Nat → Nat) (rr : Nat → Ras) (ww : Nat → Row) (so : Nat) (sc : Src) (pl : Pal) (qo : Qoi) (pn : Pnm) (bm : Bmp) (tg : Tga) (px : Pcx) (fa : A) (mo : MO) (mw : MW) (mr : MR) (ms : Nat) (mt : A) (mu : A) (dd : A) (wi : A) (hi : A) (gt : A) (sp : A) (ta : A) (li : A) (sr : A) (co : A) (f : Nat → Int64) (hI : I m0 sh rr ww so sc pl qo pn bm tg px fa mo mw mr ms mt mu dd wi hi gt sp ta li sr co) (kk : ∀ (m0 : Mnt) (sh : Nat → Nat) (rr : Nat → Ras) (ww : Nat → Row) (so : Nat) (sc : Src) (pl : Pal) (qo : Qoi) (pn : Pnm) (bm : Bmp) (tg : Tga) (px : Pcx) (fa : A) (mo : MO) (mw : MW) (mr : MR) (ms : Nat) (mt : A) (mu : A) (dd : A) (wi : A) (hi : A) (gt : A) (sp : A) (ta : A) (li : A) (sr : A) (co : A) (f : Nat → Int64), I m0 sh rr ww so sc pl qo pn bm tg px fa mo mw mr ms mt mu dd wi hi gt sp ta li sr co → LW b L xs nm t (k + 1) (j + 6) 1010 i (HC m0 sh rr ww so sc pl qo pn bm tg px fa (HM mo mw mr ms mt mu dd wi hi gt sp ta li sr co (LB f)))) : LW b L xs nm t k j 307 i (HC m0 sh rr ww so sc pl qo pn bm tg px fa (HM mo mw mr ms mt mu dd wi hi gt sp ta li sr co (LB f))) := by
  obtain ⟨z, s, s2, e1, e2, hI2⟩ := S m0 sh rr ww so sc pl qo pn bm tg px fa mo mw mr ms mt mu dd wi hi gt sp ta li sr co hI 
  refine aw_aload_n dL_law_307 rfl ?_
  refine aw_callV dL_law_308 at_mint cvL_63 rfl (kF_X10_place (m0) (sh) (rr) (ww) (so) (sc) (pl) (qo) (pn) (bm) (tg) (px) (fa) (HM (mo) (mw) (mr) (ms) (mt) (mu) (dd) (wi) (hi) (gt) (sp) (ta) (li) (sr) (co) (LB f)) 44  (by rw [e1]; exact okne)) rfl (Nat.le_of_ble_eq_true rfl) (Nat.le_of_ble_eq_true rfl) (Nat.le_of_ble_eq_true rfl) (show k + 0 ≤ 601024 by omega) (show j + 0 ≤ 7293034 by omega) (fun _ _ _ hf => False.elim hf) (fun r308 h308 n308 hp308 => ?_)
  obtain ⟨z308, s308, e308, rfl, rfl, rfl⟩ := hp308
  obtain ⟨rfl, rfl⟩ := fokI (e1.symm.trans e308)
  refine aw_eqh (h2 := HC m0 sh rr ww so sc pl qo pn bm tg px fa (HM mo mw mr ms mt mu dd wi hi gt sp ta li sr co (LB f))) rfl ?_
  refine aw_aload_n dL_law_311 rfl ?_
  refine aw_eqh (h2 := HM mo mw mr ms mt mu dd wi hi gt sp ta li sr co (HC m0 sh rr ww so sc pl qo pn bm tg px fa (LB f))) (comm LB_z) ?_
  refine aw_callV dL_law_312 at_mod cvL_66 rfl (kF_X11_place (mo) (mw) (mr) (ms) (mt) (mu) (dd) (wi) (hi) (gt) (sp) (ta) (li) (sr) (co) (HC (m0) (sh) (rr) (ww) (so) (sc) (pl) (qo) (pn) (bm) (tg) (px) (fa) (LB f)) 44  (by rw [e2]; exact okne)) rfl (Nat.le_of_ble_eq_true rfl) (Nat.le_of_ble_eq_true rfl) (Nat.le_of_ble_eq_true rfl) (show _ + 0 ≤ 601024 by omega) (show _ + 0 ≤ 7293034 by omega) (fun _ _ _ hf => False.elim hf) (fun r312 h312 n312 hp312 => ?_)
  obtain ⟨z312, s312, e312, rfl, rfl, rfl⟩ := hp312
  obtain ⟨rfl, rfl⟩ := fokI (e2.symm.trans e312)
  refine aw_eqh (h2 := HC m0 sh rr ww so sc pl qo pn bm tg px fa (HM s2 mw mr ms mt mu dd wi hi gt sp ta li sr co (LB f))) (comm LB_z).symm ?_
  refine aw_icmp_eq (tgt := 1010) dL_law_315 (by decide) (fun _ => ?_) (fun c => absurd rfl c)
  exact aw_lv _ (List.forall_mem_cons.mpr ⟨rfl, (List.forall_mem_cons.mpr ⟨rfl, (List.forall_mem_cons.mpr ⟨rfl, (List.forall_mem_cons.mpr ⟨rfl, (List.forall_mem_cons.mpr ⟨rfl, fun _ h => absurd h List.not_mem_nil⟩)⟩)⟩)⟩)⟩) (aw_wide (by omega) (by omega) (kk (m0) (sh) (rr) (ww) (so) (sc) (pl) (qo) (pn) (bm) (tg) (px) (fa) (s2) (mw) (mr) (ms) (mt) (mu) (dd) (wi) (hi) (gt) (sp) (ta) (li) (sr) (co) f hI2))
set_option maxHeartbeats 2000000 in
set_option maxRecDepth 100000 in
theorem law_told {b L : Nat} {xs : Nat → Int32} {nm : String} {t : List (Nat × Nat × Nat × Nat)} {I : IV} (S : S_told I) (i : Int32) (hix : ∀ d : Int32, d = 1 ∨ d = 2 ∨ d = 3 ∨ d = 4 ∨ d = 5 ∨ d = 6 → vp_in (i + d) L) (k j : Nat) (hk : k + 1 ≤ 601024) (hj : j + 6 ≤ 7293034) (m0 : Mnt) (sh : Nat → Nat) (rr : Nat → Ras) (ww : Nat → Row) (so : Nat) (sc : Src) (pl : Pal) (qo : Qoi) (pn : Pnm) (bm : Bmp) (tg : Tga) (px : Pcx) (fa : A) (mo : MO) (mw : MW) (mr : MR) (ms : Nat) (mt : A) (mu : A) (dd : A) (wi : A) (hi : A) (gt : A) (sp : A) (ta : A) (li : A) (sr : A) (co : A) (f : Nat → Int64) (hI : I m0 sh rr ww so sc pl qo pn bm tg px fa mo mw mr ms mt mu dd wi hi gt sp ta li sr co) (kk : ∀ (m0 : Mnt) (sh : Nat → Nat) (rr : Nat → Ras) (ww : Nat → Row) (so : Nat) (sc : Src) (pl : Pal) (qo : Qoi) (pn : Pnm) (bm : Bmp) (tg : Tga) (px : Pcx) (fa : A) (mo : MO) (mw : MW) (mr : MR) (ms : Nat) (mt : A) (mu : A) (dd : A) (wi : A) (hi : A) (gt : A) (sp : A) (ta : A) (li : A) (sr : A) (co : A) (f : Nat → Int64), I m0 sh rr ww so sc pl qo pn bm tg px fa mo mw mr ms mt mu dd wi hi gt sp ta li sr co → LW b L xs nm t (k + 1) (j + 6) 1010 i (HC m0 sh rr ww so sc pl qo pn bm tg px fa (HM mo mw mr ms mt mu dd wi hi gt sp ta li sr co (LB f)))) : LW b L xs nm t k j 320 i (HC m0 sh rr ww so sc pl qo pn bm tg px fa (HM mo mw mr ms mt mu dd wi hi gt sp ta li sr co (LB f))) := by
  obtain ⟨z, s, s2, e1, e2, hI2⟩ := S m0 sh rr ww so sc pl qo pn bm tg px fa mo mw mr ms mt mu dd wi hi gt sp ta li sr co hI (xs (Int32.toNatClampNeg (i + 1)))
  refine aw_aload_n dL_law_320 rfl ?_
  refine aw_aload_nA dL_law_321 rfl ?_
  refine aw_iload dL_law_322 rfl ?_
  refine aw_iconst (v := 1) dL_law_324 (by decide) ?_
  refine aw_iadd dL_law_325 ?_
  refine aw_sld (L := L) (xs := xs) dL_law_326 (fun _ _ h => h) (hix 1 (by decide)) ?_
  refine aw_callV dL_law_327 at_mint cvL_67 rfl (kF_X10_told (m0) (sh) (rr) (ww) (so) (sc) (pl) (qo) (pn) (bm) (tg) (px) (fa) (HM (mo) (mw) (mr) (ms) (mt) (mu) (dd) (wi) (hi) (gt) (sp) (ta) (li) (sr) (co) (LB f)) 44 (xs (Int32.toNatClampNeg (i + 1))) (by rw [e1]; exact okne)) rfl (Nat.le_of_ble_eq_true rfl) (Nat.le_of_ble_eq_true rfl) (Nat.le_of_ble_eq_true rfl) (show k + 0 ≤ 601024 by omega) (show j + 0 ≤ 7293034 by omega) (fun _ _ _ hf => False.elim hf) (fun r327 h327 n327 hp327 => ?_)
  obtain ⟨z327, s327, e327, rfl, rfl, rfl⟩ := hp327
  obtain ⟨rfl, rfl⟩ := fokI (e1.symm.trans e327)
  refine aw_eqh (h2 := HC m0 sh rr ww so sc pl qo pn bm tg px fa (HM mo mw mr ms mt mu dd wi hi gt sp ta li sr co (LB f))) rfl ?_
  refine aw_aload_n dL_law_330 rfl ?_
  refine aw_aload_nA dL_law_331 rfl ?_
  refine aw_iload dL_law_332 rfl ?_
  refine aw_iconst (v := 1) dL_law_334 (by decide) ?_
  refine aw_iadd dL_law_335 ?_
  refine aw_sld (L := L) (xs := xs) dL_law_336 (fun _ _ h => h) (hix 1 (by decide)) ?_
  refine aw_eqh (h2 := HM mo mw mr ms mt mu dd wi hi gt sp ta li sr co (HC m0 sh rr ww so sc pl qo pn bm tg px fa (LB f))) (comm LB_z) ?_
  refine aw_callV dL_law_337 at_mod cvL_71 rfl (kF_X11_told (mo) (mw) (mr) (ms) (mt) (mu) (dd) (wi) (hi) (gt) (sp) (ta) (li) (sr) (co) (HC (m0) (sh) (rr) (ww) (so) (sc) (pl) (qo) (pn) (bm) (tg) (px) (fa) (LB f)) 44 (xs (Int32.toNatClampNeg (i + 1))) (by rw [e2]; exact okne)) rfl (Nat.le_of_ble_eq_true rfl) (Nat.le_of_ble_eq_true rfl) (Nat.le_of_ble_eq_true rfl) (show _ + 0 ≤ 601024 by omega) (show _ + 0 ≤ 7293034 by omega) (fun _ _ _ hf => False.elim hf) (fun r337 h337 n337 hp337 => ?_)
  obtain ⟨z337, s337, e337, rfl, rfl, rfl⟩ := hp337
  obtain ⟨rfl, rfl⟩ := fokI (e2.symm.trans e337)
  refine aw_eqh (h2 := HC m0 sh rr ww so sc pl qo pn bm tg px fa (HM s2 mw mr ms mt mu dd wi hi gt sp ta li sr co (LB f))) (comm LB_z).symm ?_
  refine aw_icmp_eq (tgt := 1010) dL_law_340 (by decide) (fun _ => ?_) (fun c => absurd rfl c)
  exact aw_lv _ (List.forall_mem_cons.mpr ⟨rfl, (List.forall_mem_cons.mpr ⟨rfl, (List.forall_mem_cons.mpr ⟨rfl, (List.forall_mem_cons.mpr ⟨rfl, (List.forall_mem_cons.mpr ⟨rfl, fun _ h => absurd h List.not_mem_nil⟩)⟩)⟩)⟩)⟩) (aw_wide (by omega) (by omega) (kk (m0) (sh) (rr) (ww) (so) (sc) (pl) (qo) (pn) (bm) (tg) (px) (fa) (s2) (mw) (mr) (ms) (mt) (mu) (dd) (wi) (hi) (gt) (sp) (ta) (li) (sr) (co) f hI2))
set_option maxHeartbeats 2000000 in
set_option maxRecDepth 100000 in
theorem law_write {b L : Nat} {xs : Nat → Int32} {nm : String} {t : List (Nat × Nat × Nat × Nat)} {I : IV} (S : S_write I) (i : Int32) (hix : ∀ d : Int32, d = 1 ∨ d = 2 ∨ d = 3 ∨ d = 4 ∨ d = 5 ∨ d = 6 → vp_in (i + d) L) (k j : Nat) (hk : k + 1 ≤ 601024) (hj : j + 6 ≤ 7293034) (m0 : Mnt) (sh : Nat → Nat) (rr : Nat → Ras) (ww : Nat → Row) (so : Nat) (sc : Src) (pl : Pal) (qo : Qoi) (pn : Pnm) (bm : Bmp) (tg : Tga) (px : Pcx) (fa : A) (mo : MO) (mw : MW) (mr : MR) (ms : Nat) (mt : A) (mu : A) (dd : A) (wi : A) (hi : A) (gt : A) (sp : A) (ta : A) (li : A) (sr : A) (co : A) (f : Nat → Int64) (hI : I m0 sh rr ww so sc pl qo pn bm tg px fa mo mw mr ms mt mu dd wi hi gt sp ta li sr co) (kk : ∀ (m0 : Mnt) (sh : Nat → Nat) (rr : Nat → Ras) (ww : Nat → Row) (so : Nat) (sc : Src) (pl : Pal) (qo : Qoi) (pn : Pnm) (bm : Bmp) (tg : Tga) (px : Pcx) (fa : A) (mo : MO) (mw : MW) (mr : MR) (ms : Nat) (mt : A) (mu : A) (dd : A) (wi : A) (hi : A) (gt : A) (sp : A) (ta : A) (li : A) (sr : A) (co : A) (f : Nat → Int64), I m0 sh rr ww so sc pl qo pn bm tg px fa mo mw mr ms mt mu dd wi hi gt sp ta li sr co → LW b L xs nm t (k + 1) (j + 6) 1010 i (HC m0 sh rr ww so sc pl qo pn bm tg px fa (HM mo mw mr ms mt mu dd wi hi gt sp ta li sr co (LB f)))) : LW b L xs nm t k j 345 i (HC m0 sh rr ww so sc pl qo pn bm tg px fa (HM mo mw mr ms mt mu dd wi hi gt sp ta li sr co (LB f))) := by
  obtain ⟨z, s, s2, e1, e2, hI2⟩ := S m0 sh rr ww so sc pl qo pn bm tg px fa mo mw mr ms mt mu dd wi hi gt sp ta li sr co hI (xs (Int32.toNatClampNeg (i + 1))) (xs (Int32.toNatClampNeg (i + 2)))
  refine aw_aload_n dL_law_345 rfl ?_
  refine aw_aload_nA dL_law_346 rfl ?_
  refine aw_iload dL_law_347 rfl ?_
  refine aw_iconst (v := 1) dL_law_349 (by decide) ?_
  refine aw_iadd dL_law_350 ?_
  refine aw_sld (L := L) (xs := xs) dL_law_351 (fun _ _ h => h) (hix 1 (by decide)) ?_
  refine aw_aload_nA dL_law_352 rfl ?_
  refine aw_iload dL_law_353 rfl ?_
  refine aw_iconst (v := 2) dL_law_355 (by decide) ?_
  refine aw_iadd dL_law_356 ?_
  refine aw_sld (L := L) (xs := xs) dL_law_357 (fun _ _ h => h) (hix 2 (by decide)) ?_
  refine aw_callV dL_law_358 at_mint cvL_72 rfl (kF_X10_write (m0) (sh) (rr) (ww) (so) (sc) (pl) (qo) (pn) (bm) (tg) (px) (fa) (HM (mo) (mw) (mr) (ms) (mt) (mu) (dd) (wi) (hi) (gt) (sp) (ta) (li) (sr) (co) (LB f)) 44 (xs (Int32.toNatClampNeg (i + 1))) (xs (Int32.toNatClampNeg (i + 2))) (by rw [e1]; exact okne)) rfl (Nat.le_of_ble_eq_true rfl) (Nat.le_of_ble_eq_true rfl) (Nat.le_of_ble_eq_true rfl) (show k + 0 ≤ 601024 by omega) (show j + 0 ≤ 7293034 by omega) (fun _ _ _ hf => False.elim hf) (fun r358 h358 n358 hp358 => ?_)
  obtain ⟨z358, s358, e358, rfl, rfl, rfl⟩ := hp358
  obtain ⟨rfl, rfl⟩ := fokI (e1.symm.trans e358)
  refine aw_eqh (h2 := HC m0 sh rr s.1 so sc s.2.1 s.2.2 pn bm tg px fa (HM mo mw mr ms mt mu dd wi hi gt sp ta li sr co (LB f))) rfl ?_
  refine aw_aload_n dL_law_361 rfl ?_
  refine aw_aload_nA dL_law_362 rfl ?_
  refine aw_iload dL_law_363 rfl ?_
  refine aw_iconst (v := 1) dL_law_365 (by decide) ?_
  refine aw_iadd dL_law_366 ?_
  refine aw_sld (L := L) (xs := xs) dL_law_367 (fun _ _ h => h) (hix 1 (by decide)) ?_
  refine aw_aload_nA dL_law_368 rfl ?_
  refine aw_iload dL_law_369 rfl ?_
  refine aw_iconst (v := 2) dL_law_371 (by decide) ?_
  refine aw_iadd dL_law_372 ?_
  refine aw_sld (L := L) (xs := xs) dL_law_373 (fun _ _ h => h) (hix 2 (by decide)) ?_
  refine aw_eqh (h2 := HM mo mw mr ms mt mu dd wi hi gt sp ta li sr co (HC m0 sh rr s.1 so sc s.2.1 s.2.2 pn bm tg px fa (LB f))) (comm LB_z) ?_
  refine aw_callV dL_law_374 at_mod cvL_75 rfl (kF_X11_write (mo) (mw) (mr) (ms) (mt) (mu) (dd) (wi) (hi) (gt) (sp) (ta) (li) (sr) (co) (HC (m0) (sh) (rr) (s.1) (so) (sc) (s.2.1) (s.2.2) (pn) (bm) (tg) (px) (fa) (LB f)) 44 (xs (Int32.toNatClampNeg (i + 1))) (xs (Int32.toNatClampNeg (i + 2))) (by rw [e2]; exact okne)) rfl (Nat.le_of_ble_eq_true rfl) (Nat.le_of_ble_eq_true rfl) (Nat.le_of_ble_eq_true rfl) (show _ + 0 ≤ 601024 by omega) (show _ + 0 ≤ 7293034 by omega) (fun _ _ _ hf => False.elim hf) (fun r374 h374 n374 hp374 => ?_)
  obtain ⟨z374, s374, e374, rfl, rfl, rfl⟩ := hp374
  obtain ⟨rfl, rfl⟩ := fokI (e2.symm.trans e374)
  refine aw_eqh (h2 := HC m0 sh rr s.1 so sc s.2.1 s.2.2 pn bm tg px fa (HM s2.1 s2.2.1 mr ms mt s2.2.2.1 dd wi hi gt s2.2.2.2.1 ta li s2.2.2.2.2.1 s2.2.2.2.2.2 (LB f))) (comm LB_z).symm ?_
  refine aw_icmp_eq (tgt := 1010) dL_law_377 (by decide) (fun _ => ?_) (fun c => absurd rfl c)
  exact aw_lv _ (List.forall_mem_cons.mpr ⟨rfl, (List.forall_mem_cons.mpr ⟨rfl, (List.forall_mem_cons.mpr ⟨rfl, (List.forall_mem_cons.mpr ⟨rfl, (List.forall_mem_cons.mpr ⟨rfl, fun _ h => absurd h List.not_mem_nil⟩)⟩)⟩)⟩)⟩) (aw_wide (by omega) (by omega) (kk (m0) (sh) (rr) (s.1) (so) (sc) (s.2.1) (s.2.2) (pn) (bm) (tg) (px) (fa) (s2.1) (s2.2.1) (mr) (ms) (mt) (s2.2.2.1) (dd) (wi) (hi) (gt) (s2.2.2.2.1) (ta) (li) (s2.2.2.2.2.1) (s2.2.2.2.2.2) f hI2))
set_option maxHeartbeats 2000000 in
set_option maxRecDepth 100000 in
theorem law_byteAt {b L : Nat} {xs : Nat → Int32} {nm : String} {t : List (Nat × Nat × Nat × Nat)} {I : IV} (S : S_byteAt I) (i : Int32) (hix : ∀ d : Int32, d = 1 ∨ d = 2 ∨ d = 3 ∨ d = 4 ∨ d = 5 ∨ d = 6 → vp_in (i + d) L) (k j : Nat) (hk : k + 1 ≤ 601024) (hj : j + 6 ≤ 7293034) (m0 : Mnt) (sh : Nat → Nat) (rr : Nat → Ras) (ww : Nat → Row) (so : Nat) (sc : Src) (pl : Pal) (qo : Qoi) (pn : Pnm) (bm : Bmp) (tg : Tga) (px : Pcx) (fa : A) (mo : MO) (mw : MW) (mr : MR) (ms : Nat) (mt : A) (mu : A) (dd : A) (wi : A) (hi : A) (gt : A) (sp : A) (ta : A) (li : A) (sr : A) (co : A) (f : Nat → Int64) (hI : I m0 sh rr ww so sc pl qo pn bm tg px fa mo mw mr ms mt mu dd wi hi gt sp ta li sr co) (kk : ∀ (m0 : Mnt) (sh : Nat → Nat) (rr : Nat → Ras) (ww : Nat → Row) (so : Nat) (sc : Src) (pl : Pal) (qo : Qoi) (pn : Pnm) (bm : Bmp) (tg : Tga) (px : Pcx) (fa : A) (mo : MO) (mw : MW) (mr : MR) (ms : Nat) (mt : A) (mu : A) (dd : A) (wi : A) (hi : A) (gt : A) (sp : A) (ta : A) (li : A) (sr : A) (co : A) (f : Nat → Int64), I m0 sh rr ww so sc pl qo pn bm tg px fa mo mw mr ms mt mu dd wi hi gt sp ta li sr co → LW b L xs nm t (k + 1) (j + 6) 1010 i (HC m0 sh rr ww so sc pl qo pn bm tg px fa (HM mo mw mr ms mt mu dd wi hi gt sp ta li sr co (LB f)))) : LW b L xs nm t k j 382 i (HC m0 sh rr ww so sc pl qo pn bm tg px fa (HM mo mw mr ms mt mu dd wi hi gt sp ta li sr co (LB f))) := by
  obtain ⟨z, s, s2, e1, e2, hI2⟩ := S m0 sh rr ww so sc pl qo pn bm tg px fa mo mw mr ms mt mu dd wi hi gt sp ta li sr co hI (xs (Int32.toNatClampNeg (i + 1)))
  refine aw_aload_n dL_law_382 rfl ?_
  refine aw_aload_nA dL_law_383 rfl ?_
  refine aw_iload dL_law_384 rfl ?_
  refine aw_iconst (v := 1) dL_law_386 (by decide) ?_
  refine aw_iadd dL_law_387 ?_
  refine aw_sld (L := L) (xs := xs) dL_law_388 (fun _ _ h => h) (hix 1 (by decide)) ?_
  refine aw_callV dL_law_389 at_mint cvL_76 rfl (kF_X10_byteAt (m0) (sh) (rr) (ww) (so) (sc) (pl) (qo) (pn) (bm) (tg) (px) (fa) (HM (mo) (mw) (mr) (ms) (mt) (mu) (dd) (wi) (hi) (gt) (sp) (ta) (li) (sr) (co) (LB f)) 44 (xs (Int32.toNatClampNeg (i + 1))) (by rw [e1]; exact okne)) rfl (Nat.le_of_ble_eq_true rfl) (Nat.le_of_ble_eq_true rfl) (Nat.le_of_ble_eq_true rfl) (show k + 0 ≤ 601024 by omega) (show j + 0 ≤ 7293034 by omega) (fun _ _ _ hf => False.elim hf) (fun r389 h389 n389 hp389 => ?_)
  obtain ⟨z389, s389, e389, rfl, rfl, rfl⟩ := hp389
  obtain ⟨rfl, rfl⟩ := fokI (e1.symm.trans e389)
  refine aw_eqh (h2 := HC m0 sh rr ww so sc pl qo pn bm tg px fa (HM mo mw mr ms mt mu dd wi hi gt sp ta li sr co (LB f))) rfl ?_
  refine aw_aload_n dL_law_392 rfl ?_
  refine aw_aload_nA dL_law_393 rfl ?_
  refine aw_iload dL_law_394 rfl ?_
  refine aw_iconst (v := 1) dL_law_396 (by decide) ?_
  refine aw_iadd dL_law_397 ?_
  refine aw_sld (L := L) (xs := xs) dL_law_398 (fun _ _ h => h) (hix 1 (by decide)) ?_
  refine aw_eqh (h2 := HM mo mw mr ms mt mu dd wi hi gt sp ta li sr co (HC m0 sh rr ww so sc pl qo pn bm tg px fa (LB f))) (comm LB_z) ?_
  refine aw_callV dL_law_399 at_mod cvL_79 rfl (kF_X11_byteAt (mo) (mw) (mr) (ms) (mt) (mu) (dd) (wi) (hi) (gt) (sp) (ta) (li) (sr) (co) (HC (m0) (sh) (rr) (ww) (so) (sc) (pl) (qo) (pn) (bm) (tg) (px) (fa) (LB f)) 44 (xs (Int32.toNatClampNeg (i + 1))) (by rw [e2]; exact okne)) rfl (Nat.le_of_ble_eq_true rfl) (Nat.le_of_ble_eq_true rfl) (Nat.le_of_ble_eq_true rfl) (show _ + 0 ≤ 601024 by omega) (show _ + 0 ≤ 7293034 by omega) (fun _ _ _ hf => False.elim hf) (fun r399 h399 n399 hp399 => ?_)
  obtain ⟨z399, s399, e399, rfl, rfl, rfl⟩ := hp399
  obtain ⟨rfl, rfl⟩ := fokI (e2.symm.trans e399)
  refine aw_eqh (h2 := HC m0 sh rr ww so sc pl qo pn bm tg px fa (HM s2 mw mr ms mt mu dd wi hi gt sp ta li sr co (LB f))) (comm LB_z).symm ?_
  refine aw_icmp_eq (tgt := 1010) dL_law_402 (by decide) (fun _ => ?_) (fun c => absurd rfl c)
  exact aw_lv _ (List.forall_mem_cons.mpr ⟨rfl, (List.forall_mem_cons.mpr ⟨rfl, (List.forall_mem_cons.mpr ⟨rfl, (List.forall_mem_cons.mpr ⟨rfl, (List.forall_mem_cons.mpr ⟨rfl, fun _ h => absurd h List.not_mem_nil⟩)⟩)⟩)⟩)⟩) (aw_wide (by omega) (by omega) (kk (m0) (sh) (rr) (ww) (so) (sc) (pl) (qo) (pn) (bm) (tg) (px) (fa) (s2) (mw) (mr) (ms) (mt) (mu) (dd) (wi) (hi) (gt) (sp) (ta) (li) (sr) (co) f hI2))
set_option maxHeartbeats 2000000 in
set_option maxRecDepth 100000 in
theorem law_bytes {b L : Nat} {xs : Nat → Int32} {nm : String} {t : List (Nat × Nat × Nat × Nat)} {I : IV} (S : S_bytes I) (i : Int32) (hix : ∀ d : Int32, d = 1 ∨ d = 2 ∨ d = 3 ∨ d = 4 ∨ d = 5 ∨ d = 6 → vp_in (i + d) L) (k j : Nat) (hk : k + 1 ≤ 601024) (hj : j + 6 ≤ 7293034) (m0 : Mnt) (sh : Nat → Nat) (rr : Nat → Ras) (ww : Nat → Row) (so : Nat) (sc : Src) (pl : Pal) (qo : Qoi) (pn : Pnm) (bm : Bmp) (tg : Tga) (px : Pcx) (fa : A) (mo : MO) (mw : MW) (mr : MR) (ms : Nat) (mt : A) (mu : A) (dd : A) (wi : A) (hi : A) (gt : A) (sp : A) (ta : A) (li : A) (sr : A) (co : A) (f : Nat → Int64) (hI : I m0 sh rr ww so sc pl qo pn bm tg px fa mo mw mr ms mt mu dd wi hi gt sp ta li sr co) (kk : ∀ (m0 : Mnt) (sh : Nat → Nat) (rr : Nat → Ras) (ww : Nat → Row) (so : Nat) (sc : Src) (pl : Pal) (qo : Qoi) (pn : Pnm) (bm : Bmp) (tg : Tga) (px : Pcx) (fa : A) (mo : MO) (mw : MW) (mr : MR) (ms : Nat) (mt : A) (mu : A) (dd : A) (wi : A) (hi : A) (gt : A) (sp : A) (ta : A) (li : A) (sr : A) (co : A) (f : Nat → Int64), I m0 sh rr ww so sc pl qo pn bm tg px fa mo mw mr ms mt mu dd wi hi gt sp ta li sr co → LW b L xs nm t (k + 1) (j + 6) 1010 i (HC m0 sh rr ww so sc pl qo pn bm tg px fa (HM mo mw mr ms mt mu dd wi hi gt sp ta li sr co (LB f)))) : LW b L xs nm t k j 407 i (HC m0 sh rr ww so sc pl qo pn bm tg px fa (HM mo mw mr ms mt mu dd wi hi gt sp ta li sr co (LB f))) := by
  obtain ⟨bv, s2, e2, hd⟩ := S m0 sh rr ww so sc pl qo pn bm tg px fa mo mw mr ms mt mu dd wi hi gt sp ta li sr co hI (xs (Int32.toNatClampNeg (i + 1)))
  refine aw_aload_n dL_law_407 rfl ?_
  refine aw_aload_nA dL_law_408 rfl ?_
  refine aw_iload dL_law_409 rfl ?_
  refine aw_iconst (v := 1) dL_law_411 (by decide) ?_
  refine aw_iadd dL_law_412 ?_
  refine aw_sld (L := L) (xs := xs) dL_law_413 (fun _ _ h => h) (hix 1 (by decide)) ?_
  refine aw_aload_n dL_law_414 rfl ?_
  have hF : F_X10_bytes (xs (Int32.toNatClampNeg (i + 1))) ww ≠ fno ∧ ∀ E s, F_X10_bytes (xs (Int32.toNatClampNeg (i + 1))) ww = fex E s → E = "java/util/NoSuchElementException" := by
    rcases hd with ⟨s, e1, -⟩ | ⟨s, e1, -⟩
    · exact ⟨by rw [e1]; exact okne, fun E s h => (okex (e1.symm.trans h)).elim⟩
    · exact ⟨by rw [e1]; exact exne, fun E s h => (exI (e1.symm.trans h)).symm⟩
  refine aw_callSX dL_law_415 cxL_80 rfl (kL_bytes m0 sh rr ww so sc pl qo pn bm tg px fa mo mw mr ms mt mu dd wi hi gt sp ta li sr co f 44 (xs (Int32.toNatClampNeg (i + 1))) hF.1 hF.2) rfl (Nat.le_of_ble_eq_true rfl) (Nat.le_of_ble_eq_true rfl) (Nat.le_of_ble_eq_true rfl) (show k + 1 ≤ 601024 by omega) (show j + 6 ≤ 7293034 by omega) (fun _ _ _ hf => False.elim hf) (fun r415 h415 n415 hp415 => ?_)
  rcases hd with ⟨s, e1, e3, hI2⟩ | ⟨s, e1, e3, hI2⟩
  · rcases hp415 with ⟨z415, s415, e415, rfl, rfl, rfl⟩ | ⟨s415, e415, rfl, rfl, rfl⟩
    · obtain ⟨rfl, rfl⟩ := fokI (e1.symm.trans e415)
      refine aw_istore (lv2 := [(5, _), (0, _), (1, _), (2, _), (3, _), (4, _)]) dL_law_418 (Nat.le_of_ble_eq_true rfl) rfl ?_
      refine aw_aload_n dL_law_420 rfl ?_
      refine aw_aload_nA dL_law_421 rfl ?_
      refine aw_iload dL_law_422 rfl ?_
      refine aw_iconst (v := 1) dL_law_424 (by decide) ?_
      refine aw_iadd dL_law_425 ?_
      refine aw_sld (L := L) (xs := xs) dL_law_426 (fun _ _ h => h) (hix 1 (by decide)) ?_
      refine aw_eqh (h2 := HM mo mw mr ms mt mu dd wi hi gt sp ta li sr co (HC m0 sh rr ww so sc pl qo pn bm tg px fa (LB (vp_updL f (Int32.toNatClampNeg 0) bv)))) (comm LB_z) ?_
      refine aw_callV dL_law_427 at_mod cvL_83 rfl (kF_X11_bytes (mo) (mw) (mr) (ms) (mt) (mu) (dd) (wi) (hi) (gt) (sp) (ta) (li) (sr) (co) (HC (m0) (sh) (rr) (ww) (so) (sc) (pl) (qo) (pn) (bm) (tg) (px) (fa) (LB (vp_updL f (Int32.toNatClampNeg 0) bv))) 44 (xs (Int32.toNatClampNeg (i + 1))) (by rw [e2]; exact okne)) rfl (Nat.le_of_ble_eq_true rfl) (Nat.le_of_ble_eq_true rfl) (Nat.le_of_ble_eq_true rfl) (show _ + 0 ≤ 601024 by omega) (show _ + 0 ≤ 7293034 by omega) (fun _ _ _ hf => False.elim hf) (fun r427 h427 n427 hp427 => ?_)
      obtain ⟨z427, s427, e427, rfl, rfl, rfl⟩ := hp427
      obtain ⟨rfl, rfl⟩ := fokI (e2.symm.trans e427)
      refine aw_eqh (h2 := HC m0 sh rr ww so sc pl qo pn bm tg px fa (HM s2 mw mr ms mt mu dd wi hi gt sp ta li sr co (LB (vp_updL f (Int32.toNatClampNeg 0) bv)))) (comm LB_z).symm ?_
      refine aw_lstore (lv2 := [(6, _), (5, _), (0, _), (1, _), (2, _), (3, _), (4, _)]) dL_law_430 (Nat.le_of_ble_eq_true rfl) rfl ?_
      refine aw_aload_n dL_law_432 rfl ?_
      refine aw_eqh (h2 := HM s2 mw mr ms mt mu dd wi hi gt sp ta li sr co (HC m0 sh rr ww so sc pl qo pn bm tg px fa (LB (vp_updL f (Int32.toNatClampNeg 0) bv)))) (comm LB_z) ?_
      refine aw_callV dL_law_433 at_mod cvL_60 rfl (kF_X11_thrown (s2) (mw) (mr) (ms) (mt) (mu) (dd) (wi) (hi) (gt) (sp) (ta) (li) (sr) (co) (HC (m0) (sh) (rr) (ww) (so) (sc) (pl) (qo) (pn) (bm) (tg) (px) (fa) (LB (vp_updL f (Int32.toNatClampNeg 0) bv))) 44  (by rw [e3]; exact okne)) rfl (Nat.le_of_ble_eq_true rfl) (Nat.le_of_ble_eq_true rfl) (Nat.le_of_ble_eq_true rfl) (show _ + 0 ≤ 601024 by omega) (show _ + 0 ≤ 7293034 by omega) (fun _ _ _ hf => False.elim hf) (fun r433 h433 n433 hp433 => ?_)
      obtain ⟨z433, s433, e433, rfl, rfl, rfl⟩ := hp433
      obtain ⟨rfl, rfl⟩ := fokI (e3.symm.trans e433)
      refine aw_eqh (h2 := HC m0 sh rr ww so sc pl qo pn bm tg px fa (HM s2 mw mr ms mt mu dd wi hi gt sp ta li sr co (LB (vp_updL f (Int32.toNatClampNeg 0) bv)))) (comm LB_z).symm ?_
      refine aw_iload dL_law_436 rfl ?_
      refine aw_icmp_eq (tgt := 443) dL_law_438 (by decide) (fun _ => ?_) (fun c => absurd rfl c)
      refine aw_iload dL_law_443 rfl ?_
      refine aw_if_ne (tgt := 459) dL_law_445 (by decide) (fun c => absurd rfl c) (fun _ => ?_)
      refine aw_aload_n dL_law_448 rfl ?_
      refine aw_iconst (v := 0) dL_law_449 (by decide) ?_
      refine aw_lald dL_law_450 at_out (vp_in_iff.mpr (by decide)) ?_
      refine aw_lload dL_law_451 rfl ?_
      refine aw_lcmp dL_law_453 ?_
      rw [updL_same, lgc]
      refine aw_if_eq (tgt := 459) dL_law_454 (by decide) (fun _ => ?_) (fun c => absurd rfl c)
      refine aw_goto (tgt := 1010) dL_law_459 (by decide) ?_
      exact aw_lv _ (List.forall_mem_cons.mpr ⟨rfl, (List.forall_mem_cons.mpr ⟨rfl, (List.forall_mem_cons.mpr ⟨rfl, (List.forall_mem_cons.mpr ⟨rfl, (List.forall_mem_cons.mpr ⟨rfl, fun _ h => absurd h List.not_mem_nil⟩)⟩)⟩)⟩)⟩) (aw_wide (by omega) (by omega) (kk (m0) (sh) (rr) (ww) (so) (sc) (pl) (qo) (pn) (bm) (tg) (px) (fa) (s2) (mw) (mr) (ms) (mt) (mu) (dd) (wi) (hi) (gt) (sp) (ta) (li) (sr) (co) (vp_updL f (Int32.toNatClampNeg 0) bv) hI2))
    · exact (okex (e1.symm.trans e415)).elim
  · rcases hp415 with ⟨z415, s415, e415, rfl, rfl, rfl⟩ | ⟨s415, e415, rfl, rfl, rfl⟩
    · exact (okex (e415.symm.trans e1)).elim
    · obtain rfl := fexI (e1.symm.trans e415)
      refine aw_istore (lv2 := [(5, _), (0, _), (1, _), (2, _), (3, _), (4, _)]) dL_law_418 (Nat.le_of_ble_eq_true rfl) rfl ?_
      refine aw_aload_n dL_law_420 rfl ?_
      refine aw_aload_nA dL_law_421 rfl ?_
      refine aw_iload dL_law_422 rfl ?_
      refine aw_iconst (v := 1) dL_law_424 (by decide) ?_
      refine aw_iadd dL_law_425 ?_
      refine aw_sld (L := L) (xs := xs) dL_law_426 (fun _ _ h => h) (hix 1 (by decide)) ?_
      refine aw_eqh (h2 := HM mo mw mr ms mt mu dd wi hi gt sp ta li sr co (HC m0 sh rr ww so sc pl qo pn bm tg px fa (LB f))) (comm LB_z) ?_
      refine aw_callV dL_law_427 at_mod cvL_83 rfl (kF_X11_bytes (mo) (mw) (mr) (ms) (mt) (mu) (dd) (wi) (hi) (gt) (sp) (ta) (li) (sr) (co) (HC (m0) (sh) (rr) (ww) (so) (sc) (pl) (qo) (pn) (bm) (tg) (px) (fa) (LB f)) 44 (xs (Int32.toNatClampNeg (i + 1))) (by rw [e2]; exact okne)) rfl (Nat.le_of_ble_eq_true rfl) (Nat.le_of_ble_eq_true rfl) (Nat.le_of_ble_eq_true rfl) (show _ + 0 ≤ 601024 by omega) (show _ + 0 ≤ 7293034 by omega) (fun _ _ _ hf => False.elim hf) (fun r427 h427 n427 hp427 => ?_)
      obtain ⟨z427, s427, e427, rfl, rfl, rfl⟩ := hp427
      obtain ⟨rfl, rfl⟩ := fokI (e2.symm.trans e427)
      refine aw_eqh (h2 := HC m0 sh rr ww so sc pl qo pn bm tg px fa (HM s2 mw mr ms mt mu dd wi hi gt sp ta li sr co (LB f))) (comm LB_z).symm ?_
      refine aw_lstore (lv2 := [(6, _), (5, _), (0, _), (1, _), (2, _), (3, _), (4, _)]) dL_law_430 (Nat.le_of_ble_eq_true rfl) rfl ?_
      refine aw_aload_n dL_law_432 rfl ?_
      refine aw_eqh (h2 := HM s2 mw mr ms mt mu dd wi hi gt sp ta li sr co (HC m0 sh rr ww so sc pl qo pn bm tg px fa (LB f))) (comm LB_z) ?_
      refine aw_callV dL_law_433 at_mod cvL_60 rfl (kF_X11_thrown (s2) (mw) (mr) (ms) (mt) (mu) (dd) (wi) (hi) (gt) (sp) (ta) (li) (sr) (co) (HC (m0) (sh) (rr) (ww) (so) (sc) (pl) (qo) (pn) (bm) (tg) (px) (fa) (LB f)) 44  (by rw [e3]; exact okne)) rfl (Nat.le_of_ble_eq_true rfl) (Nat.le_of_ble_eq_true rfl) (Nat.le_of_ble_eq_true rfl) (show _ + 0 ≤ 601024 by omega) (show _ + 0 ≤ 7293034 by omega) (fun _ _ _ hf => False.elim hf) (fun r433 h433 n433 hp433 => ?_)
      obtain ⟨z433, s433, e433, rfl, rfl, rfl⟩ := hp433
      obtain ⟨rfl, rfl⟩ := fokI (e3.symm.trans e433)
      refine aw_eqh (h2 := HC m0 sh rr ww so sc pl qo pn bm tg px fa (HM s2 mw mr ms mt mu dd wi hi gt sp ta li sr co (LB f))) (comm LB_z).symm ?_
      refine aw_iload dL_law_436 rfl ?_
      refine aw_icmp_eq (tgt := 443) dL_law_438 (by decide) (fun _ => ?_) (fun c => absurd rfl c)
      refine aw_iload dL_law_443 rfl ?_
      refine aw_if_ne (tgt := 459) dL_law_445 (by decide) (fun _ => ?_) (fun c => absurd c (by decide))
      refine aw_goto (tgt := 1010) dL_law_459 (by decide) ?_
      exact aw_lv _ (List.forall_mem_cons.mpr ⟨rfl, (List.forall_mem_cons.mpr ⟨rfl, (List.forall_mem_cons.mpr ⟨rfl, (List.forall_mem_cons.mpr ⟨rfl, (List.forall_mem_cons.mpr ⟨rfl, fun _ h => absurd h List.not_mem_nil⟩)⟩)⟩)⟩)⟩) (aw_wide (by omega) (by omega) (kk (m0) (sh) (rr) (ww) (so) (sc) (pl) (qo) (pn) (bm) (tg) (px) (fa) (s2) (mw) (mr) (ms) (mt) (mu) (dd) (wi) (hi) (gt) (sp) (ta) (li) (sr) (co) f hI2))
set_option maxHeartbeats 2000000 in
set_option maxRecDepth 100000 in
theorem law_make {b L : Nat} {xs : Nat → Int32} {nm : String} {t : List (Nat × Nat × Nat × Nat)} {I : IV} (S : S_make I) (i : Int32) (hix : ∀ d : Int32, d = 1 ∨ d = 2 ∨ d = 3 ∨ d = 4 ∨ d = 5 ∨ d = 6 → vp_in (i + d) L) (k j : Nat) (hk : k + 1 ≤ 601024) (hj : j + 6 ≤ 7293034) (m0 : Mnt) (sh : Nat → Nat) (rr : Nat → Ras) (ww : Nat → Row) (so : Nat) (sc : Src) (pl : Pal) (qo : Qoi) (pn : Pnm) (bm : Bmp) (tg : Tga) (px : Pcx) (fa : A) (mo : MO) (mw : MW) (mr : MR) (ms : Nat) (mt : A) (mu : A) (dd : A) (wi : A) (hi : A) (gt : A) (sp : A) (ta : A) (li : A) (sr : A) (co : A) (f : Nat → Int64) (hI : I m0 sh rr ww so sc pl qo pn bm tg px fa mo mw mr ms mt mu dd wi hi gt sp ta li sr co) (kk : ∀ (m0 : Mnt) (sh : Nat → Nat) (rr : Nat → Ras) (ww : Nat → Row) (so : Nat) (sc : Src) (pl : Pal) (qo : Qoi) (pn : Pnm) (bm : Bmp) (tg : Tga) (px : Pcx) (fa : A) (mo : MO) (mw : MW) (mr : MR) (ms : Nat) (mt : A) (mu : A) (dd : A) (wi : A) (hi : A) (gt : A) (sp : A) (ta : A) (li : A) (sr : A) (co : A) (f : Nat → Int64), I m0 sh rr ww so sc pl qo pn bm tg px fa mo mw mr ms mt mu dd wi hi gt sp ta li sr co → LW b L xs nm t (k + 1) (j + 6) 1010 i (HC m0 sh rr ww so sc pl qo pn bm tg px fa (HM mo mw mr ms mt mu dd wi hi gt sp ta li sr co (LB f)))) : LW b L xs nm t k j 462 i (HC m0 sh rr ww so sc pl qo pn bm tg px fa (HM mo mw mr ms mt mu dd wi hi gt sp ta li sr co (LB f))) := by
  obtain ⟨z, s, s2, e1, e2, hI2⟩ := S m0 sh rr ww so sc pl qo pn bm tg px fa mo mw mr ms mt mu dd wi hi gt sp ta li sr co hI (xs (Int32.toNatClampNeg (i + 1))) (xs (Int32.toNatClampNeg (i + 2))) (xs (Int32.toNatClampNeg (i + 3))) (xs (Int32.toNatClampNeg (i + 4)))
  refine aw_aload_n dL_law_462 rfl ?_
  refine aw_aload_nA dL_law_463 rfl ?_
  refine aw_iload dL_law_464 rfl ?_
  refine aw_iconst (v := 1) dL_law_466 (by decide) ?_
  refine aw_iadd dL_law_467 ?_
  refine aw_sld (L := L) (xs := xs) dL_law_468 (fun _ _ h => h) (hix 1 (by decide)) ?_
  refine aw_aload_nA dL_law_469 rfl ?_
  refine aw_iload dL_law_470 rfl ?_
  refine aw_iconst (v := 2) dL_law_472 (by decide) ?_
  refine aw_iadd dL_law_473 ?_
  refine aw_sld (L := L) (xs := xs) dL_law_474 (fun _ _ h => h) (hix 2 (by decide)) ?_
  refine aw_aload_nA dL_law_475 rfl ?_
  refine aw_iload dL_law_476 rfl ?_
  refine aw_iconst (v := 3) dL_law_478 (by decide) ?_
  refine aw_iadd dL_law_479 ?_
  refine aw_sld (L := L) (xs := xs) dL_law_480 (fun _ _ h => h) (hix 3 (by decide)) ?_
  refine aw_aload_nA dL_law_481 rfl ?_
  refine aw_iload dL_law_482 rfl ?_
  refine aw_iconst (v := 4) dL_law_484 (by decide) ?_
  refine aw_iadd dL_law_485 ?_
  refine aw_sld (L := L) (xs := xs) dL_law_486 (fun _ _ h => h) (hix 4 (by decide)) ?_
  refine aw_callV dL_law_487 at_mint cvL_84 rfl (kF_X10_make (m0) (sh) (rr) (ww) (so) (sc) (pl) (qo) (pn) (bm) (tg) (px) (fa) (HM (mo) (mw) (mr) (ms) (mt) (mu) (dd) (wi) (hi) (gt) (sp) (ta) (li) (sr) (co) (LB f)) 44 (xs (Int32.toNatClampNeg (i + 1))) (xs (Int32.toNatClampNeg (i + 2))) (xs (Int32.toNatClampNeg (i + 3))) (xs (Int32.toNatClampNeg (i + 4))) (by rw [e1]; exact okne)) rfl (Nat.le_of_ble_eq_true rfl) (Nat.le_of_ble_eq_true rfl) (Nat.le_of_ble_eq_true rfl) (show k + 0 ≤ 601024 by omega) (show j + 0 ≤ 7293034 by omega) (fun _ _ _ hf => False.elim hf) (fun r487 h487 n487 hp487 => ?_)
  obtain ⟨z487, s487, e487, rfl, rfl, rfl⟩ := hp487
  obtain ⟨rfl, rfl⟩ := fokI (e1.symm.trans e487)
  refine aw_eqh (h2 := HC m0 sh s ww so sc pl qo pn bm tg px fa (HM mo mw mr ms mt mu dd wi hi gt sp ta li sr co (LB f))) rfl ?_
  refine aw_aload_n dL_law_490 rfl ?_
  refine aw_aload_nA dL_law_491 rfl ?_
  refine aw_iload dL_law_492 rfl ?_
  refine aw_iconst (v := 1) dL_law_494 (by decide) ?_
  refine aw_iadd dL_law_495 ?_
  refine aw_sld (L := L) (xs := xs) dL_law_496 (fun _ _ h => h) (hix 1 (by decide)) ?_
  refine aw_aload_nA dL_law_497 rfl ?_
  refine aw_iload dL_law_498 rfl ?_
  refine aw_iconst (v := 2) dL_law_500 (by decide) ?_
  refine aw_iadd dL_law_501 ?_
  refine aw_sld (L := L) (xs := xs) dL_law_502 (fun _ _ h => h) (hix 2 (by decide)) ?_
  refine aw_aload_nA dL_law_503 rfl ?_
  refine aw_iload dL_law_504 rfl ?_
  refine aw_iconst (v := 3) dL_law_506 (by decide) ?_
  refine aw_iadd dL_law_507 ?_
  refine aw_sld (L := L) (xs := xs) dL_law_508 (fun _ _ h => h) (hix 3 (by decide)) ?_
  refine aw_aload_nA dL_law_509 rfl ?_
  refine aw_iload dL_law_510 rfl ?_
  refine aw_iconst (v := 4) dL_law_512 (by decide) ?_
  refine aw_iadd dL_law_513 ?_
  refine aw_sld (L := L) (xs := xs) dL_law_514 (fun _ _ h => h) (hix 4 (by decide)) ?_
  refine aw_eqh (h2 := HM mo mw mr ms mt mu dd wi hi gt sp ta li sr co (HC m0 sh s ww so sc pl qo pn bm tg px fa (LB f))) (comm LB_z) ?_
  refine aw_callV dL_law_515 at_mod cvL_88 rfl (kF_X11_make (mo) (mw) (mr) (ms) (mt) (mu) (dd) (wi) (hi) (gt) (sp) (ta) (li) (sr) (co) (HC (m0) (sh) (s) (ww) (so) (sc) (pl) (qo) (pn) (bm) (tg) (px) (fa) (LB f)) 44 (xs (Int32.toNatClampNeg (i + 1))) (xs (Int32.toNatClampNeg (i + 2))) (xs (Int32.toNatClampNeg (i + 3))) (xs (Int32.toNatClampNeg (i + 4))) (by rw [e2]; exact okne)) rfl (Nat.le_of_ble_eq_true rfl) (Nat.le_of_ble_eq_true rfl) (Nat.le_of_ble_eq_true rfl) (show _ + 0 ≤ 601024 by omega) (show _ + 0 ≤ 7293034 by omega) (fun _ _ _ hf => False.elim hf) (fun r515 h515 n515 hp515 => ?_)
  obtain ⟨z515, s515, e515, rfl, rfl, rfl⟩ := hp515
  obtain ⟨rfl, rfl⟩ := fokI (e2.symm.trans e515)
  refine aw_eqh (h2 := HC m0 sh s ww so sc pl qo pn bm tg px fa (HM s2.1 mw mr ms mt mu s2.2.1 s2.2.2.1 s2.2.2.2 gt sp ta li sr co (LB f))) (comm LB_z).symm ?_
  refine aw_icmp_eq (tgt := 1010) dL_law_518 (by decide) (fun _ => ?_) (fun c => absurd rfl c)
  exact aw_lv _ (List.forall_mem_cons.mpr ⟨rfl, (List.forall_mem_cons.mpr ⟨rfl, (List.forall_mem_cons.mpr ⟨rfl, (List.forall_mem_cons.mpr ⟨rfl, (List.forall_mem_cons.mpr ⟨rfl, fun _ h => absurd h List.not_mem_nil⟩)⟩)⟩)⟩)⟩) (aw_wide (by omega) (by omega) (kk (m0) (sh) (s) (ww) (so) (sc) (pl) (qo) (pn) (bm) (tg) (px) (fa) (s2.1) (mw) (mr) (ms) (mt) (mu) (s2.2.1) (s2.2.2.1) (s2.2.2.2) (gt) (sp) (ta) (li) (sr) (co) f hI2))
set_option maxHeartbeats 2000000 in
set_option maxRecDepth 100000 in
theorem law_dot {b L : Nat} {xs : Nat → Int32} {nm : String} {t : List (Nat × Nat × Nat × Nat)} {I : IV} (S : S_dot I) (i : Int32) (hix : ∀ d : Int32, d = 1 ∨ d = 2 ∨ d = 3 ∨ d = 4 ∨ d = 5 ∨ d = 6 → vp_in (i + d) L) (k j : Nat) (hk : k + 1 ≤ 601024) (hj : j + 6 ≤ 7293034) (m0 : Mnt) (sh : Nat → Nat) (rr : Nat → Ras) (ww : Nat → Row) (so : Nat) (sc : Src) (pl : Pal) (qo : Qoi) (pn : Pnm) (bm : Bmp) (tg : Tga) (px : Pcx) (fa : A) (mo : MO) (mw : MW) (mr : MR) (ms : Nat) (mt : A) (mu : A) (dd : A) (wi : A) (hi : A) (gt : A) (sp : A) (ta : A) (li : A) (sr : A) (co : A) (f : Nat → Int64) (hI : I m0 sh rr ww so sc pl qo pn bm tg px fa mo mw mr ms mt mu dd wi hi gt sp ta li sr co) (kk : ∀ (m0 : Mnt) (sh : Nat → Nat) (rr : Nat → Ras) (ww : Nat → Row) (so : Nat) (sc : Src) (pl : Pal) (qo : Qoi) (pn : Pnm) (bm : Bmp) (tg : Tga) (px : Pcx) (fa : A) (mo : MO) (mw : MW) (mr : MR) (ms : Nat) (mt : A) (mu : A) (dd : A) (wi : A) (hi : A) (gt : A) (sp : A) (ta : A) (li : A) (sr : A) (co : A) (f : Nat → Int64), I m0 sh rr ww so sc pl qo pn bm tg px fa mo mw mr ms mt mu dd wi hi gt sp ta li sr co → LW b L xs nm t (k + 1) (j + 6) 1010 i (HC m0 sh rr ww so sc pl qo pn bm tg px fa (HM mo mw mr ms mt mu dd wi hi gt sp ta li sr co (LB f)))) : LW b L xs nm t k j 523 i (HC m0 sh rr ww so sc pl qo pn bm tg px fa (HM mo mw mr ms mt mu dd wi hi gt sp ta li sr co (LB f))) := by
  obtain ⟨bv, s2, e2, hd⟩ := S m0 sh rr ww so sc pl qo pn bm tg px fa mo mw mr ms mt mu dd wi hi gt sp ta li sr co hI (xs (Int32.toNatClampNeg (i + 1))) (xs (Int32.toNatClampNeg (i + 2))) (xs (Int32.toNatClampNeg (i + 3))) (xs (Int32.toNatClampNeg (i + 4)))
  refine aw_aload_n dL_law_523 rfl ?_
  refine aw_aload_nA dL_law_524 rfl ?_
  refine aw_iload dL_law_525 rfl ?_
  refine aw_iconst (v := 1) dL_law_527 (by decide) ?_
  refine aw_iadd dL_law_528 ?_
  refine aw_sld (L := L) (xs := xs) dL_law_529 (fun _ _ h => h) (hix 1 (by decide)) ?_
  refine aw_aload_nA dL_law_530 rfl ?_
  refine aw_iload dL_law_531 rfl ?_
  refine aw_iconst (v := 2) dL_law_533 (by decide) ?_
  refine aw_iadd dL_law_534 ?_
  refine aw_sld (L := L) (xs := xs) dL_law_535 (fun _ _ h => h) (hix 2 (by decide)) ?_
  refine aw_aload_nA dL_law_536 rfl ?_
  refine aw_iload dL_law_537 rfl ?_
  refine aw_iconst (v := 3) dL_law_539 (by decide) ?_
  refine aw_iadd dL_law_540 ?_
  refine aw_sld (L := L) (xs := xs) dL_law_541 (fun _ _ h => h) (hix 3 (by decide)) ?_
  refine aw_aload_nA dL_law_542 rfl ?_
  refine aw_iload dL_law_543 rfl ?_
  refine aw_iconst (v := 4) dL_law_545 (by decide) ?_
  refine aw_iadd dL_law_546 ?_
  refine aw_sld (L := L) (xs := xs) dL_law_547 (fun _ _ h => h) (hix 4 (by decide)) ?_
  refine aw_aload_n dL_law_548 rfl ?_
  have hF : F_X10_dot (xs (Int32.toNatClampNeg (i + 1))) (xs (Int32.toNatClampNeg (i + 2))) (xs (Int32.toNatClampNeg (i + 3))) (xs (Int32.toNatClampNeg (i + 4))) sh rr ≠ fno ∧ ∀ E s, F_X10_dot (xs (Int32.toNatClampNeg (i + 1))) (xs (Int32.toNatClampNeg (i + 2))) (xs (Int32.toNatClampNeg (i + 3))) (xs (Int32.toNatClampNeg (i + 4))) sh rr = fex E s → E = "java/lang/IllegalArgumentException" ∨ E = "java/lang/IndexOutOfBoundsException" := by
    rcases hd with ⟨s, e1, -⟩ | ⟨s, e1, -⟩ | ⟨s, e1, -⟩
    · exact ⟨by rw [e1]; exact okne, fun E s h => (okex (e1.symm.trans h)).elim⟩
    · exact ⟨by rw [e1]; exact exne, fun E s h => Or.inl (exI (e1.symm.trans h)).symm⟩
    · exact ⟨by rw [e1]; exact exne, fun E s h => Or.inr (exI (e1.symm.trans h)).symm⟩
  refine aw_callSX dL_law_549 cxL_89 rfl (kL_dot m0 sh rr ww so sc pl qo pn bm tg px fa mo mw mr ms mt mu dd wi hi gt sp ta li sr co f 44 (xs (Int32.toNatClampNeg (i + 1))) (xs (Int32.toNatClampNeg (i + 2))) (xs (Int32.toNatClampNeg (i + 3))) (xs (Int32.toNatClampNeg (i + 4))) hF.1 hF.2) rfl (Nat.le_of_ble_eq_true rfl) (Nat.le_of_ble_eq_true rfl) (Nat.le_of_ble_eq_true rfl) (show k + 1 ≤ 601024 by omega) (show j + 6 ≤ 7293034 by omega) (fun _ _ _ hf => False.elim hf) (fun r549 h549 n549 hp549 => ?_)
  rcases hd with ⟨s, e1, e3, hI2⟩ | ⟨s, e1, e3, hI2⟩ | ⟨s, e1, e3, hI2⟩
  · rcases hp549 with ⟨z549, s549, e549, rfl, rfl, rfl⟩ | ⟨s549, e549, rfl, rfl, rfl⟩ | ⟨s549, e549, rfl, rfl, rfl⟩
    · obtain ⟨rfl, rfl⟩ := fokI (e1.symm.trans e549)
      refine aw_istore (lv2 := [(5, _), (0, _), (1, _), (2, _), (3, _), (4, _)]) dL_law_552 (Nat.le_of_ble_eq_true rfl) rfl ?_
      refine aw_aload_n dL_law_554 rfl ?_
      refine aw_aload_nA dL_law_555 rfl ?_
      refine aw_iload dL_law_556 rfl ?_
      refine aw_iconst (v := 1) dL_law_558 (by decide) ?_
      refine aw_iadd dL_law_559 ?_
      refine aw_sld (L := L) (xs := xs) dL_law_560 (fun _ _ h => h) (hix 1 (by decide)) ?_
      refine aw_aload_nA dL_law_561 rfl ?_
      refine aw_iload dL_law_562 rfl ?_
      refine aw_iconst (v := 2) dL_law_564 (by decide) ?_
      refine aw_iadd dL_law_565 ?_
      refine aw_sld (L := L) (xs := xs) dL_law_566 (fun _ _ h => h) (hix 2 (by decide)) ?_
      refine aw_aload_nA dL_law_567 rfl ?_
      refine aw_iload dL_law_568 rfl ?_
      refine aw_iconst (v := 3) dL_law_570 (by decide) ?_
      refine aw_iadd dL_law_571 ?_
      refine aw_sld (L := L) (xs := xs) dL_law_572 (fun _ _ h => h) (hix 3 (by decide)) ?_
      refine aw_aload_nA dL_law_573 rfl ?_
      refine aw_iload dL_law_574 rfl ?_
      refine aw_iconst (v := 4) dL_law_576 (by decide) ?_
      refine aw_iadd dL_law_577 ?_
      refine aw_sld (L := L) (xs := xs) dL_law_578 (fun _ _ h => h) (hix 4 (by decide)) ?_
      refine aw_eqh (h2 := HM mo mw mr ms mt mu dd wi hi gt sp ta li sr co (HC m0 sh s ww so sc pl qo pn bm tg px fa (LB (vp_updL f (Int32.toNatClampNeg 0) bv.toInt64)))) (comm LB_z) ?_
      refine aw_callV dL_law_579 at_mod cvL_92 rfl (kF_X11_dot (mo) (mw) (mr) (ms) (mt) (mu) (dd) (wi) (hi) (gt) (sp) (ta) (li) (sr) (co) (HC (m0) (sh) (s) (ww) (so) (sc) (pl) (qo) (pn) (bm) (tg) (px) (fa) (LB (vp_updL f (Int32.toNatClampNeg 0) bv.toInt64))) 44 (xs (Int32.toNatClampNeg (i + 1))) (xs (Int32.toNatClampNeg (i + 2))) (xs (Int32.toNatClampNeg (i + 3))) (xs (Int32.toNatClampNeg (i + 4))) (by rw [e2]; exact okne)) rfl (Nat.le_of_ble_eq_true rfl) (Nat.le_of_ble_eq_true rfl) (Nat.le_of_ble_eq_true rfl) (show _ + 0 ≤ 601024 by omega) (show _ + 0 ≤ 7293034 by omega) (fun _ _ _ hf => False.elim hf) (fun r579 h579 n579 hp579 => ?_)
      obtain ⟨z579, s579, e579, rfl, rfl, rfl⟩ := hp579
      obtain ⟨rfl, rfl⟩ := fokI (e2.symm.trans e579)
      refine aw_eqh (h2 := HC m0 sh s ww so sc pl qo pn bm tg px fa (HM s2.1 mw mr ms mt mu s2.2 wi hi gt sp ta li sr co (LB (vp_updL f (Int32.toNatClampNeg 0) bv.toInt64)))) (comm LB_z).symm ?_
      refine aw_istore (lv2 := [(6, _), (5, _), (0, _), (1, _), (2, _), (3, _), (4, _)]) dL_law_582 (Nat.le_of_ble_eq_true rfl) rfl ?_
      refine aw_aload_n dL_law_584 rfl ?_
      refine aw_eqh (h2 := HM s2.1 mw mr ms mt mu s2.2 wi hi gt sp ta li sr co (HC m0 sh s ww so sc pl qo pn bm tg px fa (LB (vp_updL f (Int32.toNatClampNeg 0) bv.toInt64)))) (comm LB_z) ?_
      refine aw_callV dL_law_585 at_mod cvL_60 rfl (kF_X11_thrown (s2.1) (mw) (mr) (ms) (mt) (mu) (s2.2) (wi) (hi) (gt) (sp) (ta) (li) (sr) (co) (HC (m0) (sh) (s) (ww) (so) (sc) (pl) (qo) (pn) (bm) (tg) (px) (fa) (LB (vp_updL f (Int32.toNatClampNeg 0) bv.toInt64))) 44  (by rw [e3]; exact okne)) rfl (Nat.le_of_ble_eq_true rfl) (Nat.le_of_ble_eq_true rfl) (Nat.le_of_ble_eq_true rfl) (show _ + 0 ≤ 601024 by omega) (show _ + 0 ≤ 7293034 by omega) (fun _ _ _ hf => False.elim hf) (fun r585 h585 n585 hp585 => ?_)
      obtain ⟨z585, s585, e585, rfl, rfl, rfl⟩ := hp585
      obtain ⟨rfl, rfl⟩ := fokI (e3.symm.trans e585)
      refine aw_eqh (h2 := HC m0 sh s ww so sc pl qo pn bm tg px fa (HM s2.1 mw mr ms mt mu s2.2 wi hi gt sp ta li sr co (LB (vp_updL f (Int32.toNatClampNeg 0) bv.toInt64)))) (comm LB_z).symm ?_
      refine aw_iload dL_law_588 rfl ?_
      refine aw_icmp_eq (tgt := 595) dL_law_590 (by decide) (fun _ => ?_) (fun c => absurd rfl c)
      refine aw_iload dL_law_595 rfl ?_
      refine aw_if_ne (tgt := 612) dL_law_597 (by decide) (fun c => absurd rfl c) (fun _ => ?_)
      refine aw_aload_n dL_law_600 rfl ?_
      refine aw_iconst (v := 0) dL_law_601 (by decide) ?_
      refine aw_lald dL_law_602 at_out (vp_in_iff.mpr (by decide)) ?_
      refine aw_iload dL_law_603 rfl ?_
      refine aw_i2l dL_law_605 ?_
      refine aw_lcmp dL_law_606 ?_
      rw [updL_same, lgc]
      refine aw_if_eq (tgt := 612) dL_law_607 (by decide) (fun _ => ?_) (fun c => absurd rfl c)
      refine aw_goto (tgt := 1010) dL_law_612 (by decide) ?_
      exact aw_lv _ (List.forall_mem_cons.mpr ⟨rfl, (List.forall_mem_cons.mpr ⟨rfl, (List.forall_mem_cons.mpr ⟨rfl, (List.forall_mem_cons.mpr ⟨rfl, (List.forall_mem_cons.mpr ⟨rfl, fun _ h => absurd h List.not_mem_nil⟩)⟩)⟩)⟩)⟩) (aw_wide (by omega) (by omega) (kk (m0) (sh) (s) (ww) (so) (sc) (pl) (qo) (pn) (bm) (tg) (px) (fa) (s2.1) (mw) (mr) (ms) (mt) (mu) (s2.2) (wi) (hi) (gt) (sp) (ta) (li) (sr) (co) (vp_updL f (Int32.toNatClampNeg 0) bv.toInt64) hI2))
    · exact (okex (e1.symm.trans e549)).elim
    · exact (okex (e1.symm.trans e549)).elim
  · rcases hp549 with ⟨z549, s549, e549, rfl, rfl, rfl⟩ | ⟨s549, e549, rfl, rfl, rfl⟩ | ⟨s549, e549, rfl, rfl, rfl⟩
    · exact (okex (e549.symm.trans e1)).elim
    · obtain rfl := fexI (e1.symm.trans e549)
      refine aw_istore (lv2 := [(5, _), (0, _), (1, _), (2, _), (3, _), (4, _)]) dL_law_552 (Nat.le_of_ble_eq_true rfl) rfl ?_
      refine aw_aload_n dL_law_554 rfl ?_
      refine aw_aload_nA dL_law_555 rfl ?_
      refine aw_iload dL_law_556 rfl ?_
      refine aw_iconst (v := 1) dL_law_558 (by decide) ?_
      refine aw_iadd dL_law_559 ?_
      refine aw_sld (L := L) (xs := xs) dL_law_560 (fun _ _ h => h) (hix 1 (by decide)) ?_
      refine aw_aload_nA dL_law_561 rfl ?_
      refine aw_iload dL_law_562 rfl ?_
      refine aw_iconst (v := 2) dL_law_564 (by decide) ?_
      refine aw_iadd dL_law_565 ?_
      refine aw_sld (L := L) (xs := xs) dL_law_566 (fun _ _ h => h) (hix 2 (by decide)) ?_
      refine aw_aload_nA dL_law_567 rfl ?_
      refine aw_iload dL_law_568 rfl ?_
      refine aw_iconst (v := 3) dL_law_570 (by decide) ?_
      refine aw_iadd dL_law_571 ?_
      refine aw_sld (L := L) (xs := xs) dL_law_572 (fun _ _ h => h) (hix 3 (by decide)) ?_
      refine aw_aload_nA dL_law_573 rfl ?_
      refine aw_iload dL_law_574 rfl ?_
      refine aw_iconst (v := 4) dL_law_576 (by decide) ?_
      refine aw_iadd dL_law_577 ?_
      refine aw_sld (L := L) (xs := xs) dL_law_578 (fun _ _ h => h) (hix 4 (by decide)) ?_
      refine aw_eqh (h2 := HM mo mw mr ms mt mu dd wi hi gt sp ta li sr co (HC m0 sh s ww so sc pl qo pn bm tg px fa (LB f))) (comm LB_z) ?_
      refine aw_callV dL_law_579 at_mod cvL_92 rfl (kF_X11_dot (mo) (mw) (mr) (ms) (mt) (mu) (dd) (wi) (hi) (gt) (sp) (ta) (li) (sr) (co) (HC (m0) (sh) (s) (ww) (so) (sc) (pl) (qo) (pn) (bm) (tg) (px) (fa) (LB f)) 44 (xs (Int32.toNatClampNeg (i + 1))) (xs (Int32.toNatClampNeg (i + 2))) (xs (Int32.toNatClampNeg (i + 3))) (xs (Int32.toNatClampNeg (i + 4))) (by rw [e2]; exact okne)) rfl (Nat.le_of_ble_eq_true rfl) (Nat.le_of_ble_eq_true rfl) (Nat.le_of_ble_eq_true rfl) (show _ + 0 ≤ 601024 by omega) (show _ + 0 ≤ 7293034 by omega) (fun _ _ _ hf => False.elim hf) (fun r579 h579 n579 hp579 => ?_)
      obtain ⟨z579, s579, e579, rfl, rfl, rfl⟩ := hp579
      obtain ⟨rfl, rfl⟩ := fokI (e2.symm.trans e579)
      refine aw_eqh (h2 := HC m0 sh s ww so sc pl qo pn bm tg px fa (HM s2.1 mw mr ms mt mu s2.2 wi hi gt sp ta li sr co (LB f))) (comm LB_z).symm ?_
      refine aw_istore (lv2 := [(6, _), (5, _), (0, _), (1, _), (2, _), (3, _), (4, _)]) dL_law_582 (Nat.le_of_ble_eq_true rfl) rfl ?_
      refine aw_aload_n dL_law_584 rfl ?_
      refine aw_eqh (h2 := HM s2.1 mw mr ms mt mu s2.2 wi hi gt sp ta li sr co (HC m0 sh s ww so sc pl qo pn bm tg px fa (LB f))) (comm LB_z) ?_
      refine aw_callV dL_law_585 at_mod cvL_60 rfl (kF_X11_thrown (s2.1) (mw) (mr) (ms) (mt) (mu) (s2.2) (wi) (hi) (gt) (sp) (ta) (li) (sr) (co) (HC (m0) (sh) (s) (ww) (so) (sc) (pl) (qo) (pn) (bm) (tg) (px) (fa) (LB f)) 44  (by rw [e3]; exact okne)) rfl (Nat.le_of_ble_eq_true rfl) (Nat.le_of_ble_eq_true rfl) (Nat.le_of_ble_eq_true rfl) (show _ + 0 ≤ 601024 by omega) (show _ + 0 ≤ 7293034 by omega) (fun _ _ _ hf => False.elim hf) (fun r585 h585 n585 hp585 => ?_)
      obtain ⟨z585, s585, e585, rfl, rfl, rfl⟩ := hp585
      obtain ⟨rfl, rfl⟩ := fokI (e3.symm.trans e585)
      refine aw_eqh (h2 := HC m0 sh s ww so sc pl qo pn bm tg px fa (HM s2.1 mw mr ms mt mu s2.2 wi hi gt sp ta li sr co (LB f))) (comm LB_z).symm ?_
      refine aw_iload dL_law_588 rfl ?_
      refine aw_icmp_eq (tgt := 595) dL_law_590 (by decide) (fun _ => ?_) (fun c => absurd rfl c)
      refine aw_iload dL_law_595 rfl ?_
      refine aw_if_ne (tgt := 612) dL_law_597 (by decide) (fun _ => ?_) (fun c => absurd c (by decide))
      refine aw_goto (tgt := 1010) dL_law_612 (by decide) ?_
      exact aw_lv _ (List.forall_mem_cons.mpr ⟨rfl, (List.forall_mem_cons.mpr ⟨rfl, (List.forall_mem_cons.mpr ⟨rfl, (List.forall_mem_cons.mpr ⟨rfl, (List.forall_mem_cons.mpr ⟨rfl, fun _ h => absurd h List.not_mem_nil⟩)⟩)⟩)⟩)⟩) (aw_wide (by omega) (by omega) (kk (m0) (sh) (s) (ww) (so) (sc) (pl) (qo) (pn) (bm) (tg) (px) (fa) (s2.1) (mw) (mr) (ms) (mt) (mu) (s2.2) (wi) (hi) (gt) (sp) (ta) (li) (sr) (co) f hI2))
    · exact absurd (exI (e1.symm.trans e549)) (by decide)
  · rcases hp549 with ⟨z549, s549, e549, rfl, rfl, rfl⟩ | ⟨s549, e549, rfl, rfl, rfl⟩ | ⟨s549, e549, rfl, rfl, rfl⟩
    · exact (okex (e549.symm.trans e1)).elim
    · exact absurd (exI (e1.symm.trans e549)) (by decide)
    · obtain rfl := fexI (e1.symm.trans e549)
      refine aw_istore (lv2 := [(5, _), (0, _), (1, _), (2, _), (3, _), (4, _)]) dL_law_552 (Nat.le_of_ble_eq_true rfl) rfl ?_
      refine aw_aload_n dL_law_554 rfl ?_
      refine aw_aload_nA dL_law_555 rfl ?_
      refine aw_iload dL_law_556 rfl ?_
      refine aw_iconst (v := 1) dL_law_558 (by decide) ?_
      refine aw_iadd dL_law_559 ?_
      refine aw_sld (L := L) (xs := xs) dL_law_560 (fun _ _ h => h) (hix 1 (by decide)) ?_
      refine aw_aload_nA dL_law_561 rfl ?_
      refine aw_iload dL_law_562 rfl ?_
      refine aw_iconst (v := 2) dL_law_564 (by decide) ?_
      refine aw_iadd dL_law_565 ?_
      refine aw_sld (L := L) (xs := xs) dL_law_566 (fun _ _ h => h) (hix 2 (by decide)) ?_
      refine aw_aload_nA dL_law_567 rfl ?_
      refine aw_iload dL_law_568 rfl ?_
      refine aw_iconst (v := 3) dL_law_570 (by decide) ?_
      refine aw_iadd dL_law_571 ?_
      refine aw_sld (L := L) (xs := xs) dL_law_572 (fun _ _ h => h) (hix 3 (by decide)) ?_
      refine aw_aload_nA dL_law_573 rfl ?_
      refine aw_iload dL_law_574 rfl ?_
      refine aw_iconst (v := 4) dL_law_576 (by decide) ?_
      refine aw_iadd dL_law_577 ?_
      refine aw_sld (L := L) (xs := xs) dL_law_578 (fun _ _ h => h) (hix 4 (by decide)) ?_
      refine aw_eqh (h2 := HM mo mw mr ms mt mu dd wi hi gt sp ta li sr co (HC m0 sh s ww so sc pl qo pn bm tg px fa (LB f))) (comm LB_z) ?_
      refine aw_callV dL_law_579 at_mod cvL_92 rfl (kF_X11_dot (mo) (mw) (mr) (ms) (mt) (mu) (dd) (wi) (hi) (gt) (sp) (ta) (li) (sr) (co) (HC (m0) (sh) (s) (ww) (so) (sc) (pl) (qo) (pn) (bm) (tg) (px) (fa) (LB f)) 44 (xs (Int32.toNatClampNeg (i + 1))) (xs (Int32.toNatClampNeg (i + 2))) (xs (Int32.toNatClampNeg (i + 3))) (xs (Int32.toNatClampNeg (i + 4))) (by rw [e2]; exact okne)) rfl (Nat.le_of_ble_eq_true rfl) (Nat.le_of_ble_eq_true rfl) (Nat.le_of_ble_eq_true rfl) (show _ + 0 ≤ 601024 by omega) (show _ + 0 ≤ 7293034 by omega) (fun _ _ _ hf => False.elim hf) (fun r579 h579 n579 hp579 => ?_)
      obtain ⟨z579, s579, e579, rfl, rfl, rfl⟩ := hp579
      obtain ⟨rfl, rfl⟩ := fokI (e2.symm.trans e579)
      refine aw_eqh (h2 := HC m0 sh s ww so sc pl qo pn bm tg px fa (HM s2.1 mw mr ms mt mu s2.2 wi hi gt sp ta li sr co (LB f))) (comm LB_z).symm ?_
      refine aw_istore (lv2 := [(6, _), (5, _), (0, _), (1, _), (2, _), (3, _), (4, _)]) dL_law_582 (Nat.le_of_ble_eq_true rfl) rfl ?_
      refine aw_aload_n dL_law_584 rfl ?_
      refine aw_eqh (h2 := HM s2.1 mw mr ms mt mu s2.2 wi hi gt sp ta li sr co (HC m0 sh s ww so sc pl qo pn bm tg px fa (LB f))) (comm LB_z) ?_
      refine aw_callV dL_law_585 at_mod cvL_60 rfl (kF_X11_thrown (s2.1) (mw) (mr) (ms) (mt) (mu) (s2.2) (wi) (hi) (gt) (sp) (ta) (li) (sr) (co) (HC (m0) (sh) (s) (ww) (so) (sc) (pl) (qo) (pn) (bm) (tg) (px) (fa) (LB f)) 44  (by rw [e3]; exact okne)) rfl (Nat.le_of_ble_eq_true rfl) (Nat.le_of_ble_eq_true rfl) (Nat.le_of_ble_eq_true rfl) (show _ + 0 ≤ 601024 by omega) (show _ + 0 ≤ 7293034 by omega) (fun _ _ _ hf => False.elim hf) (fun r585 h585 n585 hp585 => ?_)
      obtain ⟨z585, s585, e585, rfl, rfl, rfl⟩ := hp585
      obtain ⟨rfl, rfl⟩ := fokI (e3.symm.trans e585)
      refine aw_eqh (h2 := HC m0 sh s ww so sc pl qo pn bm tg px fa (HM s2.1 mw mr ms mt mu s2.2 wi hi gt sp ta li sr co (LB f))) (comm LB_z).symm ?_
      refine aw_iload dL_law_588 rfl ?_
      refine aw_icmp_eq (tgt := 595) dL_law_590 (by decide) (fun _ => ?_) (fun c => absurd rfl c)
      refine aw_iload dL_law_595 rfl ?_
      refine aw_if_ne (tgt := 612) dL_law_597 (by decide) (fun _ => ?_) (fun c => absurd c (by decide))
      refine aw_goto (tgt := 1010) dL_law_612 (by decide) ?_
      exact aw_lv _ (List.forall_mem_cons.mpr ⟨rfl, (List.forall_mem_cons.mpr ⟨rfl, (List.forall_mem_cons.mpr ⟨rfl, (List.forall_mem_cons.mpr ⟨rfl, (List.forall_mem_cons.mpr ⟨rfl, fun _ h => absurd h List.not_mem_nil⟩)⟩)⟩)⟩)⟩) (aw_wide (by omega) (by omega) (kk (m0) (sh) (s) (ww) (so) (sc) (pl) (qo) (pn) (bm) (tg) (px) (fa) (s2.1) (mw) (mr) (ms) (mt) (mu) (s2.2) (wi) (hi) (gt) (sp) (ta) (li) (sr) (co) f hI2))
set_option maxHeartbeats 2000000 in
set_option maxRecDepth 100000 in
theorem law_sweep {b L : Nat} {xs : Nat → Int32} {nm : String} {t : List (Nat × Nat × Nat × Nat)} {I : IV} (S : S_sweep I) (i : Int32) (hix : ∀ d : Int32, d = 1 ∨ d = 2 ∨ d = 3 ∨ d = 4 ∨ d = 5 ∨ d = 6 → vp_in (i + d) L) (k j : Nat) (hk : k + 1 ≤ 601024) (hj : j + 6 ≤ 7293034) (m0 : Mnt) (sh : Nat → Nat) (rr : Nat → Ras) (ww : Nat → Row) (so : Nat) (sc : Src) (pl : Pal) (qo : Qoi) (pn : Pnm) (bm : Bmp) (tg : Tga) (px : Pcx) (fa : A) (mo : MO) (mw : MW) (mr : MR) (ms : Nat) (mt : A) (mu : A) (dd : A) (wi : A) (hi : A) (gt : A) (sp : A) (ta : A) (li : A) (sr : A) (co : A) (f : Nat → Int64) (hI : I m0 sh rr ww so sc pl qo pn bm tg px fa mo mw mr ms mt mu dd wi hi gt sp ta li sr co) (kk : ∀ (m0 : Mnt) (sh : Nat → Nat) (rr : Nat → Ras) (ww : Nat → Row) (so : Nat) (sc : Src) (pl : Pal) (qo : Qoi) (pn : Pnm) (bm : Bmp) (tg : Tga) (px : Pcx) (fa : A) (mo : MO) (mw : MW) (mr : MR) (ms : Nat) (mt : A) (mu : A) (dd : A) (wi : A) (hi : A) (gt : A) (sp : A) (ta : A) (li : A) (sr : A) (co : A) (f : Nat → Int64), I m0 sh rr ww so sc pl qo pn bm tg px fa mo mw mr ms mt mu dd wi hi gt sp ta li sr co → LW b L xs nm t (k + 1) (j + 6) 1010 i (HC m0 sh rr ww so sc pl qo pn bm tg px fa (HM mo mw mr ms mt mu dd wi hi gt sp ta li sr co (LB f)))) : LW b L xs nm t k j 615 i (HC m0 sh rr ww so sc pl qo pn bm tg px fa (HM mo mw mr ms mt mu dd wi hi gt sp ta li sr co (LB f))) := by
  obtain ⟨bv, s2, e2, hd⟩ := S m0 sh rr ww so sc pl qo pn bm tg px fa mo mw mr ms mt mu dd wi hi gt sp ta li sr co hI (xs (Int32.toNatClampNeg (i + 1))) (xs (Int32.toNatClampNeg (i + 2))) (xs (Int32.toNatClampNeg (i + 3))) (xs (Int32.toNatClampNeg (i + 4))) (xs (Int32.toNatClampNeg (i + 5))) (xs (Int32.toNatClampNeg (i + 6)))
  refine aw_aload_n dL_law_615 rfl ?_
  refine aw_aload_nA dL_law_616 rfl ?_
  refine aw_iload dL_law_617 rfl ?_
  refine aw_iconst (v := 1) dL_law_619 (by decide) ?_
  refine aw_iadd dL_law_620 ?_
  refine aw_sld (L := L) (xs := xs) dL_law_621 (fun _ _ h => h) (hix 1 (by decide)) ?_
  refine aw_aload_nA dL_law_622 rfl ?_
  refine aw_iload dL_law_623 rfl ?_
  refine aw_iconst (v := 2) dL_law_625 (by decide) ?_
  refine aw_iadd dL_law_626 ?_
  refine aw_sld (L := L) (xs := xs) dL_law_627 (fun _ _ h => h) (hix 2 (by decide)) ?_
  refine aw_aload_nA dL_law_628 rfl ?_
  refine aw_iload dL_law_629 rfl ?_
  refine aw_iconst (v := 3) dL_law_631 (by decide) ?_
  refine aw_iadd dL_law_632 ?_
  refine aw_sld (L := L) (xs := xs) dL_law_633 (fun _ _ h => h) (hix 3 (by decide)) ?_
  refine aw_aload_nA dL_law_634 rfl ?_
  refine aw_iload dL_law_635 rfl ?_
  refine aw_iconst (v := 4) dL_law_637 (by decide) ?_
  refine aw_iadd dL_law_638 ?_
  refine aw_sld (L := L) (xs := xs) dL_law_639 (fun _ _ h => h) (hix 4 (by decide)) ?_
  refine aw_aload_nA dL_law_640 rfl ?_
  refine aw_iload dL_law_641 rfl ?_
  refine aw_iconst (v := 5) dL_law_643 (by decide) ?_
  refine aw_iadd dL_law_644 ?_
  refine aw_sld (L := L) (xs := xs) dL_law_645 (fun _ _ h => h) (hix 5 (by decide)) ?_
  refine aw_aload_nA dL_law_646 rfl ?_
  refine aw_iload dL_law_647 rfl ?_
  refine aw_bipush (v := 6) dL_law_649 (by decide) ?_
  refine aw_iadd dL_law_651 ?_
  refine aw_sld (L := L) (xs := xs) dL_law_652 (fun _ _ h => h) (hix 6 (by decide)) ?_
  refine aw_aload_n dL_law_653 rfl ?_
  have hF : F_X10_sweep (xs (Int32.toNatClampNeg (i + 1))) (xs (Int32.toNatClampNeg (i + 2))) (xs (Int32.toNatClampNeg (i + 3))) (xs (Int32.toNatClampNeg (i + 4))) (xs (Int32.toNatClampNeg (i + 5))) (xs (Int32.toNatClampNeg (i + 6))) sh rr ≠ fno ∧ ∀ E s, F_X10_sweep (xs (Int32.toNatClampNeg (i + 1))) (xs (Int32.toNatClampNeg (i + 2))) (xs (Int32.toNatClampNeg (i + 3))) (xs (Int32.toNatClampNeg (i + 4))) (xs (Int32.toNatClampNeg (i + 5))) (xs (Int32.toNatClampNeg (i + 6))) sh rr = fex E s → E = "java/lang/IllegalArgumentException" ∨ E = "java/lang/IndexOutOfBoundsException" := by
    rcases hd with ⟨s, e1, -⟩ | ⟨s, e1, -⟩ | ⟨s, e1, -⟩
    · exact ⟨by rw [e1]; exact okne, fun E s h => (okex (e1.symm.trans h)).elim⟩
    · exact ⟨by rw [e1]; exact exne, fun E s h => Or.inl (exI (e1.symm.trans h)).symm⟩
    · exact ⟨by rw [e1]; exact exne, fun E s h => Or.inr (exI (e1.symm.trans h)).symm⟩
  refine aw_callSX dL_law_654 cxL_93 rfl (kL_sweep m0 sh rr ww so sc pl qo pn bm tg px fa mo mw mr ms mt mu dd wi hi gt sp ta li sr co f 44 (xs (Int32.toNatClampNeg (i + 1))) (xs (Int32.toNatClampNeg (i + 2))) (xs (Int32.toNatClampNeg (i + 3))) (xs (Int32.toNatClampNeg (i + 4))) (xs (Int32.toNatClampNeg (i + 5))) (xs (Int32.toNatClampNeg (i + 6))) hF.1 hF.2) rfl (Nat.le_of_ble_eq_true rfl) (Nat.le_of_ble_eq_true rfl) (Nat.le_of_ble_eq_true rfl) (show k + 1 ≤ 601024 by omega) (show j + 6 ≤ 7293034 by omega) (fun _ _ _ hf => False.elim hf) (fun r654 h654 n654 hp654 => ?_)
  rcases hd with ⟨s, e1, e3, hI2⟩ | ⟨s, e1, e3, hI2⟩ | ⟨s, e1, e3, hI2⟩
  · rcases hp654 with ⟨z654, s654, e654, rfl, rfl, rfl⟩ | ⟨s654, e654, rfl, rfl, rfl⟩ | ⟨s654, e654, rfl, rfl, rfl⟩
    · obtain ⟨rfl, rfl⟩ := fokI (e1.symm.trans e654)
      refine aw_istore (lv2 := [(5, _), (0, _), (1, _), (2, _), (3, _), (4, _)]) dL_law_657 (Nat.le_of_ble_eq_true rfl) rfl ?_
      refine aw_aload_n dL_law_659 rfl ?_
      refine aw_aload_nA dL_law_660 rfl ?_
      refine aw_iload dL_law_661 rfl ?_
      refine aw_iconst (v := 1) dL_law_663 (by decide) ?_
      refine aw_iadd dL_law_664 ?_
      refine aw_sld (L := L) (xs := xs) dL_law_665 (fun _ _ h => h) (hix 1 (by decide)) ?_
      refine aw_aload_nA dL_law_666 rfl ?_
      refine aw_iload dL_law_667 rfl ?_
      refine aw_iconst (v := 2) dL_law_669 (by decide) ?_
      refine aw_iadd dL_law_670 ?_
      refine aw_sld (L := L) (xs := xs) dL_law_671 (fun _ _ h => h) (hix 2 (by decide)) ?_
      refine aw_aload_nA dL_law_672 rfl ?_
      refine aw_iload dL_law_673 rfl ?_
      refine aw_iconst (v := 3) dL_law_675 (by decide) ?_
      refine aw_iadd dL_law_676 ?_
      refine aw_sld (L := L) (xs := xs) dL_law_677 (fun _ _ h => h) (hix 3 (by decide)) ?_
      refine aw_aload_nA dL_law_678 rfl ?_
      refine aw_iload dL_law_679 rfl ?_
      refine aw_iconst (v := 4) dL_law_681 (by decide) ?_
      refine aw_iadd dL_law_682 ?_
      refine aw_sld (L := L) (xs := xs) dL_law_683 (fun _ _ h => h) (hix 4 (by decide)) ?_
      refine aw_aload_nA dL_law_684 rfl ?_
      refine aw_iload dL_law_685 rfl ?_
      refine aw_iconst (v := 5) dL_law_687 (by decide) ?_
      refine aw_iadd dL_law_688 ?_
      refine aw_sld (L := L) (xs := xs) dL_law_689 (fun _ _ h => h) (hix 5 (by decide)) ?_
      refine aw_aload_nA dL_law_690 rfl ?_
      refine aw_iload dL_law_691 rfl ?_
      refine aw_bipush (v := 6) dL_law_693 (by decide) ?_
      refine aw_iadd dL_law_695 ?_
      refine aw_sld (L := L) (xs := xs) dL_law_696 (fun _ _ h => h) (hix 6 (by decide)) ?_
      refine aw_eqh (h2 := HM mo mw mr ms mt mu dd wi hi gt sp ta li sr co (HC m0 sh s ww so sc pl qo pn bm tg px fa (LB (vp_updL f (Int32.toNatClampNeg 0) bv.toInt64)))) (comm LB_z) ?_
      refine aw_callV dL_law_697 at_mod cvL_96 rfl (kF_X11_sweep (mo) (mw) (mr) (ms) (mt) (mu) (dd) (wi) (hi) (gt) (sp) (ta) (li) (sr) (co) (HC (m0) (sh) (s) (ww) (so) (sc) (pl) (qo) (pn) (bm) (tg) (px) (fa) (LB (vp_updL f (Int32.toNatClampNeg 0) bv.toInt64))) 44 (xs (Int32.toNatClampNeg (i + 1))) (xs (Int32.toNatClampNeg (i + 2))) (xs (Int32.toNatClampNeg (i + 3))) (xs (Int32.toNatClampNeg (i + 4))) (xs (Int32.toNatClampNeg (i + 5))) (xs (Int32.toNatClampNeg (i + 6))) (by rw [e2]; exact okne)) rfl (Nat.le_of_ble_eq_true rfl) (Nat.le_of_ble_eq_true rfl) (Nat.le_of_ble_eq_true rfl) (show _ + 0 ≤ 601024 by omega) (show _ + 0 ≤ 7293034 by omega) (fun _ _ _ hf => False.elim hf) (fun r697 h697 n697 hp697 => ?_)
      obtain ⟨z697, s697, e697, rfl, rfl, rfl⟩ := hp697
      obtain ⟨rfl, rfl⟩ := fokI (e2.symm.trans e697)
      refine aw_eqh (h2 := HC m0 sh s ww so sc pl qo pn bm tg px fa (HM s2.1 mw mr ms mt mu s2.2 wi hi gt sp ta li sr co (LB (vp_updL f (Int32.toNatClampNeg 0) bv.toInt64)))) (comm LB_z).symm ?_
      refine aw_istore (lv2 := [(6, _), (5, _), (0, _), (1, _), (2, _), (3, _), (4, _)]) dL_law_700 (Nat.le_of_ble_eq_true rfl) rfl ?_
      refine aw_aload_n dL_law_702 rfl ?_
      refine aw_eqh (h2 := HM s2.1 mw mr ms mt mu s2.2 wi hi gt sp ta li sr co (HC m0 sh s ww so sc pl qo pn bm tg px fa (LB (vp_updL f (Int32.toNatClampNeg 0) bv.toInt64)))) (comm LB_z) ?_
      refine aw_callV dL_law_703 at_mod cvL_60 rfl (kF_X11_thrown (s2.1) (mw) (mr) (ms) (mt) (mu) (s2.2) (wi) (hi) (gt) (sp) (ta) (li) (sr) (co) (HC (m0) (sh) (s) (ww) (so) (sc) (pl) (qo) (pn) (bm) (tg) (px) (fa) (LB (vp_updL f (Int32.toNatClampNeg 0) bv.toInt64))) 44  (by rw [e3]; exact okne)) rfl (Nat.le_of_ble_eq_true rfl) (Nat.le_of_ble_eq_true rfl) (Nat.le_of_ble_eq_true rfl) (show _ + 0 ≤ 601024 by omega) (show _ + 0 ≤ 7293034 by omega) (fun _ _ _ hf => False.elim hf) (fun r703 h703 n703 hp703 => ?_)
      obtain ⟨z703, s703, e703, rfl, rfl, rfl⟩ := hp703
      obtain ⟨rfl, rfl⟩ := fokI (e3.symm.trans e703)
      refine aw_eqh (h2 := HC m0 sh s ww so sc pl qo pn bm tg px fa (HM s2.1 mw mr ms mt mu s2.2 wi hi gt sp ta li sr co (LB (vp_updL f (Int32.toNatClampNeg 0) bv.toInt64)))) (comm LB_z).symm ?_
      refine aw_iload dL_law_706 rfl ?_
      refine aw_icmp_eq (tgt := 713) dL_law_708 (by decide) (fun _ => ?_) (fun c => absurd rfl c)
      refine aw_iload dL_law_713 rfl ?_
      refine aw_if_ne (tgt := 730) dL_law_715 (by decide) (fun c => absurd rfl c) (fun _ => ?_)
      refine aw_aload_n dL_law_718 rfl ?_
      refine aw_iconst (v := 0) dL_law_719 (by decide) ?_
      refine aw_lald dL_law_720 at_out (vp_in_iff.mpr (by decide)) ?_
      refine aw_iload dL_law_721 rfl ?_
      refine aw_i2l dL_law_723 ?_
      refine aw_lcmp dL_law_724 ?_
      rw [updL_same, lgc]
      refine aw_if_eq (tgt := 730) dL_law_725 (by decide) (fun _ => ?_) (fun c => absurd rfl c)
      refine aw_goto (tgt := 1010) dL_law_730 (by decide) ?_
      exact aw_lv _ (List.forall_mem_cons.mpr ⟨rfl, (List.forall_mem_cons.mpr ⟨rfl, (List.forall_mem_cons.mpr ⟨rfl, (List.forall_mem_cons.mpr ⟨rfl, (List.forall_mem_cons.mpr ⟨rfl, fun _ h => absurd h List.not_mem_nil⟩)⟩)⟩)⟩)⟩) (aw_wide (by omega) (by omega) (kk (m0) (sh) (s) (ww) (so) (sc) (pl) (qo) (pn) (bm) (tg) (px) (fa) (s2.1) (mw) (mr) (ms) (mt) (mu) (s2.2) (wi) (hi) (gt) (sp) (ta) (li) (sr) (co) (vp_updL f (Int32.toNatClampNeg 0) bv.toInt64) hI2))
    · exact (okex (e1.symm.trans e654)).elim
    · exact (okex (e1.symm.trans e654)).elim
  · rcases hp654 with ⟨z654, s654, e654, rfl, rfl, rfl⟩ | ⟨s654, e654, rfl, rfl, rfl⟩ | ⟨s654, e654, rfl, rfl, rfl⟩
    · exact (okex (e654.symm.trans e1)).elim
    · obtain rfl := fexI (e1.symm.trans e654)
      refine aw_istore (lv2 := [(5, _), (0, _), (1, _), (2, _), (3, _), (4, _)]) dL_law_657 (Nat.le_of_ble_eq_true rfl) rfl ?_
      refine aw_aload_n dL_law_659 rfl ?_
      refine aw_aload_nA dL_law_660 rfl ?_
      refine aw_iload dL_law_661 rfl ?_
      refine aw_iconst (v := 1) dL_law_663 (by decide) ?_
      refine aw_iadd dL_law_664 ?_
      refine aw_sld (L := L) (xs := xs) dL_law_665 (fun _ _ h => h) (hix 1 (by decide)) ?_
      refine aw_aload_nA dL_law_666 rfl ?_
      refine aw_iload dL_law_667 rfl ?_
      refine aw_iconst (v := 2) dL_law_669 (by decide) ?_
      refine aw_iadd dL_law_670 ?_
      refine aw_sld (L := L) (xs := xs) dL_law_671 (fun _ _ h => h) (hix 2 (by decide)) ?_
      refine aw_aload_nA dL_law_672 rfl ?_
      refine aw_iload dL_law_673 rfl ?_
      refine aw_iconst (v := 3) dL_law_675 (by decide) ?_
      refine aw_iadd dL_law_676 ?_
      refine aw_sld (L := L) (xs := xs) dL_law_677 (fun _ _ h => h) (hix 3 (by decide)) ?_
      refine aw_aload_nA dL_law_678 rfl ?_
      refine aw_iload dL_law_679 rfl ?_
      refine aw_iconst (v := 4) dL_law_681 (by decide) ?_
      refine aw_iadd dL_law_682 ?_
      refine aw_sld (L := L) (xs := xs) dL_law_683 (fun _ _ h => h) (hix 4 (by decide)) ?_
      refine aw_aload_nA dL_law_684 rfl ?_
      refine aw_iload dL_law_685 rfl ?_
      refine aw_iconst (v := 5) dL_law_687 (by decide) ?_
      refine aw_iadd dL_law_688 ?_
      refine aw_sld (L := L) (xs := xs) dL_law_689 (fun _ _ h => h) (hix 5 (by decide)) ?_
      refine aw_aload_nA dL_law_690 rfl ?_
      refine aw_iload dL_law_691 rfl ?_
      refine aw_bipush (v := 6) dL_law_693 (by decide) ?_
      refine aw_iadd dL_law_695 ?_
      refine aw_sld (L := L) (xs := xs) dL_law_696 (fun _ _ h => h) (hix 6 (by decide)) ?_
      refine aw_eqh (h2 := HM mo mw mr ms mt mu dd wi hi gt sp ta li sr co (HC m0 sh s ww so sc pl qo pn bm tg px fa (LB f))) (comm LB_z) ?_
      refine aw_callV dL_law_697 at_mod cvL_96 rfl (kF_X11_sweep (mo) (mw) (mr) (ms) (mt) (mu) (dd) (wi) (hi) (gt) (sp) (ta) (li) (sr) (co) (HC (m0) (sh) (s) (ww) (so) (sc) (pl) (qo) (pn) (bm) (tg) (px) (fa) (LB f)) 44 (xs (Int32.toNatClampNeg (i + 1))) (xs (Int32.toNatClampNeg (i + 2))) (xs (Int32.toNatClampNeg (i + 3))) (xs (Int32.toNatClampNeg (i + 4))) (xs (Int32.toNatClampNeg (i + 5))) (xs (Int32.toNatClampNeg (i + 6))) (by rw [e2]; exact okne)) rfl (Nat.le_of_ble_eq_true rfl) (Nat.le_of_ble_eq_true rfl) (Nat.le_of_ble_eq_true rfl) (show _ + 0 ≤ 601024 by omega) (show _ + 0 ≤ 7293034 by omega) (fun _ _ _ hf => False.elim hf) (fun r697 h697 n697 hp697 => ?_)
      obtain ⟨z697, s697, e697, rfl, rfl, rfl⟩ := hp697
      obtain ⟨rfl, rfl⟩ := fokI (e2.symm.trans e697)
      refine aw_eqh (h2 := HC m0 sh s ww so sc pl qo pn bm tg px fa (HM s2.1 mw mr ms mt mu s2.2 wi hi gt sp ta li sr co (LB f))) (comm LB_z).symm ?_
      refine aw_istore (lv2 := [(6, _), (5, _), (0, _), (1, _), (2, _), (3, _), (4, _)]) dL_law_700 (Nat.le_of_ble_eq_true rfl) rfl ?_
      refine aw_aload_n dL_law_702 rfl ?_
      refine aw_eqh (h2 := HM s2.1 mw mr ms mt mu s2.2 wi hi gt sp ta li sr co (HC m0 sh s ww so sc pl qo pn bm tg px fa (LB f))) (comm LB_z) ?_
      refine aw_callV dL_law_703 at_mod cvL_60 rfl (kF_X11_thrown (s2.1) (mw) (mr) (ms) (mt) (mu) (s2.2) (wi) (hi) (gt) (sp) (ta) (li) (sr) (co) (HC (m0) (sh) (s) (ww) (so) (sc) (pl) (qo) (pn) (bm) (tg) (px) (fa) (LB f)) 44  (by rw [e3]; exact okne)) rfl (Nat.le_of_ble_eq_true rfl) (Nat.le_of_ble_eq_true rfl) (Nat.le_of_ble_eq_true rfl) (show _ + 0 ≤ 601024 by omega) (show _ + 0 ≤ 7293034 by omega) (fun _ _ _ hf => False.elim hf) (fun r703 h703 n703 hp703 => ?_)
      obtain ⟨z703, s703, e703, rfl, rfl, rfl⟩ := hp703
      obtain ⟨rfl, rfl⟩ := fokI (e3.symm.trans e703)
      refine aw_eqh (h2 := HC m0 sh s ww so sc pl qo pn bm tg px fa (HM s2.1 mw mr ms mt mu s2.2 wi hi gt sp ta li sr co (LB f))) (comm LB_z).symm ?_
      refine aw_iload dL_law_706 rfl ?_
      refine aw_icmp_eq (tgt := 713) dL_law_708 (by decide) (fun _ => ?_) (fun c => absurd rfl c)
      refine aw_iload dL_law_713 rfl ?_
      refine aw_if_ne (tgt := 730) dL_law_715 (by decide) (fun _ => ?_) (fun c => absurd c (by decide))
      refine aw_goto (tgt := 1010) dL_law_730 (by decide) ?_
      exact aw_lv _ (List.forall_mem_cons.mpr ⟨rfl, (List.forall_mem_cons.mpr ⟨rfl, (List.forall_mem_cons.mpr ⟨rfl, (List.forall_mem_cons.mpr ⟨rfl, (List.forall_mem_cons.mpr ⟨rfl, fun _ h => absurd h List.not_mem_nil⟩)⟩)⟩)⟩)⟩) (aw_wide (by omega) (by omega) (kk (m0) (sh) (s) (ww) (so) (sc) (pl) (qo) (pn) (bm) (tg) (px) (fa) (s2.1) (mw) (mr) (ms) (mt) (mu) (s2.2) (wi) (hi) (gt) (sp) (ta) (li) (sr) (co) f hI2))
    · exact absurd (exI (e1.symm.trans e654)) (by decide)
  · rcases hp654 with ⟨z654, s654, e654, rfl, rfl, rfl⟩ | ⟨s654, e654, rfl, rfl, rfl⟩ | ⟨s654, e654, rfl, rfl, rfl⟩
    · exact (okex (e654.symm.trans e1)).elim
    · exact absurd (exI (e1.symm.trans e654)) (by decide)
    · obtain rfl := fexI (e1.symm.trans e654)
      refine aw_istore (lv2 := [(5, _), (0, _), (1, _), (2, _), (3, _), (4, _)]) dL_law_657 (Nat.le_of_ble_eq_true rfl) rfl ?_
      refine aw_aload_n dL_law_659 rfl ?_
      refine aw_aload_nA dL_law_660 rfl ?_
      refine aw_iload dL_law_661 rfl ?_
      refine aw_iconst (v := 1) dL_law_663 (by decide) ?_
      refine aw_iadd dL_law_664 ?_
      refine aw_sld (L := L) (xs := xs) dL_law_665 (fun _ _ h => h) (hix 1 (by decide)) ?_
      refine aw_aload_nA dL_law_666 rfl ?_
      refine aw_iload dL_law_667 rfl ?_
      refine aw_iconst (v := 2) dL_law_669 (by decide) ?_
      refine aw_iadd dL_law_670 ?_
      refine aw_sld (L := L) (xs := xs) dL_law_671 (fun _ _ h => h) (hix 2 (by decide)) ?_
      refine aw_aload_nA dL_law_672 rfl ?_
      refine aw_iload dL_law_673 rfl ?_
      refine aw_iconst (v := 3) dL_law_675 (by decide) ?_
      refine aw_iadd dL_law_676 ?_
      refine aw_sld (L := L) (xs := xs) dL_law_677 (fun _ _ h => h) (hix 3 (by decide)) ?_
      refine aw_aload_nA dL_law_678 rfl ?_
      refine aw_iload dL_law_679 rfl ?_
      refine aw_iconst (v := 4) dL_law_681 (by decide) ?_
      refine aw_iadd dL_law_682 ?_
      refine aw_sld (L := L) (xs := xs) dL_law_683 (fun _ _ h => h) (hix 4 (by decide)) ?_
      refine aw_aload_nA dL_law_684 rfl ?_
      refine aw_iload dL_law_685 rfl ?_
      refine aw_iconst (v := 5) dL_law_687 (by decide) ?_
      refine aw_iadd dL_law_688 ?_
      refine aw_sld (L := L) (xs := xs) dL_law_689 (fun _ _ h => h) (hix 5 (by decide)) ?_
      refine aw_aload_nA dL_law_690 rfl ?_
      refine aw_iload dL_law_691 rfl ?_
      refine aw_bipush (v := 6) dL_law_693 (by decide) ?_
      refine aw_iadd dL_law_695 ?_
      refine aw_sld (L := L) (xs := xs) dL_law_696 (fun _ _ h => h) (hix 6 (by decide)) ?_
      refine aw_eqh (h2 := HM mo mw mr ms mt mu dd wi hi gt sp ta li sr co (HC m0 sh s ww so sc pl qo pn bm tg px fa (LB f))) (comm LB_z) ?_
      refine aw_callV dL_law_697 at_mod cvL_96 rfl (kF_X11_sweep (mo) (mw) (mr) (ms) (mt) (mu) (dd) (wi) (hi) (gt) (sp) (ta) (li) (sr) (co) (HC (m0) (sh) (s) (ww) (so) (sc) (pl) (qo) (pn) (bm) (tg) (px) (fa) (LB f)) 44 (xs (Int32.toNatClampNeg (i + 1))) (xs (Int32.toNatClampNeg (i + 2))) (xs (Int32.toNatClampNeg (i + 3))) (xs (Int32.toNatClampNeg (i + 4))) (xs (Int32.toNatClampNeg (i + 5))) (xs (Int32.toNatClampNeg (i + 6))) (by rw [e2]; exact okne)) rfl (Nat.le_of_ble_eq_true rfl) (Nat.le_of_ble_eq_true rfl) (Nat.le_of_ble_eq_true rfl) (show _ + 0 ≤ 601024 by omega) (show _ + 0 ≤ 7293034 by omega) (fun _ _ _ hf => False.elim hf) (fun r697 h697 n697 hp697 => ?_)
      obtain ⟨z697, s697, e697, rfl, rfl, rfl⟩ := hp697
      obtain ⟨rfl, rfl⟩ := fokI (e2.symm.trans e697)
      refine aw_eqh (h2 := HC m0 sh s ww so sc pl qo pn bm tg px fa (HM s2.1 mw mr ms mt mu s2.2 wi hi gt sp ta li sr co (LB f))) (comm LB_z).symm ?_
      refine aw_istore (lv2 := [(6, _), (5, _), (0, _), (1, _), (2, _), (3, _), (4, _)]) dL_law_700 (Nat.le_of_ble_eq_true rfl) rfl ?_
      refine aw_aload_n dL_law_702 rfl ?_
      refine aw_eqh (h2 := HM s2.1 mw mr ms mt mu s2.2 wi hi gt sp ta li sr co (HC m0 sh s ww so sc pl qo pn bm tg px fa (LB f))) (comm LB_z) ?_
      refine aw_callV dL_law_703 at_mod cvL_60 rfl (kF_X11_thrown (s2.1) (mw) (mr) (ms) (mt) (mu) (s2.2) (wi) (hi) (gt) (sp) (ta) (li) (sr) (co) (HC (m0) (sh) (s) (ww) (so) (sc) (pl) (qo) (pn) (bm) (tg) (px) (fa) (LB f)) 44  (by rw [e3]; exact okne)) rfl (Nat.le_of_ble_eq_true rfl) (Nat.le_of_ble_eq_true rfl) (Nat.le_of_ble_eq_true rfl) (show _ + 0 ≤ 601024 by omega) (show _ + 0 ≤ 7293034 by omega) (fun _ _ _ hf => False.elim hf) (fun r703 h703 n703 hp703 => ?_)
      obtain ⟨z703, s703, e703, rfl, rfl, rfl⟩ := hp703
      obtain ⟨rfl, rfl⟩ := fokI (e3.symm.trans e703)
      refine aw_eqh (h2 := HC m0 sh s ww so sc pl qo pn bm tg px fa (HM s2.1 mw mr ms mt mu s2.2 wi hi gt sp ta li sr co (LB f))) (comm LB_z).symm ?_
      refine aw_iload dL_law_706 rfl ?_
      refine aw_icmp_eq (tgt := 713) dL_law_708 (by decide) (fun _ => ?_) (fun c => absurd rfl c)
      refine aw_iload dL_law_713 rfl ?_
      refine aw_if_ne (tgt := 730) dL_law_715 (by decide) (fun _ => ?_) (fun c => absurd c (by decide))
      refine aw_goto (tgt := 1010) dL_law_730 (by decide) ?_
      exact aw_lv _ (List.forall_mem_cons.mpr ⟨rfl, (List.forall_mem_cons.mpr ⟨rfl, (List.forall_mem_cons.mpr ⟨rfl, (List.forall_mem_cons.mpr ⟨rfl, (List.forall_mem_cons.mpr ⟨rfl, fun _ h => absurd h List.not_mem_nil⟩)⟩)⟩)⟩)⟩) (aw_wide (by omega) (by omega) (kk (m0) (sh) (s) (ww) (so) (sc) (pl) (qo) (pn) (bm) (tg) (px) (fa) (s2.1) (mw) (mr) (ms) (mt) (mu) (s2.2) (wi) (hi) (gt) (sp) (ta) (li) (sr) (co) f hI2))
set_option maxHeartbeats 2000000 in
set_option maxRecDepth 100000 in
theorem law_pixel {b L : Nat} {xs : Nat → Int32} {nm : String} {t : List (Nat × Nat × Nat × Nat)} {I : IV} (S : S_pixel I) (i : Int32) (hix : ∀ d : Int32, d = 1 ∨ d = 2 ∨ d = 3 ∨ d = 4 ∨ d = 5 ∨ d = 6 → vp_in (i + d) L) (k j : Nat) (hk : k + 1 ≤ 601024) (hj : j + 6 ≤ 7293034) (m0 : Mnt) (sh : Nat → Nat) (rr : Nat → Ras) (ww : Nat → Row) (so : Nat) (sc : Src) (pl : Pal) (qo : Qoi) (pn : Pnm) (bm : Bmp) (tg : Tga) (px : Pcx) (fa : A) (mo : MO) (mw : MW) (mr : MR) (ms : Nat) (mt : A) (mu : A) (dd : A) (wi : A) (hi : A) (gt : A) (sp : A) (ta : A) (li : A) (sr : A) (co : A) (f : Nat → Int64) (hI : I m0 sh rr ww so sc pl qo pn bm tg px fa mo mw mr ms mt mu dd wi hi gt sp ta li sr co) (kk : ∀ (m0 : Mnt) (sh : Nat → Nat) (rr : Nat → Ras) (ww : Nat → Row) (so : Nat) (sc : Src) (pl : Pal) (qo : Qoi) (pn : Pnm) (bm : Bmp) (tg : Tga) (px : Pcx) (fa : A) (mo : MO) (mw : MW) (mr : MR) (ms : Nat) (mt : A) (mu : A) (dd : A) (wi : A) (hi : A) (gt : A) (sp : A) (ta : A) (li : A) (sr : A) (co : A) (f : Nat → Int64), I m0 sh rr ww so sc pl qo pn bm tg px fa mo mw mr ms mt mu dd wi hi gt sp ta li sr co → LW b L xs nm t (k + 1) (j + 6) 1010 i (HC m0 sh rr ww so sc pl qo pn bm tg px fa (HM mo mw mr ms mt mu dd wi hi gt sp ta li sr co (LB f)))) : LW b L xs nm t k j 733 i (HC m0 sh rr ww so sc pl qo pn bm tg px fa (HM mo mw mr ms mt mu dd wi hi gt sp ta li sr co (LB f))) := by
  obtain ⟨bv, s2, e2, hd⟩ := S m0 sh rr ww so sc pl qo pn bm tg px fa mo mw mr ms mt mu dd wi hi gt sp ta li sr co hI (xs (Int32.toNatClampNeg (i + 1))) (xs (Int32.toNatClampNeg (i + 2))) (xs (Int32.toNatClampNeg (i + 3)))
  refine aw_aload_n dL_law_733 rfl ?_
  refine aw_aload_nA dL_law_734 rfl ?_
  refine aw_iload dL_law_735 rfl ?_
  refine aw_iconst (v := 1) dL_law_737 (by decide) ?_
  refine aw_iadd dL_law_738 ?_
  refine aw_sld (L := L) (xs := xs) dL_law_739 (fun _ _ h => h) (hix 1 (by decide)) ?_
  refine aw_aload_nA dL_law_740 rfl ?_
  refine aw_iload dL_law_741 rfl ?_
  refine aw_iconst (v := 2) dL_law_743 (by decide) ?_
  refine aw_iadd dL_law_744 ?_
  refine aw_sld (L := L) (xs := xs) dL_law_745 (fun _ _ h => h) (hix 2 (by decide)) ?_
  refine aw_aload_nA dL_law_746 rfl ?_
  refine aw_iload dL_law_747 rfl ?_
  refine aw_iconst (v := 3) dL_law_749 (by decide) ?_
  refine aw_iadd dL_law_750 ?_
  refine aw_sld (L := L) (xs := xs) dL_law_751 (fun _ _ h => h) (hix 3 (by decide)) ?_
  refine aw_aload_n dL_law_752 rfl ?_
  have hF : F_X10_pixel (xs (Int32.toNatClampNeg (i + 1))) (xs (Int32.toNatClampNeg (i + 2))) (xs (Int32.toNatClampNeg (i + 3))) sh rr ≠ fno ∧ ∀ E s, F_X10_pixel (xs (Int32.toNatClampNeg (i + 1))) (xs (Int32.toNatClampNeg (i + 2))) (xs (Int32.toNatClampNeg (i + 3))) sh rr = fex E s → E = "java/lang/IllegalArgumentException" ∨ E = "java/lang/IndexOutOfBoundsException" := by
    rcases hd with ⟨s, e1, -⟩ | ⟨s, e1, -⟩ | ⟨s, e1, -⟩
    · exact ⟨by rw [e1]; exact okne, fun E s h => (okex (e1.symm.trans h)).elim⟩
    · exact ⟨by rw [e1]; exact exne, fun E s h => Or.inl (exI (e1.symm.trans h)).symm⟩
    · exact ⟨by rw [e1]; exact exne, fun E s h => Or.inr (exI (e1.symm.trans h)).symm⟩
  refine aw_callSX dL_law_753 cxL_97 rfl (kL_pixel m0 sh rr ww so sc pl qo pn bm tg px fa mo mw mr ms mt mu dd wi hi gt sp ta li sr co f 44 (xs (Int32.toNatClampNeg (i + 1))) (xs (Int32.toNatClampNeg (i + 2))) (xs (Int32.toNatClampNeg (i + 3))) hF.1 hF.2) rfl (Nat.le_of_ble_eq_true rfl) (Nat.le_of_ble_eq_true rfl) (Nat.le_of_ble_eq_true rfl) (show k + 1 ≤ 601024 by omega) (show j + 6 ≤ 7293034 by omega) (fun _ _ _ hf => False.elim hf) (fun r753 h753 n753 hp753 => ?_)
  rcases hd with ⟨s, e1, e3, hI2⟩ | ⟨s, e1, e3, hI2⟩ | ⟨s, e1, e3, hI2⟩
  · rcases hp753 with ⟨z753, s753, e753, rfl, rfl, rfl⟩ | ⟨s753, e753, rfl, rfl, rfl⟩ | ⟨s753, e753, rfl, rfl, rfl⟩
    · obtain ⟨rfl, rfl⟩ := fokI (e1.symm.trans e753)
      refine aw_istore (lv2 := [(5, _), (0, _), (1, _), (2, _), (3, _), (4, _)]) dL_law_756 (Nat.le_of_ble_eq_true rfl) rfl ?_
      refine aw_aload_n dL_law_758 rfl ?_
      refine aw_aload_nA dL_law_759 rfl ?_
      refine aw_iload dL_law_760 rfl ?_
      refine aw_iconst (v := 1) dL_law_762 (by decide) ?_
      refine aw_iadd dL_law_763 ?_
      refine aw_sld (L := L) (xs := xs) dL_law_764 (fun _ _ h => h) (hix 1 (by decide)) ?_
      refine aw_aload_nA dL_law_765 rfl ?_
      refine aw_iload dL_law_766 rfl ?_
      refine aw_iconst (v := 2) dL_law_768 (by decide) ?_
      refine aw_iadd dL_law_769 ?_
      refine aw_sld (L := L) (xs := xs) dL_law_770 (fun _ _ h => h) (hix 2 (by decide)) ?_
      refine aw_aload_nA dL_law_771 rfl ?_
      refine aw_iload dL_law_772 rfl ?_
      refine aw_iconst (v := 3) dL_law_774 (by decide) ?_
      refine aw_iadd dL_law_775 ?_
      refine aw_sld (L := L) (xs := xs) dL_law_776 (fun _ _ h => h) (hix 3 (by decide)) ?_
      refine aw_eqh (h2 := HM mo mw mr ms mt mu dd wi hi gt sp ta li sr co (HC m0 sh rr ww so sc pl qo pn bm tg px fa (LB (vp_updL f (Int32.toNatClampNeg 0) bv.toInt64)))) (comm LB_z) ?_
      refine aw_callV dL_law_777 at_mod cvL_100 rfl (kF_X11_pixel (mo) (mw) (mr) (ms) (mt) (mu) (dd) (wi) (hi) (gt) (sp) (ta) (li) (sr) (co) (HC (m0) (sh) (rr) (ww) (so) (sc) (pl) (qo) (pn) (bm) (tg) (px) (fa) (LB (vp_updL f (Int32.toNatClampNeg 0) bv.toInt64))) 44 (xs (Int32.toNatClampNeg (i + 1))) (xs (Int32.toNatClampNeg (i + 2))) (xs (Int32.toNatClampNeg (i + 3))) (by rw [e2]; exact okne)) rfl (Nat.le_of_ble_eq_true rfl) (Nat.le_of_ble_eq_true rfl) (Nat.le_of_ble_eq_true rfl) (show _ + 0 ≤ 601024 by omega) (show _ + 0 ≤ 7293034 by omega) (fun _ _ _ hf => False.elim hf) (fun r777 h777 n777 hp777 => ?_)
      obtain ⟨z777, s777, e777, rfl, rfl, rfl⟩ := hp777
      obtain ⟨rfl, rfl⟩ := fokI (e2.symm.trans e777)
      refine aw_eqh (h2 := HC m0 sh rr ww so sc pl qo pn bm tg px fa (HM s2 mw mr ms mt mu dd wi hi gt sp ta li sr co (LB (vp_updL f (Int32.toNatClampNeg 0) bv.toInt64)))) (comm LB_z).symm ?_
      refine aw_istore (lv2 := [(6, _), (5, _), (0, _), (1, _), (2, _), (3, _), (4, _)]) dL_law_780 (Nat.le_of_ble_eq_true rfl) rfl ?_
      refine aw_aload_n dL_law_782 rfl ?_
      refine aw_eqh (h2 := HM s2 mw mr ms mt mu dd wi hi gt sp ta li sr co (HC m0 sh rr ww so sc pl qo pn bm tg px fa (LB (vp_updL f (Int32.toNatClampNeg 0) bv.toInt64)))) (comm LB_z) ?_
      refine aw_callV dL_law_783 at_mod cvL_60 rfl (kF_X11_thrown (s2) (mw) (mr) (ms) (mt) (mu) (dd) (wi) (hi) (gt) (sp) (ta) (li) (sr) (co) (HC (m0) (sh) (rr) (ww) (so) (sc) (pl) (qo) (pn) (bm) (tg) (px) (fa) (LB (vp_updL f (Int32.toNatClampNeg 0) bv.toInt64))) 44  (by rw [e3]; exact okne)) rfl (Nat.le_of_ble_eq_true rfl) (Nat.le_of_ble_eq_true rfl) (Nat.le_of_ble_eq_true rfl) (show _ + 0 ≤ 601024 by omega) (show _ + 0 ≤ 7293034 by omega) (fun _ _ _ hf => False.elim hf) (fun r783 h783 n783 hp783 => ?_)
      obtain ⟨z783, s783, e783, rfl, rfl, rfl⟩ := hp783
      obtain ⟨rfl, rfl⟩ := fokI (e3.symm.trans e783)
      refine aw_eqh (h2 := HC m0 sh rr ww so sc pl qo pn bm tg px fa (HM s2 mw mr ms mt mu dd wi hi gt sp ta li sr co (LB (vp_updL f (Int32.toNatClampNeg 0) bv.toInt64)))) (comm LB_z).symm ?_
      refine aw_iload dL_law_786 rfl ?_
      refine aw_icmp_eq (tgt := 793) dL_law_788 (by decide) (fun _ => ?_) (fun c => absurd rfl c)
      refine aw_iload dL_law_793 rfl ?_
      refine aw_if_ne (tgt := 810) dL_law_795 (by decide) (fun c => absurd rfl c) (fun _ => ?_)
      refine aw_aload_n dL_law_798 rfl ?_
      refine aw_iconst (v := 0) dL_law_799 (by decide) ?_
      refine aw_lald dL_law_800 at_out (vp_in_iff.mpr (by decide)) ?_
      refine aw_iload dL_law_801 rfl ?_
      refine aw_i2l dL_law_803 ?_
      refine aw_lcmp dL_law_804 ?_
      rw [updL_same, lgc]
      refine aw_if_eq (tgt := 810) dL_law_805 (by decide) (fun _ => ?_) (fun c => absurd rfl c)
      refine aw_goto (tgt := 1010) dL_law_810 (by decide) ?_
      exact aw_lv _ (List.forall_mem_cons.mpr ⟨rfl, (List.forall_mem_cons.mpr ⟨rfl, (List.forall_mem_cons.mpr ⟨rfl, (List.forall_mem_cons.mpr ⟨rfl, (List.forall_mem_cons.mpr ⟨rfl, fun _ h => absurd h List.not_mem_nil⟩)⟩)⟩)⟩)⟩) (aw_wide (by omega) (by omega) (kk (m0) (sh) (rr) (ww) (so) (sc) (pl) (qo) (pn) (bm) (tg) (px) (fa) (s2) (mw) (mr) (ms) (mt) (mu) (dd) (wi) (hi) (gt) (sp) (ta) (li) (sr) (co) (vp_updL f (Int32.toNatClampNeg 0) bv.toInt64) hI2))
    · exact (okex (e1.symm.trans e753)).elim
    · exact (okex (e1.symm.trans e753)).elim
  · rcases hp753 with ⟨z753, s753, e753, rfl, rfl, rfl⟩ | ⟨s753, e753, rfl, rfl, rfl⟩ | ⟨s753, e753, rfl, rfl, rfl⟩
    · exact (okex (e753.symm.trans e1)).elim
    · obtain rfl := fexI (e1.symm.trans e753)
      refine aw_istore (lv2 := [(5, _), (0, _), (1, _), (2, _), (3, _), (4, _)]) dL_law_756 (Nat.le_of_ble_eq_true rfl) rfl ?_
      refine aw_aload_n dL_law_758 rfl ?_
      refine aw_aload_nA dL_law_759 rfl ?_
      refine aw_iload dL_law_760 rfl ?_
      refine aw_iconst (v := 1) dL_law_762 (by decide) ?_
      refine aw_iadd dL_law_763 ?_
      refine aw_sld (L := L) (xs := xs) dL_law_764 (fun _ _ h => h) (hix 1 (by decide)) ?_
      refine aw_aload_nA dL_law_765 rfl ?_
      refine aw_iload dL_law_766 rfl ?_
      refine aw_iconst (v := 2) dL_law_768 (by decide) ?_
      refine aw_iadd dL_law_769 ?_
      refine aw_sld (L := L) (xs := xs) dL_law_770 (fun _ _ h => h) (hix 2 (by decide)) ?_
      refine aw_aload_nA dL_law_771 rfl ?_
      refine aw_iload dL_law_772 rfl ?_
      refine aw_iconst (v := 3) dL_law_774 (by decide) ?_
      refine aw_iadd dL_law_775 ?_
      refine aw_sld (L := L) (xs := xs) dL_law_776 (fun _ _ h => h) (hix 3 (by decide)) ?_
      refine aw_eqh (h2 := HM mo mw mr ms mt mu dd wi hi gt sp ta li sr co (HC m0 sh rr ww so sc pl qo pn bm tg px fa (LB f))) (comm LB_z) ?_
      refine aw_callV dL_law_777 at_mod cvL_100 rfl (kF_X11_pixel (mo) (mw) (mr) (ms) (mt) (mu) (dd) (wi) (hi) (gt) (sp) (ta) (li) (sr) (co) (HC (m0) (sh) (rr) (ww) (so) (sc) (pl) (qo) (pn) (bm) (tg) (px) (fa) (LB f)) 44 (xs (Int32.toNatClampNeg (i + 1))) (xs (Int32.toNatClampNeg (i + 2))) (xs (Int32.toNatClampNeg (i + 3))) (by rw [e2]; exact okne)) rfl (Nat.le_of_ble_eq_true rfl) (Nat.le_of_ble_eq_true rfl) (Nat.le_of_ble_eq_true rfl) (show _ + 0 ≤ 601024 by omega) (show _ + 0 ≤ 7293034 by omega) (fun _ _ _ hf => False.elim hf) (fun r777 h777 n777 hp777 => ?_)
      obtain ⟨z777, s777, e777, rfl, rfl, rfl⟩ := hp777
      obtain ⟨rfl, rfl⟩ := fokI (e2.symm.trans e777)
      refine aw_eqh (h2 := HC m0 sh rr ww so sc pl qo pn bm tg px fa (HM s2 mw mr ms mt mu dd wi hi gt sp ta li sr co (LB f))) (comm LB_z).symm ?_
      refine aw_istore (lv2 := [(6, _), (5, _), (0, _), (1, _), (2, _), (3, _), (4, _)]) dL_law_780 (Nat.le_of_ble_eq_true rfl) rfl ?_
      refine aw_aload_n dL_law_782 rfl ?_
      refine aw_eqh (h2 := HM s2 mw mr ms mt mu dd wi hi gt sp ta li sr co (HC m0 sh rr ww so sc pl qo pn bm tg px fa (LB f))) (comm LB_z) ?_
      refine aw_callV dL_law_783 at_mod cvL_60 rfl (kF_X11_thrown (s2) (mw) (mr) (ms) (mt) (mu) (dd) (wi) (hi) (gt) (sp) (ta) (li) (sr) (co) (HC (m0) (sh) (rr) (ww) (so) (sc) (pl) (qo) (pn) (bm) (tg) (px) (fa) (LB f)) 44  (by rw [e3]; exact okne)) rfl (Nat.le_of_ble_eq_true rfl) (Nat.le_of_ble_eq_true rfl) (Nat.le_of_ble_eq_true rfl) (show _ + 0 ≤ 601024 by omega) (show _ + 0 ≤ 7293034 by omega) (fun _ _ _ hf => False.elim hf) (fun r783 h783 n783 hp783 => ?_)
      obtain ⟨z783, s783, e783, rfl, rfl, rfl⟩ := hp783
      obtain ⟨rfl, rfl⟩ := fokI (e3.symm.trans e783)
      refine aw_eqh (h2 := HC m0 sh rr ww so sc pl qo pn bm tg px fa (HM s2 mw mr ms mt mu dd wi hi gt sp ta li sr co (LB f))) (comm LB_z).symm ?_
      refine aw_iload dL_law_786 rfl ?_
      refine aw_icmp_eq (tgt := 793) dL_law_788 (by decide) (fun _ => ?_) (fun c => absurd rfl c)
      refine aw_iload dL_law_793 rfl ?_
      refine aw_if_ne (tgt := 810) dL_law_795 (by decide) (fun _ => ?_) (fun c => absurd c (by decide))
      refine aw_goto (tgt := 1010) dL_law_810 (by decide) ?_
      exact aw_lv _ (List.forall_mem_cons.mpr ⟨rfl, (List.forall_mem_cons.mpr ⟨rfl, (List.forall_mem_cons.mpr ⟨rfl, (List.forall_mem_cons.mpr ⟨rfl, (List.forall_mem_cons.mpr ⟨rfl, fun _ h => absurd h List.not_mem_nil⟩)⟩)⟩)⟩)⟩) (aw_wide (by omega) (by omega) (kk (m0) (sh) (rr) (ww) (so) (sc) (pl) (qo) (pn) (bm) (tg) (px) (fa) (s2) (mw) (mr) (ms) (mt) (mu) (dd) (wi) (hi) (gt) (sp) (ta) (li) (sr) (co) f hI2))
    · exact absurd (exI (e1.symm.trans e753)) (by decide)
  · rcases hp753 with ⟨z753, s753, e753, rfl, rfl, rfl⟩ | ⟨s753, e753, rfl, rfl, rfl⟩ | ⟨s753, e753, rfl, rfl, rfl⟩
    · exact (okex (e753.symm.trans e1)).elim
    · exact absurd (exI (e1.symm.trans e753)) (by decide)
    · obtain rfl := fexI (e1.symm.trans e753)
      refine aw_istore (lv2 := [(5, _), (0, _), (1, _), (2, _), (3, _), (4, _)]) dL_law_756 (Nat.le_of_ble_eq_true rfl) rfl ?_
      refine aw_aload_n dL_law_758 rfl ?_
      refine aw_aload_nA dL_law_759 rfl ?_
      refine aw_iload dL_law_760 rfl ?_
      refine aw_iconst (v := 1) dL_law_762 (by decide) ?_
      refine aw_iadd dL_law_763 ?_
      refine aw_sld (L := L) (xs := xs) dL_law_764 (fun _ _ h => h) (hix 1 (by decide)) ?_
      refine aw_aload_nA dL_law_765 rfl ?_
      refine aw_iload dL_law_766 rfl ?_
      refine aw_iconst (v := 2) dL_law_768 (by decide) ?_
      refine aw_iadd dL_law_769 ?_
      refine aw_sld (L := L) (xs := xs) dL_law_770 (fun _ _ h => h) (hix 2 (by decide)) ?_
      refine aw_aload_nA dL_law_771 rfl ?_
      refine aw_iload dL_law_772 rfl ?_
      refine aw_iconst (v := 3) dL_law_774 (by decide) ?_
      refine aw_iadd dL_law_775 ?_
      refine aw_sld (L := L) (xs := xs) dL_law_776 (fun _ _ h => h) (hix 3 (by decide)) ?_
      refine aw_eqh (h2 := HM mo mw mr ms mt mu dd wi hi gt sp ta li sr co (HC m0 sh rr ww so sc pl qo pn bm tg px fa (LB f))) (comm LB_z) ?_
      refine aw_callV dL_law_777 at_mod cvL_100 rfl (kF_X11_pixel (mo) (mw) (mr) (ms) (mt) (mu) (dd) (wi) (hi) (gt) (sp) (ta) (li) (sr) (co) (HC (m0) (sh) (rr) (ww) (so) (sc) (pl) (qo) (pn) (bm) (tg) (px) (fa) (LB f)) 44 (xs (Int32.toNatClampNeg (i + 1))) (xs (Int32.toNatClampNeg (i + 2))) (xs (Int32.toNatClampNeg (i + 3))) (by rw [e2]; exact okne)) rfl (Nat.le_of_ble_eq_true rfl) (Nat.le_of_ble_eq_true rfl) (Nat.le_of_ble_eq_true rfl) (show _ + 0 ≤ 601024 by omega) (show _ + 0 ≤ 7293034 by omega) (fun _ _ _ hf => False.elim hf) (fun r777 h777 n777 hp777 => ?_)
      obtain ⟨z777, s777, e777, rfl, rfl, rfl⟩ := hp777
      obtain ⟨rfl, rfl⟩ := fokI (e2.symm.trans e777)
      refine aw_eqh (h2 := HC m0 sh rr ww so sc pl qo pn bm tg px fa (HM s2 mw mr ms mt mu dd wi hi gt sp ta li sr co (LB f))) (comm LB_z).symm ?_
      refine aw_istore (lv2 := [(6, _), (5, _), (0, _), (1, _), (2, _), (3, _), (4, _)]) dL_law_780 (Nat.le_of_ble_eq_true rfl) rfl ?_
      refine aw_aload_n dL_law_782 rfl ?_
      refine aw_eqh (h2 := HM s2 mw mr ms mt mu dd wi hi gt sp ta li sr co (HC m0 sh rr ww so sc pl qo pn bm tg px fa (LB f))) (comm LB_z) ?_
      refine aw_callV dL_law_783 at_mod cvL_60 rfl (kF_X11_thrown (s2) (mw) (mr) (ms) (mt) (mu) (dd) (wi) (hi) (gt) (sp) (ta) (li) (sr) (co) (HC (m0) (sh) (rr) (ww) (so) (sc) (pl) (qo) (pn) (bm) (tg) (px) (fa) (LB f)) 44  (by rw [e3]; exact okne)) rfl (Nat.le_of_ble_eq_true rfl) (Nat.le_of_ble_eq_true rfl) (Nat.le_of_ble_eq_true rfl) (show _ + 0 ≤ 601024 by omega) (show _ + 0 ≤ 7293034 by omega) (fun _ _ _ hf => False.elim hf) (fun r783 h783 n783 hp783 => ?_)
      obtain ⟨z783, s783, e783, rfl, rfl, rfl⟩ := hp783
      obtain ⟨rfl, rfl⟩ := fokI (e3.symm.trans e783)
      refine aw_eqh (h2 := HC m0 sh rr ww so sc pl qo pn bm tg px fa (HM s2 mw mr ms mt mu dd wi hi gt sp ta li sr co (LB f))) (comm LB_z).symm ?_
      refine aw_iload dL_law_786 rfl ?_
      refine aw_icmp_eq (tgt := 793) dL_law_788 (by decide) (fun _ => ?_) (fun c => absurd rfl c)
      refine aw_iload dL_law_793 rfl ?_
      refine aw_if_ne (tgt := 810) dL_law_795 (by decide) (fun _ => ?_) (fun c => absurd c (by decide))
      refine aw_goto (tgt := 1010) dL_law_810 (by decide) ?_
      exact aw_lv _ (List.forall_mem_cons.mpr ⟨rfl, (List.forall_mem_cons.mpr ⟨rfl, (List.forall_mem_cons.mpr ⟨rfl, (List.forall_mem_cons.mpr ⟨rfl, (List.forall_mem_cons.mpr ⟨rfl, fun _ h => absurd h List.not_mem_nil⟩)⟩)⟩)⟩)⟩) (aw_wide (by omega) (by omega) (kk (m0) (sh) (rr) (ww) (so) (sc) (pl) (qo) (pn) (bm) (tg) (px) (fa) (s2) (mw) (mr) (ms) (mt) (mu) (dd) (wi) (hi) (gt) (sp) (ta) (li) (sr) (co) f hI2))
set_option maxHeartbeats 2000000 in
set_option maxRecDepth 100000 in
theorem law_raster {b L : Nat} {xs : Nat → Int32} {nm : String} {t : List (Nat × Nat × Nat × Nat)} {I : IV} (S : S_raster I) (i : Int32) (hix : ∀ d : Int32, d = 1 ∨ d = 2 ∨ d = 3 ∨ d = 4 ∨ d = 5 ∨ d = 6 → vp_in (i + d) L) (k j : Nat) (hk : k + 1 ≤ 601024) (hj : j + 6 ≤ 7293034) (m0 : Mnt) (sh : Nat → Nat) (rr : Nat → Ras) (ww : Nat → Row) (so : Nat) (sc : Src) (pl : Pal) (qo : Qoi) (pn : Pnm) (bm : Bmp) (tg : Tga) (px : Pcx) (fa : A) (mo : MO) (mw : MW) (mr : MR) (ms : Nat) (mt : A) (mu : A) (dd : A) (wi : A) (hi : A) (gt : A) (sp : A) (ta : A) (li : A) (sr : A) (co : A) (f : Nat → Int64) (hI : I m0 sh rr ww so sc pl qo pn bm tg px fa mo mw mr ms mt mu dd wi hi gt sp ta li sr co) (kk : ∀ (m0 : Mnt) (sh : Nat → Nat) (rr : Nat → Ras) (ww : Nat → Row) (so : Nat) (sc : Src) (pl : Pal) (qo : Qoi) (pn : Pnm) (bm : Bmp) (tg : Tga) (px : Pcx) (fa : A) (mo : MO) (mw : MW) (mr : MR) (ms : Nat) (mt : A) (mu : A) (dd : A) (wi : A) (hi : A) (gt : A) (sp : A) (ta : A) (li : A) (sr : A) (co : A) (f : Nat → Int64), I m0 sh rr ww so sc pl qo pn bm tg px fa mo mw mr ms mt mu dd wi hi gt sp ta li sr co → LW b L xs nm t (k + 1) (j + 6) 1010 i (HC m0 sh rr ww so sc pl qo pn bm tg px fa (HM mo mw mr ms mt mu dd wi hi gt sp ta li sr co (LB f)))) : LW b L xs nm t k j 813 i (HC m0 sh rr ww so sc pl qo pn bm tg px fa (HM mo mw mr ms mt mu dd wi hi gt sp ta li sr co (LB f))) := by
  obtain ⟨z, s, s2, e1, e2, hI2⟩ := S m0 sh rr ww so sc pl qo pn bm tg px fa mo mw mr ms mt mu dd wi hi gt sp ta li sr co hI (xs (Int32.toNatClampNeg (i + 1))) (xs (Int32.toNatClampNeg (i + 2)))
  refine aw_aload_n dL_law_813 rfl ?_
  refine aw_aload_nA dL_law_814 rfl ?_
  refine aw_iload dL_law_815 rfl ?_
  refine aw_iconst (v := 1) dL_law_817 (by decide) ?_
  refine aw_iadd dL_law_818 ?_
  refine aw_sld (L := L) (xs := xs) dL_law_819 (fun _ _ h => h) (hix 1 (by decide)) ?_
  refine aw_aload_nA dL_law_820 rfl ?_
  refine aw_iload dL_law_821 rfl ?_
  refine aw_iconst (v := 2) dL_law_823 (by decide) ?_
  refine aw_iadd dL_law_824 ?_
  refine aw_sld (L := L) (xs := xs) dL_law_825 (fun _ _ h => h) (hix 2 (by decide)) ?_
  refine aw_callV dL_law_826 at_mint cvL_101 rfl (kF_X10_raster (m0) (sh) (rr) (ww) (so) (sc) (pl) (qo) (pn) (bm) (tg) (px) (fa) (HM (mo) (mw) (mr) (ms) (mt) (mu) (dd) (wi) (hi) (gt) (sp) (ta) (li) (sr) (co) (LB f)) 44 (xs (Int32.toNatClampNeg (i + 1))) (xs (Int32.toNatClampNeg (i + 2))) (by rw [e1]; exact okne)) rfl (Nat.le_of_ble_eq_true rfl) (Nat.le_of_ble_eq_true rfl) (Nat.le_of_ble_eq_true rfl) (show k + 0 ≤ 601024 by omega) (show j + 0 ≤ 7293034 by omega) (fun _ _ _ hf => False.elim hf) (fun r826 h826 n826 hp826 => ?_)
  obtain ⟨z826, s826, e826, rfl, rfl, rfl⟩ := hp826
  obtain ⟨rfl, rfl⟩ := fokI (e1.symm.trans e826)
  refine aw_eqh (h2 := HC m0 sh rr ww so sc s qo pn bm tg px fa (HM mo mw mr ms mt mu dd wi hi gt sp ta li sr co (LB f))) rfl ?_
  refine aw_aload_n dL_law_829 rfl ?_
  refine aw_aload_nA dL_law_830 rfl ?_
  refine aw_iload dL_law_831 rfl ?_
  refine aw_iconst (v := 1) dL_law_833 (by decide) ?_
  refine aw_iadd dL_law_834 ?_
  refine aw_sld (L := L) (xs := xs) dL_law_835 (fun _ _ h => h) (hix 1 (by decide)) ?_
  refine aw_aload_nA dL_law_836 rfl ?_
  refine aw_iload dL_law_837 rfl ?_
  refine aw_iconst (v := 2) dL_law_839 (by decide) ?_
  refine aw_iadd dL_law_840 ?_
  refine aw_sld (L := L) (xs := xs) dL_law_841 (fun _ _ h => h) (hix 2 (by decide)) ?_
  refine aw_eqh (h2 := HM mo mw mr ms mt mu dd wi hi gt sp ta li sr co (HC m0 sh rr ww so sc s qo pn bm tg px fa (LB f))) (comm LB_z) ?_
  refine aw_callV dL_law_842 at_mod cvL_104 rfl (kF_X11_raster (mo) (mw) (mr) (ms) (mt) (mu) (dd) (wi) (hi) (gt) (sp) (ta) (li) (sr) (co) (HC (m0) (sh) (rr) (ww) (so) (sc) (s) (qo) (pn) (bm) (tg) (px) (fa) (LB f)) 44 (xs (Int32.toNatClampNeg (i + 1))) (xs (Int32.toNatClampNeg (i + 2))) (by rw [e2]; exact okne)) rfl (Nat.le_of_ble_eq_true rfl) (Nat.le_of_ble_eq_true rfl) (Nat.le_of_ble_eq_true rfl) (show _ + 0 ≤ 601024 by omega) (show _ + 0 ≤ 7293034 by omega) (fun _ _ _ hf => False.elim hf) (fun r842 h842 n842 hp842 => ?_)
  obtain ⟨z842, s842, e842, rfl, rfl, rfl⟩ := hp842
  obtain ⟨rfl, rfl⟩ := fokI (e2.symm.trans e842)
  refine aw_eqh (h2 := HC m0 sh rr ww so sc s qo pn bm tg px fa (HM s2.1 mw mr ms mt mu dd wi hi gt sp ta li s2.2 co (LB f))) (comm LB_z).symm ?_
  refine aw_icmp_eq (tgt := 1010) dL_law_845 (by decide) (fun _ => ?_) (fun c => absurd rfl c)
  exact aw_lv _ (List.forall_mem_cons.mpr ⟨rfl, (List.forall_mem_cons.mpr ⟨rfl, (List.forall_mem_cons.mpr ⟨rfl, (List.forall_mem_cons.mpr ⟨rfl, (List.forall_mem_cons.mpr ⟨rfl, fun _ h => absurd h List.not_mem_nil⟩)⟩)⟩)⟩)⟩) (aw_wide (by omega) (by omega) (kk (m0) (sh) (rr) (ww) (so) (sc) (s) (qo) (pn) (bm) (tg) (px) (fa) (s2.1) (mw) (mr) (ms) (mt) (mu) (dd) (wi) (hi) (gt) (sp) (ta) (li) (s2.2) (co) f hI2))
set_option maxHeartbeats 2000000 in
set_option maxRecDepth 100000 in
theorem law_holds {b L : Nat} {xs : Nat → Int32} {nm : String} {t : List (Nat × Nat × Nat × Nat)} {I : IV} (S : S_holds I) (i : Int32) (hix : ∀ d : Int32, d = 1 ∨ d = 2 ∨ d = 3 ∨ d = 4 ∨ d = 5 ∨ d = 6 → vp_in (i + d) L) (k j : Nat) (hk : k + 1 ≤ 601024) (hj : j + 6 ≤ 7293034) (m0 : Mnt) (sh : Nat → Nat) (rr : Nat → Ras) (ww : Nat → Row) (so : Nat) (sc : Src) (pl : Pal) (qo : Qoi) (pn : Pnm) (bm : Bmp) (tg : Tga) (px : Pcx) (fa : A) (mo : MO) (mw : MW) (mr : MR) (ms : Nat) (mt : A) (mu : A) (dd : A) (wi : A) (hi : A) (gt : A) (sp : A) (ta : A) (li : A) (sr : A) (co : A) (f : Nat → Int64) (hI : I m0 sh rr ww so sc pl qo pn bm tg px fa mo mw mr ms mt mu dd wi hi gt sp ta li sr co) (kk : ∀ (m0 : Mnt) (sh : Nat → Nat) (rr : Nat → Ras) (ww : Nat → Row) (so : Nat) (sc : Src) (pl : Pal) (qo : Qoi) (pn : Pnm) (bm : Bmp) (tg : Tga) (px : Pcx) (fa : A) (mo : MO) (mw : MW) (mr : MR) (ms : Nat) (mt : A) (mu : A) (dd : A) (wi : A) (hi : A) (gt : A) (sp : A) (ta : A) (li : A) (sr : A) (co : A) (f : Nat → Int64), I m0 sh rr ww so sc pl qo pn bm tg px fa mo mw mr ms mt mu dd wi hi gt sp ta li sr co → LW b L xs nm t (k + 1) (j + 6) 1010 i (HC m0 sh rr ww so sc pl qo pn bm tg px fa (HM mo mw mr ms mt mu dd wi hi gt sp ta li sr co (LB f)))) : LW b L xs nm t k j 850 i (HC m0 sh rr ww so sc pl qo pn bm tg px fa (HM mo mw mr ms mt mu dd wi hi gt sp ta li sr co (LB f))) := by
  obtain ⟨z, s, s2, e1, e2, hI2⟩ := S m0 sh rr ww so sc pl qo pn bm tg px fa mo mw mr ms mt mu dd wi hi gt sp ta li sr co hI (xs (Int32.toNatClampNeg (i + 1))) (xs (Int32.toNatClampNeg (i + 2)))
  refine aw_aload_n dL_law_850 rfl ?_
  refine aw_aload_nA dL_law_851 rfl ?_
  refine aw_iload dL_law_852 rfl ?_
  refine aw_iconst (v := 1) dL_law_854 (by decide) ?_
  refine aw_iadd dL_law_855 ?_
  refine aw_sld (L := L) (xs := xs) dL_law_856 (fun _ _ h => h) (hix 1 (by decide)) ?_
  refine aw_aload_nA dL_law_857 rfl ?_
  refine aw_iload dL_law_858 rfl ?_
  refine aw_iconst (v := 2) dL_law_860 (by decide) ?_
  refine aw_iadd dL_law_861 ?_
  refine aw_sld (L := L) (xs := xs) dL_law_862 (fun _ _ h => h) (hix 2 (by decide)) ?_
  refine aw_callV dL_law_863 at_mint cvL_105 rfl (kF_X10_holds (m0) (sh) (rr) (ww) (so) (sc) (pl) (qo) (pn) (bm) (tg) (px) (fa) (HM (mo) (mw) (mr) (ms) (mt) (mu) (dd) (wi) (hi) (gt) (sp) (ta) (li) (sr) (co) (LB f)) 44 (xs (Int32.toNatClampNeg (i + 1))) (xs (Int32.toNatClampNeg (i + 2))) (by rw [e1]; exact okne)) rfl (Nat.le_of_ble_eq_true rfl) (Nat.le_of_ble_eq_true rfl) (Nat.le_of_ble_eq_true rfl) (show k + 0 ≤ 601024 by omega) (show j + 0 ≤ 7293034 by omega) (fun _ _ _ hf => False.elim hf) (fun r863 h863 n863 hp863 => ?_)
  obtain ⟨z863, s863, e863, rfl, rfl, rfl⟩ := hp863
  obtain ⟨rfl, rfl⟩ := fokI (e1.symm.trans e863)
  refine aw_eqh (h2 := HC m0 sh rr ww so sc s qo pn bm tg px fa (HM mo mw mr ms mt mu dd wi hi gt sp ta li sr co (LB f))) rfl ?_
  refine aw_aload_n dL_law_866 rfl ?_
  refine aw_aload_nA dL_law_867 rfl ?_
  refine aw_iload dL_law_868 rfl ?_
  refine aw_iconst (v := 1) dL_law_870 (by decide) ?_
  refine aw_iadd dL_law_871 ?_
  refine aw_sld (L := L) (xs := xs) dL_law_872 (fun _ _ h => h) (hix 1 (by decide)) ?_
  refine aw_aload_nA dL_law_873 rfl ?_
  refine aw_iload dL_law_874 rfl ?_
  refine aw_iconst (v := 2) dL_law_876 (by decide) ?_
  refine aw_iadd dL_law_877 ?_
  refine aw_sld (L := L) (xs := xs) dL_law_878 (fun _ _ h => h) (hix 2 (by decide)) ?_
  refine aw_eqh (h2 := HM mo mw mr ms mt mu dd wi hi gt sp ta li sr co (HC m0 sh rr ww so sc s qo pn bm tg px fa (LB f))) (comm LB_z) ?_
  refine aw_callV dL_law_879 at_mod cvL_109 rfl (kF_X11_holds (mo) (mw) (mr) (ms) (mt) (mu) (dd) (wi) (hi) (gt) (sp) (ta) (li) (sr) (co) (HC (m0) (sh) (rr) (ww) (so) (sc) (s) (qo) (pn) (bm) (tg) (px) (fa) (LB f)) 44 (xs (Int32.toNatClampNeg (i + 1))) (xs (Int32.toNatClampNeg (i + 2))) (by rw [e2]; exact okne)) rfl (Nat.le_of_ble_eq_true rfl) (Nat.le_of_ble_eq_true rfl) (Nat.le_of_ble_eq_true rfl) (show _ + 0 ≤ 601024 by omega) (show _ + 0 ≤ 7293034 by omega) (fun _ _ _ hf => False.elim hf) (fun r879 h879 n879 hp879 => ?_)
  obtain ⟨z879, s879, e879, rfl, rfl, rfl⟩ := hp879
  obtain ⟨rfl, rfl⟩ := fokI (e2.symm.trans e879)
  refine aw_eqh (h2 := HC m0 sh rr ww so sc s qo pn bm tg px fa (HM s2.1 mw mr ms mt mu dd wi hi gt sp ta li s2.2 co (LB f))) (comm LB_z).symm ?_
  refine aw_icmp_eq (tgt := 1010) dL_law_882 (by decide) (fun _ => ?_) (fun c => absurd rfl c)
  exact aw_lv _ (List.forall_mem_cons.mpr ⟨rfl, (List.forall_mem_cons.mpr ⟨rfl, (List.forall_mem_cons.mpr ⟨rfl, (List.forall_mem_cons.mpr ⟨rfl, (List.forall_mem_cons.mpr ⟨rfl, fun _ h => absurd h List.not_mem_nil⟩)⟩)⟩)⟩)⟩) (aw_wide (by omega) (by omega) (kk (m0) (sh) (rr) (ww) (so) (sc) (s) (qo) (pn) (bm) (tg) (px) (fa) (s2.1) (mw) (mr) (ms) (mt) (mu) (dd) (wi) (hi) (gt) (sp) (ta) (li) (s2.2) (co) f hI2))
set_option maxHeartbeats 2000000 in
set_option maxRecDepth 100000 in
theorem law_copy {b L : Nat} {xs : Nat → Int32} {nm : String} {t : List (Nat × Nat × Nat × Nat)} {I : IV} (S : S_copy I) (i : Int32) (hix : ∀ d : Int32, d = 1 ∨ d = 2 ∨ d = 3 ∨ d = 4 ∨ d = 5 ∨ d = 6 → vp_in (i + d) L) (k j : Nat) (hk : k + 1 ≤ 601024) (hj : j + 6 ≤ 7293034) (m0 : Mnt) (sh : Nat → Nat) (rr : Nat → Ras) (ww : Nat → Row) (so : Nat) (sc : Src) (pl : Pal) (qo : Qoi) (pn : Pnm) (bm : Bmp) (tg : Tga) (px : Pcx) (fa : A) (mo : MO) (mw : MW) (mr : MR) (ms : Nat) (mt : A) (mu : A) (dd : A) (wi : A) (hi : A) (gt : A) (sp : A) (ta : A) (li : A) (sr : A) (co : A) (f : Nat → Int64) (hI : I m0 sh rr ww so sc pl qo pn bm tg px fa mo mw mr ms mt mu dd wi hi gt sp ta li sr co) (kk : ∀ (m0 : Mnt) (sh : Nat → Nat) (rr : Nat → Ras) (ww : Nat → Row) (so : Nat) (sc : Src) (pl : Pal) (qo : Qoi) (pn : Pnm) (bm : Bmp) (tg : Tga) (px : Pcx) (fa : A) (mo : MO) (mw : MW) (mr : MR) (ms : Nat) (mt : A) (mu : A) (dd : A) (wi : A) (hi : A) (gt : A) (sp : A) (ta : A) (li : A) (sr : A) (co : A) (f : Nat → Int64), I m0 sh rr ww so sc pl qo pn bm tg px fa mo mw mr ms mt mu dd wi hi gt sp ta li sr co → LW b L xs nm t (k + 1) (j + 6) 1010 i (HC m0 sh rr ww so sc pl qo pn bm tg px fa (HM mo mw mr ms mt mu dd wi hi gt sp ta li sr co (LB f)))) : LW b L xs nm t k j 887 i (HC m0 sh rr ww so sc pl qo pn bm tg px fa (HM mo mw mr ms mt mu dd wi hi gt sp ta li sr co (LB f))) := by
  obtain ⟨z, s, s2, e1, e2, hI2⟩ := S m0 sh rr ww so sc pl qo pn bm tg px fa mo mw mr ms mt mu dd wi hi gt sp ta li sr co hI (xs (Int32.toNatClampNeg (i + 1))) (xs (Int32.toNatClampNeg (i + 2)))
  refine aw_aload_n dL_law_887 rfl ?_
  refine aw_aload_nA dL_law_888 rfl ?_
  refine aw_iload dL_law_889 rfl ?_
  refine aw_iconst (v := 1) dL_law_891 (by decide) ?_
  refine aw_iadd dL_law_892 ?_
  refine aw_sld (L := L) (xs := xs) dL_law_893 (fun _ _ h => h) (hix 1 (by decide)) ?_
  refine aw_aload_nA dL_law_894 rfl ?_
  refine aw_iload dL_law_895 rfl ?_
  refine aw_iconst (v := 2) dL_law_897 (by decide) ?_
  refine aw_iadd dL_law_898 ?_
  refine aw_sld (L := L) (xs := xs) dL_law_899 (fun _ _ h => h) (hix 2 (by decide)) ?_
  refine aw_callV dL_law_900 at_mint cvL_110 rfl (kF_X10_copy (m0) (sh) (rr) (ww) (so) (sc) (pl) (qo) (pn) (bm) (tg) (px) (fa) (HM (mo) (mw) (mr) (ms) (mt) (mu) (dd) (wi) (hi) (gt) (sp) (ta) (li) (sr) (co) (LB f)) 44 (xs (Int32.toNatClampNeg (i + 1))) (xs (Int32.toNatClampNeg (i + 2))) (by rw [e1]; exact okne)) rfl (Nat.le_of_ble_eq_true rfl) (Nat.le_of_ble_eq_true rfl) (Nat.le_of_ble_eq_true rfl) (show k + 0 ≤ 601024 by omega) (show j + 0 ≤ 7293034 by omega) (fun _ _ _ hf => False.elim hf) (fun r900 h900 n900 hp900 => ?_)
  obtain ⟨z900, s900, e900, rfl, rfl, rfl⟩ := hp900
  obtain ⟨rfl, rfl⟩ := fokI (e1.symm.trans e900)
  refine aw_eqh (h2 := HC m0 sh s ww so sc pl qo pn bm tg px fa (HM mo mw mr ms mt mu dd wi hi gt sp ta li sr co (LB f))) rfl ?_
  refine aw_aload_n dL_law_903 rfl ?_
  refine aw_aload_nA dL_law_904 rfl ?_
  refine aw_iload dL_law_905 rfl ?_
  refine aw_iconst (v := 1) dL_law_907 (by decide) ?_
  refine aw_iadd dL_law_908 ?_
  refine aw_sld (L := L) (xs := xs) dL_law_909 (fun _ _ h => h) (hix 1 (by decide)) ?_
  refine aw_aload_nA dL_law_910 rfl ?_
  refine aw_iload dL_law_911 rfl ?_
  refine aw_iconst (v := 2) dL_law_913 (by decide) ?_
  refine aw_iadd dL_law_914 ?_
  refine aw_sld (L := L) (xs := xs) dL_law_915 (fun _ _ h => h) (hix 2 (by decide)) ?_
  refine aw_eqh (h2 := HM mo mw mr ms mt mu dd wi hi gt sp ta li sr co (HC m0 sh s ww so sc pl qo pn bm tg px fa (LB f))) (comm LB_z) ?_
  refine aw_callV dL_law_916 at_mod cvL_113 rfl (kF_X11_copy (mo) (mw) (mr) (ms) (mt) (mu) (dd) (wi) (hi) (gt) (sp) (ta) (li) (sr) (co) (HC (m0) (sh) (s) (ww) (so) (sc) (pl) (qo) (pn) (bm) (tg) (px) (fa) (LB f)) 44 (xs (Int32.toNatClampNeg (i + 1))) (xs (Int32.toNatClampNeg (i + 2))) (by rw [e2]; exact okne)) rfl (Nat.le_of_ble_eq_true rfl) (Nat.le_of_ble_eq_true rfl) (Nat.le_of_ble_eq_true rfl) (show _ + 0 ≤ 601024 by omega) (show _ + 0 ≤ 7293034 by omega) (fun _ _ _ hf => False.elim hf) (fun r916 h916 n916 hp916 => ?_)
  obtain ⟨z916, s916, e916, rfl, rfl, rfl⟩ := hp916
  obtain ⟨rfl, rfl⟩ := fokI (e2.symm.trans e916)
  refine aw_eqh (h2 := HC m0 sh s ww so sc pl qo pn bm tg px fa (HM s2.1 mw mr ms mt mu s2.2.1 s2.2.2.1 s2.2.2.2 gt sp ta li sr co (LB f))) (comm LB_z).symm ?_
  refine aw_icmp_eq (tgt := 1010) dL_law_919 (by decide) (fun _ => ?_) (fun c => absurd rfl c)
  exact aw_lv _ (List.forall_mem_cons.mpr ⟨rfl, (List.forall_mem_cons.mpr ⟨rfl, (List.forall_mem_cons.mpr ⟨rfl, (List.forall_mem_cons.mpr ⟨rfl, (List.forall_mem_cons.mpr ⟨rfl, fun _ h => absurd h List.not_mem_nil⟩)⟩)⟩)⟩)⟩) (aw_wide (by omega) (by omega) (kk (m0) (sh) (s) (ww) (so) (sc) (pl) (qo) (pn) (bm) (tg) (px) (fa) (s2.1) (mw) (mr) (ms) (mt) (mu) (s2.2.1) (s2.2.2.1) (s2.2.2.2) (gt) (sp) (ta) (li) (sr) (co) f hI2))
set_option maxHeartbeats 2000000 in
set_option maxRecDepth 100000 in
theorem law_same {b L : Nat} {xs : Nat → Int32} {nm : String} {t : List (Nat × Nat × Nat × Nat)} {I : IV} (S : S_same I) (i : Int32) (hix : ∀ d : Int32, d = 1 ∨ d = 2 ∨ d = 3 ∨ d = 4 ∨ d = 5 ∨ d = 6 → vp_in (i + d) L) (k j : Nat) (hk : k + 1 ≤ 601024) (hj : j + 6 ≤ 7293034) (m0 : Mnt) (sh : Nat → Nat) (rr : Nat → Ras) (ww : Nat → Row) (so : Nat) (sc : Src) (pl : Pal) (qo : Qoi) (pn : Pnm) (bm : Bmp) (tg : Tga) (px : Pcx) (fa : A) (mo : MO) (mw : MW) (mr : MR) (ms : Nat) (mt : A) (mu : A) (dd : A) (wi : A) (hi : A) (gt : A) (sp : A) (ta : A) (li : A) (sr : A) (co : A) (f : Nat → Int64) (hI : I m0 sh rr ww so sc pl qo pn bm tg px fa mo mw mr ms mt mu dd wi hi gt sp ta li sr co) (kk : ∀ (m0 : Mnt) (sh : Nat → Nat) (rr : Nat → Ras) (ww : Nat → Row) (so : Nat) (sc : Src) (pl : Pal) (qo : Qoi) (pn : Pnm) (bm : Bmp) (tg : Tga) (px : Pcx) (fa : A) (mo : MO) (mw : MW) (mr : MR) (ms : Nat) (mt : A) (mu : A) (dd : A) (wi : A) (hi : A) (gt : A) (sp : A) (ta : A) (li : A) (sr : A) (co : A) (f : Nat → Int64), I m0 sh rr ww so sc pl qo pn bm tg px fa mo mw mr ms mt mu dd wi hi gt sp ta li sr co → LW b L xs nm t (k + 1) (j + 6) 1010 i (HC m0 sh rr ww so sc pl qo pn bm tg px fa (HM mo mw mr ms mt mu dd wi hi gt sp ta li sr co (LB f)))) : LW b L xs nm t k j 924 i (HC m0 sh rr ww so sc pl qo pn bm tg px fa (HM mo mw mr ms mt mu dd wi hi gt sp ta li sr co (LB f))) := by
  obtain ⟨z, s, s2, e1, e2, hI2⟩ := S m0 sh rr ww so sc pl qo pn bm tg px fa mo mw mr ms mt mu dd wi hi gt sp ta li sr co hI (xs (Int32.toNatClampNeg (i + 1))) (xs (Int32.toNatClampNeg (i + 2)))
  refine aw_aload_n dL_law_924 rfl ?_
  refine aw_aload_nA dL_law_925 rfl ?_
  refine aw_iload dL_law_926 rfl ?_
  refine aw_iconst (v := 1) dL_law_928 (by decide) ?_
  refine aw_iadd dL_law_929 ?_
  refine aw_sld (L := L) (xs := xs) dL_law_930 (fun _ _ h => h) (hix 1 (by decide)) ?_
  refine aw_aload_nA dL_law_931 rfl ?_
  refine aw_iload dL_law_932 rfl ?_
  refine aw_iconst (v := 2) dL_law_934 (by decide) ?_
  refine aw_iadd dL_law_935 ?_
  refine aw_sld (L := L) (xs := xs) dL_law_936 (fun _ _ h => h) (hix 2 (by decide)) ?_
  refine aw_callV dL_law_937 at_mint cvL_114 rfl (kF_X10_same (m0) (sh) (rr) (ww) (so) (sc) (pl) (qo) (pn) (bm) (tg) (px) (fa) (HM (mo) (mw) (mr) (ms) (mt) (mu) (dd) (wi) (hi) (gt) (sp) (ta) (li) (sr) (co) (LB f)) 44 (xs (Int32.toNatClampNeg (i + 1))) (xs (Int32.toNatClampNeg (i + 2))) (by rw [e1]; exact okne)) rfl (Nat.le_of_ble_eq_true rfl) (Nat.le_of_ble_eq_true rfl) (Nat.le_of_ble_eq_true rfl) (show k + 0 ≤ 601024 by omega) (show j + 0 ≤ 7293034 by omega) (fun _ _ _ hf => False.elim hf) (fun r937 h937 n937 hp937 => ?_)
  obtain ⟨z937, s937, e937, rfl, rfl, rfl⟩ := hp937
  obtain ⟨rfl, rfl⟩ := fokI (e1.symm.trans e937)
  refine aw_eqh (h2 := HC m0 sh rr ww so sc pl qo pn bm tg px fa (HM mo mw mr ms mt mu dd wi hi gt sp ta li sr co (LB f))) rfl ?_
  refine aw_aload_n dL_law_940 rfl ?_
  refine aw_aload_nA dL_law_941 rfl ?_
  refine aw_iload dL_law_942 rfl ?_
  refine aw_iconst (v := 1) dL_law_944 (by decide) ?_
  refine aw_iadd dL_law_945 ?_
  refine aw_sld (L := L) (xs := xs) dL_law_946 (fun _ _ h => h) (hix 1 (by decide)) ?_
  refine aw_aload_nA dL_law_947 rfl ?_
  refine aw_iload dL_law_948 rfl ?_
  refine aw_iconst (v := 2) dL_law_950 (by decide) ?_
  refine aw_iadd dL_law_951 ?_
  refine aw_sld (L := L) (xs := xs) dL_law_952 (fun _ _ h => h) (hix 2 (by decide)) ?_
  refine aw_eqh (h2 := HM mo mw mr ms mt mu dd wi hi gt sp ta li sr co (HC m0 sh rr ww so sc pl qo pn bm tg px fa (LB f))) (comm LB_z) ?_
  refine aw_callV dL_law_953 at_mod cvL_117 rfl (kF_X11_same (mo) (mw) (mr) (ms) (mt) (mu) (dd) (wi) (hi) (gt) (sp) (ta) (li) (sr) (co) (HC (m0) (sh) (rr) (ww) (so) (sc) (pl) (qo) (pn) (bm) (tg) (px) (fa) (LB f)) 44 (xs (Int32.toNatClampNeg (i + 1))) (xs (Int32.toNatClampNeg (i + 2))) (by rw [e2]; exact okne)) rfl (Nat.le_of_ble_eq_true rfl) (Nat.le_of_ble_eq_true rfl) (Nat.le_of_ble_eq_true rfl) (show _ + 0 ≤ 601024 by omega) (show _ + 0 ≤ 7293034 by omega) (fun _ _ _ hf => False.elim hf) (fun r953 h953 n953 hp953 => ?_)
  obtain ⟨z953, s953, e953, rfl, rfl, rfl⟩ := hp953
  obtain ⟨rfl, rfl⟩ := fokI (e2.symm.trans e953)
  refine aw_eqh (h2 := HC m0 sh rr ww so sc pl qo pn bm tg px fa (HM s2 mw mr ms mt mu dd wi hi gt sp ta li sr co (LB f))) (comm LB_z).symm ?_
  refine aw_icmp_eq (tgt := 1010) dL_law_956 (by decide) (fun _ => ?_) (fun c => absurd rfl c)
  exact aw_lv _ (List.forall_mem_cons.mpr ⟨rfl, (List.forall_mem_cons.mpr ⟨rfl, (List.forall_mem_cons.mpr ⟨rfl, (List.forall_mem_cons.mpr ⟨rfl, (List.forall_mem_cons.mpr ⟨rfl, fun _ h => absurd h List.not_mem_nil⟩)⟩)⟩)⟩)⟩) (aw_wide (by omega) (by omega) (kk (m0) (sh) (rr) (ww) (so) (sc) (pl) (qo) (pn) (bm) (tg) (px) (fa) (s2) (mw) (mr) (ms) (mt) (mu) (dd) (wi) (hi) (gt) (sp) (ta) (li) (sr) (co) f hI2))
set_option maxHeartbeats 2000000 in
set_option maxRecDepth 100000 in
theorem law_chain {b L : Nat} {xs : Nat → Int32} {nm : String} {t : List (Nat × Nat × Nat × Nat)} {I : IV} (S : S_chain I) (i : Int32) (hix : ∀ d : Int32, d = 1 ∨ d = 2 ∨ d = 3 ∨ d = 4 ∨ d = 5 ∨ d = 6 → vp_in (i + d) L) (k j : Nat) (hk : k + 1 ≤ 601024) (hj : j + 6 ≤ 7293034) (m0 : Mnt) (sh : Nat → Nat) (rr : Nat → Ras) (ww : Nat → Row) (so : Nat) (sc : Src) (pl : Pal) (qo : Qoi) (pn : Pnm) (bm : Bmp) (tg : Tga) (px : Pcx) (fa : A) (mo : MO) (mw : MW) (mr : MR) (ms : Nat) (mt : A) (mu : A) (dd : A) (wi : A) (hi : A) (gt : A) (sp : A) (ta : A) (li : A) (sr : A) (co : A) (f : Nat → Int64) (hI : I m0 sh rr ww so sc pl qo pn bm tg px fa mo mw mr ms mt mu dd wi hi gt sp ta li sr co) (kk : ∀ (m0 : Mnt) (sh : Nat → Nat) (rr : Nat → Ras) (ww : Nat → Row) (so : Nat) (sc : Src) (pl : Pal) (qo : Qoi) (pn : Pnm) (bm : Bmp) (tg : Tga) (px : Pcx) (fa : A) (mo : MO) (mw : MW) (mr : MR) (ms : Nat) (mt : A) (mu : A) (dd : A) (wi : A) (hi : A) (gt : A) (sp : A) (ta : A) (li : A) (sr : A) (co : A) (f : Nat → Int64), I m0 sh rr ww so sc pl qo pn bm tg px fa mo mw mr ms mt mu dd wi hi gt sp ta li sr co → LW b L xs nm t (k + 1) (j + 6) 1010 i (HC m0 sh rr ww so sc pl qo pn bm tg px fa (HM mo mw mr ms mt mu dd wi hi gt sp ta li sr co (LB f)))) : LW b L xs nm t k j 961 i (HC m0 sh rr ww so sc pl qo pn bm tg px fa (HM mo mw mr ms mt mu dd wi hi gt sp ta li sr co (LB f))) := by
  obtain ⟨z, s, s2, e1, e2, hI2⟩ := S m0 sh rr ww so sc pl qo pn bm tg px fa mo mw mr ms mt mu dd wi hi gt sp ta li sr co hI (xs (Int32.toNatClampNeg (i + 1))) (xs (Int32.toNatClampNeg (i + 2))) (xs (Int32.toNatClampNeg (i + 3)))
  refine aw_aload_n dL_law_961 rfl ?_
  refine aw_aload_nA dL_law_962 rfl ?_
  refine aw_iload dL_law_963 rfl ?_
  refine aw_iconst (v := 1) dL_law_965 (by decide) ?_
  refine aw_iadd dL_law_966 ?_
  refine aw_sld (L := L) (xs := xs) dL_law_967 (fun _ _ h => h) (hix 1 (by decide)) ?_
  refine aw_aload_nA dL_law_968 rfl ?_
  refine aw_iload dL_law_969 rfl ?_
  refine aw_iconst (v := 2) dL_law_971 (by decide) ?_
  refine aw_iadd dL_law_972 ?_
  refine aw_sld (L := L) (xs := xs) dL_law_973 (fun _ _ h => h) (hix 2 (by decide)) ?_
  refine aw_aload_nA dL_law_974 rfl ?_
  refine aw_iload dL_law_975 rfl ?_
  refine aw_iconst (v := 3) dL_law_977 (by decide) ?_
  refine aw_iadd dL_law_978 ?_
  refine aw_sld (L := L) (xs := xs) dL_law_979 (fun _ _ h => h) (hix 3 (by decide)) ?_
  refine aw_callV dL_law_980 at_mint cvL_118 rfl (kF_X10_chain (m0) (sh) (rr) (ww) (so) (sc) (pl) (qo) (pn) (bm) (tg) (px) (fa) (HM (mo) (mw) (mr) (ms) (mt) (mu) (dd) (wi) (hi) (gt) (sp) (ta) (li) (sr) (co) (LB f)) 44 (xs (Int32.toNatClampNeg (i + 1))) (xs (Int32.toNatClampNeg (i + 2))) (xs (Int32.toNatClampNeg (i + 3))) (by rw [e1]; exact okne)) rfl (Nat.le_of_ble_eq_true rfl) (Nat.le_of_ble_eq_true rfl) (Nat.le_of_ble_eq_true rfl) (show k + 1 ≤ 601024 by omega) (show j + 6 ≤ 7293034 by omega) (fun _ _ _ hf => False.elim hf) (fun r980 h980 n980 hp980 => ?_)
  obtain ⟨z980, s980, e980, rfl, rfl, rfl⟩ := hp980
  obtain ⟨rfl, rfl⟩ := fokI (e1.symm.trans e980)
  refine aw_eqh (h2 := HC s.1 s.2.1 s.2.2.1 s.2.2.2.1 s.2.2.2.2.1 s.2.2.2.2.2.1 s.2.2.2.2.2.2.1 s.2.2.2.2.2.2.2.1 s.2.2.2.2.2.2.2.2.1 s.2.2.2.2.2.2.2.2.2.1 s.2.2.2.2.2.2.2.2.2.2.1 s.2.2.2.2.2.2.2.2.2.2.2.1 s.2.2.2.2.2.2.2.2.2.2.2.2 (HM mo mw mr ms mt mu dd wi hi gt sp ta li sr co (LB f))) rfl ?_
  refine aw_aload_n dL_law_983 rfl ?_
  refine aw_aload_nA dL_law_984 rfl ?_
  refine aw_iload dL_law_985 rfl ?_
  refine aw_iconst (v := 1) dL_law_987 (by decide) ?_
  refine aw_iadd dL_law_988 ?_
  refine aw_sld (L := L) (xs := xs) dL_law_989 (fun _ _ h => h) (hix 1 (by decide)) ?_
  refine aw_aload_nA dL_law_990 rfl ?_
  refine aw_iload dL_law_991 rfl ?_
  refine aw_iconst (v := 2) dL_law_993 (by decide) ?_
  refine aw_iadd dL_law_994 ?_
  refine aw_sld (L := L) (xs := xs) dL_law_995 (fun _ _ h => h) (hix 2 (by decide)) ?_
  refine aw_aload_nA dL_law_996 rfl ?_
  refine aw_iload dL_law_997 rfl ?_
  refine aw_iconst (v := 3) dL_law_999 (by decide) ?_
  refine aw_iadd dL_law_1000 ?_
  refine aw_sld (L := L) (xs := xs) dL_law_1001 (fun _ _ h => h) (hix 3 (by decide)) ?_
  refine aw_eqh (h2 := HM mo mw mr ms mt mu dd wi hi gt sp ta li sr co (HC s.1 s.2.1 s.2.2.1 s.2.2.2.1 s.2.2.2.2.1 s.2.2.2.2.2.1 s.2.2.2.2.2.2.1 s.2.2.2.2.2.2.2.1 s.2.2.2.2.2.2.2.2.1 s.2.2.2.2.2.2.2.2.2.1 s.2.2.2.2.2.2.2.2.2.2.1 s.2.2.2.2.2.2.2.2.2.2.2.1 s.2.2.2.2.2.2.2.2.2.2.2.2 (LB f))) (comm LB_z) ?_
  refine aw_callV dL_law_1002 at_mod cvL_121 rfl (kF_X11_chain (mo) (mw) (mr) (ms) (mt) (mu) (dd) (wi) (hi) (gt) (sp) (ta) (li) (sr) (co) (HC (s.1) (s.2.1) (s.2.2.1) (s.2.2.2.1) (s.2.2.2.2.1) (s.2.2.2.2.2.1) (s.2.2.2.2.2.2.1) (s.2.2.2.2.2.2.2.1) (s.2.2.2.2.2.2.2.2.1) (s.2.2.2.2.2.2.2.2.2.1) (s.2.2.2.2.2.2.2.2.2.2.1) (s.2.2.2.2.2.2.2.2.2.2.2.1) (s.2.2.2.2.2.2.2.2.2.2.2.2) (LB f)) 44 (xs (Int32.toNatClampNeg (i + 1))) (xs (Int32.toNatClampNeg (i + 2))) (xs (Int32.toNatClampNeg (i + 3))) (by rw [e2]; exact okne)) rfl (Nat.le_of_ble_eq_true rfl) (Nat.le_of_ble_eq_true rfl) (Nat.le_of_ble_eq_true rfl) (show _ + 0 ≤ 601024 by omega) (show _ + 0 ≤ 7293034 by omega) (fun _ _ _ hf => False.elim hf) (fun r1002 h1002 n1002 hp1002 => ?_)
  obtain ⟨z1002, s1002, e1002, rfl, rfl, rfl⟩ := hp1002
  obtain ⟨rfl, rfl⟩ := fokI (e2.symm.trans e1002)
  refine aw_eqh (h2 := HC s.1 s.2.1 s.2.2.1 s.2.2.2.1 s.2.2.2.2.1 s.2.2.2.2.2.1 s.2.2.2.2.2.2.1 s.2.2.2.2.2.2.2.1 s.2.2.2.2.2.2.2.2.1 s.2.2.2.2.2.2.2.2.2.1 s.2.2.2.2.2.2.2.2.2.2.1 s.2.2.2.2.2.2.2.2.2.2.2.1 s.2.2.2.2.2.2.2.2.2.2.2.2 (HM s2.1 s2.2.1 s2.2.2.1 s2.2.2.2.1 mt s2.2.2.2.2.1 s2.2.2.2.2.2.1 s2.2.2.2.2.2.2.1 s2.2.2.2.2.2.2.2.1 s2.2.2.2.2.2.2.2.2.1 s2.2.2.2.2.2.2.2.2.2.1 s2.2.2.2.2.2.2.2.2.2.2.1 s2.2.2.2.2.2.2.2.2.2.2.2.1 s2.2.2.2.2.2.2.2.2.2.2.2.2.1 s2.2.2.2.2.2.2.2.2.2.2.2.2.2 (LB f))) (comm LB_z).symm ?_
  refine aw_icmp_eq (tgt := 1010) dL_law_1005 (by decide) (fun _ => ?_) (fun c => absurd rfl c)
  exact aw_lv _ (List.forall_mem_cons.mpr ⟨rfl, (List.forall_mem_cons.mpr ⟨rfl, (List.forall_mem_cons.mpr ⟨rfl, (List.forall_mem_cons.mpr ⟨rfl, (List.forall_mem_cons.mpr ⟨rfl, fun _ h => absurd h List.not_mem_nil⟩)⟩)⟩)⟩)⟩) (aw_wide (by omega) (by omega) (kk (s.1) (s.2.1) (s.2.2.1) (s.2.2.2.1) (s.2.2.2.2.1) (s.2.2.2.2.2.1) (s.2.2.2.2.2.2.1) (s.2.2.2.2.2.2.2.1) (s.2.2.2.2.2.2.2.2.1) (s.2.2.2.2.2.2.2.2.2.1) (s.2.2.2.2.2.2.2.2.2.2.1) (s.2.2.2.2.2.2.2.2.2.2.2.1) (s.2.2.2.2.2.2.2.2.2.2.2.2) (s2.1) (s2.2.1) (s2.2.2.1) (s2.2.2.2.1) (mt) (s2.2.2.2.2.1) (s2.2.2.2.2.2.1) (s2.2.2.2.2.2.2.1) (s2.2.2.2.2.2.2.2.1) (s2.2.2.2.2.2.2.2.2.1) (s2.2.2.2.2.2.2.2.2.2.1) (s2.2.2.2.2.2.2.2.2.2.2.1) (s2.2.2.2.2.2.2.2.2.2.2.2.1) (s2.2.2.2.2.2.2.2.2.2.2.2.2.1) (s2.2.2.2.2.2.2.2.2.2.2.2.2.2) f hI2))
