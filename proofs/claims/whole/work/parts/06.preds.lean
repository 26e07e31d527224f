/-! ===== what the cells hold: State, Plan, Way, Pad, History; the reference ===== -/

def StT : Type := (Nat → Int32) × (Nat → Int32) × (Nat → Int32) × (Nat → Int32) × (Nat → Int32) × (Nat → Int32) × (Nat → Int32) × (Nat → Int32) × (Nat → Int32) × Int32
def mkSt (se : Nat → Int32) (la : Nat → Int32) (de : Nat → Int32) (le : Nat → Int32) (sa : Nat → Int32) (fl : Nat → Int32) (ar : Nat → Int32) (dr : Nat → Int32) (pe : Nat → Int32) (ri : Int32) : StT := (se, la, de, le, sa, fl, ar, dr, pe, ri)
def StT.se (x : StT) : Nat → Int32 := x.1
def StT.la (x : StT) : Nat → Int32 := x.2.1
def StT.de (x : StT) : Nat → Int32 := x.2.2.1
def StT.le (x : StT) : Nat → Int32 := x.2.2.2.1
def StT.sa (x : StT) : Nat → Int32 := x.2.2.2.2.1
def StT.fl (x : StT) : Nat → Int32 := x.2.2.2.2.2.1
def StT.ar (x : StT) : Nat → Int32 := x.2.2.2.2.2.2.1
def StT.dr (x : StT) : Nat → Int32 := x.2.2.2.2.2.2.2.1
def StT.pe (x : StT) : Nat → Int32 := x.2.2.2.2.2.2.2.2.1
def StT.ri (x : StT) : Int32 := x.2.2.2.2.2.2.2.2.2
def PlT : Type := (Nat → Int32) × (Nat → Int32) × (Nat → Int32) × (Nat → Int32) × (Nat → Int32) × Int32 × Int32 × Int32
def mkPl (od : Nat → Int32) (rd : Nat → Int32) (vn : Nat → Int32) (pn : Nat → Int32) (ao : Nat → Int32) (sr : Int32) (sp : Int32) (wt : Int32) : PlT := (od, rd, vn, pn, ao, sr, sp, wt)
def PlT.od (x : PlT) : Nat → Int32 := x.1
def PlT.rd (x : PlT) : Nat → Int32 := x.2.1
def PlT.vn (x : PlT) : Nat → Int32 := x.2.2.1
def PlT.pn (x : PlT) : Nat → Int32 := x.2.2.2.1
def PlT.ao (x : PlT) : Nat → Int32 := x.2.2.2.2.1
def PlT.sr (x : PlT) : Int32 := x.2.2.2.2.2.1
def PlT.sp (x : PlT) : Int32 := x.2.2.2.2.2.2.1
def PlT.wt (x : PlT) : Int32 := x.2.2.2.2.2.2.2
def WyT : Type := (Nat → Int32) × (Nat → Int32) × (Nat → Int32) × Int32
def mkWy (ky : Nat → Int32) (wp : Nat → Int32) (mi : Nat → Int32) (so : Int32) : WyT := (ky, wp, mi, so)
def WyT.ky (x : WyT) : Nat → Int32 := x.1
def WyT.wp (x : WyT) : Nat → Int32 := x.2.1
def WyT.mi (x : WyT) : Nat → Int32 := x.2.2.1
def WyT.so (x : WyT) : Int32 := x.2.2.2
def PdT : Type := (Nat → Int32) × Int32
def mkPd (co : Nat → Int32) (ln : Int32) : PdT := (co, ln)
def PdT.co (x : PdT) : Nat → Int32 := x.1
def PdT.ln (x : PdT) : Int32 := x.2
def updS (f : Nat → StT) (k : Nat) (x : StT) : Nat → StT := fun j => if j = k then x else f j
def HiT : Type := (Nat → StT) × Int32 × Int32
def mkHi (hs : Nat → StT) (ol sz : Int32) : HiT := (hs, ol, sz)
def HiT.hs (x : HiT) : Nat → StT := x.1
def HiT.ol (x : HiT) : Int32 := x.2.1
def HiT.sz (x : HiT) : Int32 := x.2.2
def cSt (q : Nat → Nat) (cI : ClassId) (se : Nat → Int32) (la : Nat → Int32) (de : Nat → Int32) (le : Nat → Int32) (sa : Nat → Int32) (fl : Nat → Int32) (ar : Nat → Int32) (dr : Nat → Int32) (pe : Nat → Int32) (ri : Int32) : va_W := [(q 0, .inr (3, [.ref (q 1), .ref (q 2), .ref (q 3), .ref (q 4), .ref (q 5), .ref (q 6), .ref (q 7), .ref (q 8), .ref (q 9), .int ri])), (q 1, .inl (cI, 5, .inl se)), (q 2, .inl (cI, 6, .inl la)), (q 3, .inl (cI, 6, .inl de)), (q 4, .inl (cI, 8, .inl le)), (q 5, .inl (cI, 8, .inl sa)), (q 6, .inl (cI, 24, .inl fl)), (q 7, .inl (cI, 24, .inl ar)), (q 8, .inl (cI, 24, .inl dr)), (q 9, .inl (cI, 24, .inl pe))]
def cPl (q : Nat → Nat) (cI : ClassId) (od : Nat → Int32) (rd : Nat → Int32) (vn : Nat → Int32) (pn : Nat → Int32) (ao : Nat → Int32) (sr : Int32) (sp : Int32) (wt : Int32) : va_W := [(q 0, .inr (2, [.ref (q 1), .ref (q 2), .ref (q 3), .ref (q 4), .ref (q 5), .int sr, .int sp, .int wt])), (q 1, .inl (cI, 24, .inl od)), (q 2, .inl (cI, 24, .inl rd)), (q 3, .inl (cI, 24, .inl vn)), (q 4, .inl (cI, 8, .inl pn)), (q 5, .inl (cI, 8, .inl ao))]
def cWy (q : Nat → Nat) (cI : ClassId) (ky : Nat → Int32) (wp : Nat → Int32) (mi : Nat → Int32) (so : Int32) : va_W := [(q 0, .inr (4, [.ref (q 1), .ref (q 2), .ref (q 3), .int so])), (q 1, .inl (cI, 24, .inl ky)), (q 2, .inl (cI, 24, .inl wp)), (q 3, .inl (cI, 24, .inl mi))]
def cPd (q : Nat → Nat) (cI : ClassId) (co : Nat → Int32) (ln : Int32) : va_W := [(q 0, .inr (1, [.ref (q 1), .int ln])), (q 1, .inl (cI, 60, .inl co))]
def cM (q : Nat → Nat) (cI : ClassId) (Mst : Nat → Int32) (Mhi : Nat → Int32) (Mhn : Int32) (Msl : Nat → Int32) (Msv : Nat → Int32) (Mpd : Nat → Int32) (Mln : Int32) (Mat : Int32) (Mit : Nat → Int32) (Mvf : Nat → Int32) (Mdn : Nat → Int32) (Mlf : Nat → Int32) (Mar : Nat → Int32) (Msa : Nat → Int32) (Msm : Nat → Int32) (Mso : Int32) : va_W := [(q 0, .inr (6, [.ref (q 1), .ref (q 2), .int Mhn, .ref (q 3), .ref (q 4), .ref (q 5), .int Mln, .int Mat, .ref (q 6), .ref (q 7), .ref (q 8), .ref (q 9), .ref (q 10), .ref (q 11), .ref (q 12), .int Mso])), (q 1, .inl (cI, 130, .inl Mst)), (q 2, .inl (cI, 780, .inl Mhi)), (q 3, .inl (cI, 260, .inl Msl)), (q 4, .inl (cI, 2, .inl Msv)), (q 5, .inl (cI, 60, .inl Mpd)), (q 6, .inl (cI, 4, .inl Mit)), (q 7, .inl (cI, 24, .inl Mvf)), (q 8, .inl (cI, 24, .inl Mdn)), (q 9, .inl (cI, 8, .inl Mlf)), (q 10, .inl (cI, 8, .inl Mar)), (q 11, .inl (cI, 24, .inl Msa)), (q 12, .inl (cI, 24, .inl Msm))]
def cHi (qa : Nat → Nat) (qas : Nat → Nat → Nat) (cR : ClassId) (ol sz : Int32) : va_W := [(qa 0, .inr (0, [.ref (qa 1), .int ol, .int sz])), (qa 1, .inl (cR, 6, .inr (.inr (.inr (.inr (fun j => some (qas j 0))))))) ]
def cX (qx qn qp qw qt qu qd qh ql : Nat → Nat) : va_W := [(qx 0, .inr (5, [.ref (qn 0), .ref (qp 0), .ref (qw 0), .ref (qt 0), .ref (qu 0), .ref (qd 0), .ref (qh 0), .ref (ql 0)]))]
def wp_X5_isIn (P : Int32 → Prop) (x0 : Int32) (x1 : Int32) (x2 : Int32) : Prop :=
  ((x0 < x1) →
    P (0 : Int32)) ∧
  ((¬ x0 < x1) →
    ((x2 < x0) →
      P (0 : Int32)) ∧
    ((¬ x2 < x0) →
      P (1 : Int32)))
def wp_X3_copyFrom (P : (Nat → Int32) → (Nat → Int32) → (Nat → Int32) → (Nat → Int32) → (Nat → Int32) → (Nat → Int32) → (Nat → Int32) → (Nat → Int32) → (Nat → Int32) → Int32 → Prop) (o0 : StT) (o1 : StT) : Prop :=
  P o1.se o1.la o1.de o1.le o1.sa o1.fl o1.ar o1.dr o1.pe o1.ri
def wp_X0_record_32 (P : (Nat → StT) → Int32 → Int32 → Prop) (o0 : HiT) (o1 : StT) (hs : Nat → StT) (ol : Int32) (sz : Int32) : Prop :=
  vp_in ((ol + sz) - (ol + sz) / (6 : Int32) * (6 : Int32)) 6 ∧
  ∀ j_4 : Nat, j_4 < 6 → ((ol + sz) - (ol + sz) / (6 : Int32) * (6 : Int32)) = nI j_4 →
  wp_X3_copyFrom (fun se_25 la_26 de_27 le_28 sa_29 fl_30 ar_31 dr_32 pe_33 ri_34 =>
    P (updS hs j_4 (mkSt se_25 la_26 de_27 le_28 sa_29 fl_30 ar_31 dr_32 pe_33 ri_34)) ol (sz + (1 : Int32))) (hs j_4) o1
def wp_X0_record (P : (Nat → StT) → Int32 → Int32 → Prop) (o0 : HiT) (o1 : StT) : Prop :=
  ((o0.sz < (6 : Int32)) →
    wp_X0_record_32 P o0 o1 o0.hs o0.ol o0.sz) ∧
  ((¬ o0.sz < (6 : Int32)) →
    wp_X0_record_32 P o0 o1 o0.hs ((o0.ol + (1 : Int32)) - (o0.ol + (1 : Int32)) / (6 : Int32) * (6 : Int32)) (o0.sz - (1 : Int32)))
def wp_X3_flightReady (P : Int32 → Prop) (o0 : StT) (x1 : Int32) : Prop :=
  vp_in x1 6 ∧
  vp_in x1 6 ∧
  P (((o0.la x1.toNatClampNeg) + (o0.de x1.toNatClampNeg)) + (o0.se (0 : Int32).toNatClampNeg))
def wp_X3_riderReady (P : Int32 → Prop) (o0 : StT) (x1 : Int32) : Prop :=
  vp_in x1 24 ∧
  wp_X3_flightReady (fun r_2 =>
    P r_2) o0 (o0.fl x1.toNatClampNeg)
def wp_X2_lineUp_69 (P : (Nat → Int32) → (Nat → Int32) → Prop) (o0 : PlT) (o1 : StT) (r2 : Int32 → (Nat → Int32) → (Nat → Int32) → Prop) (v2 : Int32) (v3 : Int32) (od : Nat → Int32) (rd : Nat → Int32) : Prop :=
  vp_in v3 24 ∧
  r2 (v2 + 1) (upd od v3.toNatClampNeg v2) rd
def wp_X2_lineUp_23F (P : (Nat → Int32) → (Nat → Int32) → Prop) (o0 : PlT) (o1 : StT) (r2 : Int32 → (Nat → Int32) → (Nat → Int32) → Prop) (v2 : Int32) (rd : Nat → Int32) (r23 : Int32 → (Nat → Int32) → Prop) (v3 : Int32) (od : Nat → Int32) : Prop :=
  ((v3 ≤ 0) →
    wp_X2_lineUp_69 P o0 o1 r2 v2 v3 od rd) ∧
  ((¬ v3 ≤ 0) →
    vp_in (v3 - (1 : Int32)) 24 ∧
    vp_in (od (v3 - (1 : Int32)).toNatClampNeg) 24 ∧
    vp_in v2 24 ∧
    (((rd (od (v3 - (1 : Int32)).toNatClampNeg).toNatClampNeg) ≤ (rd v2.toNatClampNeg)) →
      wp_X2_lineUp_69 P o0 o1 r2 v2 v3 od rd) ∧
    ((¬ (rd (od (v3 - (1 : Int32)).toNatClampNeg).toNatClampNeg) ≤ (rd v2.toNatClampNeg)) →
      vp_in (v3 - (1 : Int32)) 24 ∧
      vp_in v3 24 ∧
      r23 (v3 + (-1)) (upd od v3.toNatClampNeg (od (v3 - (1 : Int32)).toNatClampNeg))))
def wp_X2_lineUp_23 (P : (Nat → Int32) → (Nat → Int32) → Prop) (o0 : PlT) (o1 : StT) (r2 : Int32 → (Nat → Int32) → (Nat → Int32) → Prop) (v2 : Int32) (rd : Nat → Int32) : Nat → Int32 → (Nat → Int32) → Prop
  | 0 => fun _ _ => False
  | n + 1 => wp_X2_lineUp_23F P o0 o1 r2 v2 rd (wp_X2_lineUp_23 P o0 o1 r2 v2 rd n)
def wp_X2_lineUp_2F (P : (Nat → Int32) → (Nat → Int32) → Prop) (o0 : PlT) (o1 : StT) (r2 : Int32 → (Nat → Int32) → (Nat → Int32) → Prop) (v2 : Int32) (od : Nat → Int32) (rd : Nat → Int32) : Prop :=
  ((o1.ri ≤ v2) →
    P od rd) ∧
  ((¬ o1.ri ≤ v2) →
    wp_X3_riderReady (fun r_2 =>
      vp_in v2 24 ∧
      ∃ n : Nat, wp_X2_lineUp_23 P o0 o1 r2 v2 (upd rd v2.toNatClampNeg r_2) n v2 od) o1 v2)
def wp_X2_lineUp_2 (P : (Nat → Int32) → (Nat → Int32) → Prop) (o0 : PlT) (o1 : StT) : Nat → Int32 → (Nat → Int32) → (Nat → Int32) → Prop
  | 0 => fun _ _ _ => False
  | n + 1 => wp_X2_lineUp_2F P o0 o1 (wp_X2_lineUp_2 P o0 o1 n)
def wp_X2_lineUp (P : (Nat → Int32) → (Nat → Int32) → Prop) (o0 : PlT) (o1 : StT) : Prop :=
  ∃ n : Nat, wp_X2_lineUp_2 P o0 o1 n (0 : Int32) o0.od o0.rd
def wp_J6_bitCount_0f7a4 (P : Int32 → Prop) (x0 : Int32) : Prop :=
  ∀ y_1 : Int32, y_1 = (x0 - (((x0).toUInt32 >>> (((1 : Int32)).toUInt32 &&& Int32.toUInt32 31)).toInt32 &&& (1431655765 : Int32))) →
  ∀ y_2 : Int32, y_2 = ((y_1 &&& (858993459 : Int32)) + (((y_1).toUInt32 >>> (((2 : Int32)).toUInt32 &&& Int32.toUInt32 31)).toInt32 &&& (858993459 : Int32))) →
  ∀ y_3 : Int32, y_3 = ((y_2 + ((y_2).toUInt32 >>> (((4 : Int32)).toUInt32 &&& Int32.toUInt32 31)).toInt32) &&& (252645135 : Int32)) →
  ∀ y_4 : Int32, y_4 = (y_3 + ((y_3).toUInt32 >>> (((8 : Int32)).toUInt32 &&& Int32.toUInt32 31)).toInt32) →
  ∀ y_5 : Int32, y_5 = (y_4 + ((y_4).toUInt32 >>> (((16 : Int32)).toUInt32 &&& Int32.toUInt32 31)).toInt32) →
  P (y_5 &&& (63 : Int32))
def wp_X2_takes (P : Int32 → Prop) (o0 : PlT) (o1 : StT) (x2 : Int32) (x3 : Int32) : Prop :=
  vp_in x2 8 ∧
  vp_in x3 24 ∧
  ∀ y_3 : Int32, y_3 = ((o1.le x2.toNatClampNeg) - (o0.rd x3.toNatClampNeg)) →
  wp_X5_isIn (fun r_5 =>
    ((¬ r_5 = 0) →
      vp_in x2 8 ∧
      vp_in x3 24 ∧
      vp_in x2 8 ∧
      ((((o0.pn x2.toNatClampNeg) + (o1.pe x3.toNatClampNeg)) ≤ (o1.sa x2.toNatClampNeg)) →
        vp_in x2 8 ∧
        vp_in x3 24 ∧
        ∀ y_13 : Int32, y_13 = ((o0.ao x2.toNatClampNeg) ||| ((1 : Int32) <<< ((o1.ar x3.toNatClampNeg) &&& 31))) →
        wp_J6_bitCount_0f7a4 (fun r_14 =>
          (((o1.se (2 : Int32).toNatClampNeg) < r_14) →
            P (0 : Int32)) ∧
          ((¬ (o1.se (2 : Int32).toNatClampNeg) < r_14) →
            P (1 : Int32))) y_13) ∧
      ((¬ ((o0.pn x2.toNatClampNeg) + (o1.pe x3.toNatClampNeg)) ≤ (o1.sa x2.toNatClampNeg)) →
        P (0 : Int32))) ∧
    ((r_5 = 0) →
      P (0 : Int32))) y_3 (0 : Int32) (o1.se (1 : Int32).toNatClampNeg)
def wp_X2_firstVanFor_39 (P : Int32 → Prop) (o0 : PlT) (o1 : StT) (x2 : Int32) (r9 : Int32 → Int32 → Int32 → Prop) (v3 : Int32) (v4 : Int32) (v5 : Int32) (w0 : Int32) : Prop :=
  ((w0 = 0) →
    r9 v3 v4 (v5 + 1)) ∧
  ((¬ w0 = 0) →
    wp_X2_takes (fun r_6 =>
      ((r_6 = 0) →
        r9 v3 v4 (v5 + 1)) ∧
      ((¬ r_6 = 0) →
        vp_in v5 8 ∧
        r9 v5 (o1.le v5.toNatClampNeg) (v5 + 1))) o0 o1 v5 x2)
def wp_X2_firstVanFor_9F (P : Int32 → Prop) (o0 : PlT) (o1 : StT) (x2 : Int32) (r9 : Int32 → Int32 → Int32 → Prop) (v3 : Int32) (v4 : Int32) (v5 : Int32) : Prop :=
  (((8 : Int32) ≤ v5) →
    P v3) ∧
  ((¬ (8 : Int32) ≤ v5) →
    ((v3 = (-106 : Int32)) →
      wp_X2_firstVanFor_39 P o0 o1 x2 r9 v3 v4 v5 (1 : Int32)) ∧
    ((¬ v3 = (-106 : Int32)) →
      vp_in v5 8 ∧
      ((v4 ≤ (o1.le v5.toNatClampNeg)) →
        wp_X2_firstVanFor_39 P o0 o1 x2 r9 v3 v4 v5 (0 : Int32)) ∧
      ((¬ v4 ≤ (o1.le v5.toNatClampNeg)) →
        wp_X2_firstVanFor_39 P o0 o1 x2 r9 v3 v4 v5 (1 : Int32))))
def wp_X2_firstVanFor_9 (P : Int32 → Prop) (o0 : PlT) (o1 : StT) (x2 : Int32) : Nat → Int32 → Int32 → Int32 → Prop
  | 0 => fun _ _ _ => False
  | n + 1 => wp_X2_firstVanFor_9F P o0 o1 x2 (wp_X2_firstVanFor_9 P o0 o1 x2 n)
def wp_X2_firstVanFor (P : Int32 → Prop) (o0 : PlT) (o1 : StT) (x2 : Int32) : Prop :=
  ∃ n : Nat, wp_X2_firstVanFor_9 P o0 o1 x2 n (-106 : Int32) (0 : Int32) (0 : Int32)
def wp_X5_isVan (P : Int32 → Prop) (x0 : Int32) : Prop :=
  wp_X5_isIn (fun r_1 =>
    g_b r_1 ∧ P r_1) x0 (0 : Int32) (7 : Int32)
def wp_X2_boardOne (P : (Nat → Int32) → (Nat → Int32) → (Nat → Int32) → Int32 → Int32 → Int32 → Prop) (o0 : PlT) (o1 : StT) (x2 : Int32) : Prop :=
  vp_in x2 24 ∧
  wp_X2_firstVanFor (fun r_2 =>
    vp_in x2 24 ∧
    wp_X5_isVan (fun r_4 =>
      ((¬ r_4 = 0) →
        vp_in r_2 8 ∧
        vp_in r_2 8 ∧
        vp_in r_2 8 ∧
        vp_in x2 24 ∧
        vp_in r_2 8 ∧
        vp_in r_2 8 ∧
        vp_in x2 24 ∧
        P (upd o0.vn x2.toNatClampNeg r_2) (upd o0.pn r_2.toNatClampNeg ((o0.pn r_2.toNatClampNeg) + (o1.pe x2.toNatClampNeg))) (upd o0.ao r_2.toNatClampNeg ((o0.ao r_2.toNatClampNeg) ||| ((1 : Int32) <<< ((o1.ar x2.toNatClampNeg) &&& 31)))) o0.sr o0.sp (o0.wt + ((o1.pe x2.toNatClampNeg) * ((o1.le r_2.toNatClampNeg) - (o0.rd x2.toNatClampNeg))))) ∧
      ((r_4 = 0) →
        P (upd o0.vn x2.toNatClampNeg r_2) o0.pn o0.ao (o0.sr + (1 : Int32)) (o0.sp + (o1.pe x2.toNatClampNeg)) o0.wt)) r_2) o0 o1 x2
def wp_X2_board_45F (P : (Nat → Int32) → (Nat → Int32) → (Nat → Int32) → Int32 → Int32 → Int32 → Prop) (o0 : PlT) (o1 : StT) (r45 : Int32 → (Nat → Int32) → (Nat → Int32) → (Nat → Int32) → Int32 → Int32 → Int32 → Prop) (v2 : Int32) (vn : Nat → Int32) (pn : Nat → Int32) (ao : Nat → Int32) (sr : Int32) (sp : Int32) (wt : Int32) : Prop :=
  ((o1.ri ≤ v2) →
    P vn pn ao sr sp wt) ∧
  ((¬ o1.ri ≤ v2) →
    vp_in v2 24 ∧
    wp_X2_boardOne (fun vn_6 pn_7 ao_8 sr_9 sp_10 wt_11 =>
      r45 (v2 + 1) vn_6 pn_7 ao_8 sr_9 sp_10 wt_11) (mkPl o0.od o0.rd vn pn ao sr sp wt) o1 (o0.od v2.toNatClampNeg))
def wp_X2_board_45 (P : (Nat → Int32) → (Nat → Int32) → (Nat → Int32) → Int32 → Int32 → Int32 → Prop) (o0 : PlT) (o1 : StT) : Nat → Int32 → (Nat → Int32) → (Nat → Int32) → (Nat → Int32) → Int32 → Int32 → Int32 → Prop
  | 0 => fun _ _ _ _ _ _ _ => False
  | n + 1 => wp_X2_board_45F P o0 o1 (wp_X2_board_45 P o0 o1 n)
def wp_X2_board_2F (P : (Nat → Int32) → (Nat → Int32) → (Nat → Int32) → Int32 → Int32 → Int32 → Prop) (o0 : PlT) (o1 : StT) (vn : Nat → Int32) (sr : Int32) (sp : Int32) (wt : Int32) (r2 : Int32 → (Nat → Int32) → (Nat → Int32) → Prop) (v2 : Int32) (pn : Nat → Int32) (ao : Nat → Int32) : Prop :=
  (((8 : Int32) ≤ v2) →
    ∃ n : Nat, wp_X2_board_45 P o0 o1 n (0 : Int32) vn pn ao (0 : Int32) (0 : Int32) (0 : Int32)) ∧
  ((¬ (8 : Int32) ≤ v2) →
    vp_in v2 8 ∧
    vp_in v2 8 ∧
    r2 (v2 + 1) (upd pn v2.toNatClampNeg (0 : Int32)) (upd ao v2.toNatClampNeg (0 : Int32)))
def wp_X2_board_2 (P : (Nat → Int32) → (Nat → Int32) → (Nat → Int32) → Int32 → Int32 → Int32 → Prop) (o0 : PlT) (o1 : StT) (vn : Nat → Int32) (sr : Int32) (sp : Int32) (wt : Int32) : Nat → Int32 → (Nat → Int32) → (Nat → Int32) → Prop
  | 0 => fun _ _ _ => False
  | n + 1 => wp_X2_board_2F P o0 o1 vn sr sp wt (wp_X2_board_2 P o0 o1 vn sr sp wt n)
def wp_X2_board (P : (Nat → Int32) → (Nat → Int32) → (Nat → Int32) → Int32 → Int32 → Int32 → Prop) (o0 : PlT) (o1 : StT) : Prop :=
  ∃ n : Nat, wp_X2_board_2 P o0 o1 o0.vn o0.sr o0.sp o0.wt n (0 : Int32) o0.pn o0.ao
def wp_X2_make (P : (Nat → Int32) → (Nat → Int32) → (Nat → Int32) → (Nat → Int32) → (Nat → Int32) → Int32 → Int32 → Int32 → Prop) (o0 : PlT) (o1 : StT) : Prop :=
  wp_X2_lineUp (fun od_1 rd_2 =>
    wp_X2_board (fun vn_3 pn_4 ao_5 sr_6 sp_7 wt_8 =>
      P od_1 rd_2 vn_3 pn_4 ao_5 sr_6 sp_7 wt_8) (mkPl od_1 rd_2 o0.vn o0.pn o0.ao o0.sr o0.sp o0.wt) o1) o0 o1
def wp_X5_set (P : Int32 → (Nat → Int32) → (Nat → Int32) → (Nat → Int32) → (Nat → Int32) → (Nat → Int32) → (Nat → Int32) → Int32 → Int32 → Int32 → (Nat → StT) → Int32 → Int32 → Prop) (now : StT) (pln : PlT) (his : HiT) (x1 : Int32) (x2 : Int32) : Prop :=
  wp_X5_isIn (fun r_1 =>
    ((¬ r_1 = 0) →
      vp_in x1 5 ∧
      vp_in x1 5 ∧
      wp_X5_isIn (fun r_9 =>
        ((¬ r_9 = 0) →
          vp_in x1 5 ∧
          wp_X0_record (fun hs_12 ol_13 sz_14 =>
            vp_in x1 5 ∧
            wp_X2_make (fun od_16 rd_17 vn_18 pn_19 ao_20 sr_21 sp_22 wt_23 =>
              P (now.se x1.toNatClampNeg) (upd now.se x1.toNatClampNeg x2) od_16 rd_17 vn_18 pn_19 ao_20 sr_21 sp_22 wt_23 hs_12 ol_13 sz_14) pln (mkSt (upd now.se x1.toNatClampNeg x2) now.la now.de now.le now.sa now.fl now.ar now.dr now.pe now.ri)) his now) ∧
        ((r_9 = 0) →
          P (-102 : Int32) now.se pln.od pln.rd pln.vn pln.pn pln.ao pln.sr pln.sp pln.wt his.hs his.ol his.sz)) x2 (g_least x1.toNatClampNeg) (g_most x1.toNatClampNeg)) ∧
    ((r_1 = 0) →
      P (-102 : Int32) now.se pln.od pln.rd pln.vn pln.pn pln.ao pln.sr pln.sp pln.wt his.hs his.ol his.sz)) x1 (0 : Int32) (4 : Int32)
def wp_X5_isFlight (P : Int32 → Prop) (x0 : Int32) : Prop :=
  wp_X5_isIn (fun r_1 =>
    g_b r_1 ∧ P r_1) x0 (0 : Int32) (5 : Int32)
def wp_X5_land (P : Int32 → (Nat → Int32) → (Nat → Int32) → (Nat → Int32) → (Nat → Int32) → (Nat → Int32) → (Nat → Int32) → Int32 → Int32 → Int32 → (Nat → StT) → Int32 → Int32 → Prop) (now : StT) (pln : PlT) (his : HiT) (x1 : Int32) (x2 : Int32) : Prop :=
  wp_X5_isFlight (fun r_1 =>
    ((¬ r_1 = 0) →
      wp_X5_isIn (fun r_3 =>
        ((¬ r_3 = 0) →
          vp_in x1 6 ∧
          wp_X0_record (fun hs_6 ol_7 sz_8 =>
            vp_in x1 6 ∧
            wp_X2_make (fun od_10 rd_11 vn_12 pn_13 ao_14 sr_15 sp_16 wt_17 =>
              P (now.la x1.toNatClampNeg) (upd now.la x1.toNatClampNeg x2) od_10 rd_11 vn_12 pn_13 ao_14 sr_15 sp_16 wt_17 hs_6 ol_7 sz_8) pln (mkSt now.se (upd now.la x1.toNatClampNeg x2) now.de now.le now.sa now.fl now.ar now.dr now.pe now.ri)) his now) ∧
        ((r_3 = 0) →
          P (-102 : Int32) now.la pln.od pln.rd pln.vn pln.pn pln.ao pln.sr pln.sp pln.wt his.hs his.ol his.sz)) x2 (0 : Int32) (1200 : Int32)) ∧
    ((r_1 = 0) →
      P (-101 : Int32) now.la pln.od pln.rd pln.vn pln.pn pln.ao pln.sr pln.sp pln.wt his.hs his.ol his.sz)) x1
def wp_X5_isDelay (P : Int32 → Prop) (x0 : Int32) : Prop :=
  wp_X5_isIn (fun r_1 =>
    g_b r_1 ∧ P r_1) x0 (-30 : Int32) (300 : Int32)
def wp_X5_delay (P : Int32 → (Nat → Int32) → (Nat → Int32) → (Nat → Int32) → (Nat → Int32) → (Nat → Int32) → (Nat → Int32) → Int32 → Int32 → Int32 → (Nat → StT) → Int32 → Int32 → Prop) (now : StT) (pln : PlT) (his : HiT) (x1 : Int32) (x2 : Int32) : Prop :=
  wp_X5_isFlight (fun r_1 =>
    ((¬ r_1 = 0) →
      wp_X5_isDelay (fun r_3 =>
        ((¬ r_3 = 0) →
          wp_X0_record (fun hs_5 ol_6 sz_7 =>
            vp_in x1 6 ∧
            wp_X2_make (fun od_9 rd_10 vn_11 pn_12 ao_13 sr_14 sp_15 wt_16 =>
              wp_X3_flightReady (fun r_17 =>
                P r_17 (upd now.de x1.toNatClampNeg x2) od_9 rd_10 vn_11 pn_12 ao_13 sr_14 sp_15 wt_16 hs_5 ol_6 sz_7) (mkSt now.se now.la (upd now.de x1.toNatClampNeg x2) now.le now.sa now.fl now.ar now.dr now.pe now.ri) x1) pln (mkSt now.se now.la (upd now.de x1.toNatClampNeg x2) now.le now.sa now.fl now.ar now.dr now.pe now.ri)) his now) ∧
        ((r_3 = 0) →
          P (-102 : Int32) now.de pln.od pln.rd pln.vn pln.pn pln.ao pln.sr pln.sp pln.wt his.hs his.ol his.sz)) x2) ∧
    ((r_1 = 0) →
      P (-101 : Int32) now.de pln.od pln.rd pln.vn pln.pn pln.ao pln.sr pln.sp pln.wt his.hs his.ol his.sz)) x1
def wp_X5_van (P : Int32 → (Nat → Int32) → (Nat → Int32) → (Nat → Int32) → (Nat → Int32) → (Nat → Int32) → (Nat → Int32) → (Nat → Int32) → Int32 → Int32 → Int32 → (Nat → StT) → Int32 → Int32 → Prop) (now : StT) (pln : PlT) (his : HiT) (x1 : Int32) (x2 : Int32) (x3 : Int32) : Prop :=
  wp_X5_isVan (fun r_1 =>
    ((¬ r_1 = 0) →
      wp_X5_isIn (fun r_3 =>
        ((r_3 = 0) →
          P (-102 : Int32) now.le now.sa pln.od pln.rd pln.vn pln.pn pln.ao pln.sr pln.sp pln.wt his.hs his.ol his.sz) ∧
        ((¬ r_3 = 0) →
          wp_X5_isIn (fun r_5 =>
            ((¬ r_5 = 0) →
              wp_X0_record (fun hs_7 ol_8 sz_9 =>
                vp_in x1 8 ∧
                vp_in x1 8 ∧
                wp_X2_make (fun od_12 rd_13 vn_14 pn_15 ao_16 sr_17 sp_18 wt_19 =>
                  P sp_18 (upd now.le x1.toNatClampNeg x2) (upd now.sa x1.toNatClampNeg x3) od_12 rd_13 vn_14 pn_15 ao_16 sr_17 sp_18 wt_19 hs_7 ol_8 sz_9) pln (mkSt now.se now.la now.de (upd now.le x1.toNatClampNeg x2) (upd now.sa x1.toNatClampNeg x3) now.fl now.ar now.dr now.pe now.ri)) his now) ∧
            ((r_5 = 0) →
              P (-102 : Int32) now.le now.sa pln.od pln.rd pln.vn pln.pn pln.ao pln.sr pln.sp pln.wt his.hs his.ol his.sz)) x3 (0 : Int32) (12 : Int32))) x2 (0 : Int32) (1500 : Int32)) ∧
    ((r_1 = 0) →
      P (-101 : Int32) now.le now.sa pln.od pln.rd pln.vn pln.pn pln.ao pln.sr pln.sp pln.wt his.hs his.ol his.sz)) x1
def wp_X3_addRider (P : (Nat → Int32) → (Nat → Int32) → (Nat → Int32) → (Nat → Int32) → Int32 → Prop) (o0 : StT) (x1 : Int32) (x2 : Int32) (x3 : Int32) (x4 : Int32) : Prop :=
  ((o0.ri < (24 : Int32)) →
    vp_in o0.ri 24 ∧
    vp_in o0.ri 24 ∧
    vp_in o0.ri 24 ∧
    vp_in o0.ri 24 ∧
    P (upd o0.fl o0.ri.toNatClampNeg x1) (upd o0.ar o0.ri.toNatClampNeg x2) (upd o0.dr o0.ri.toNatClampNeg x3) (upd o0.pe o0.ri.toNatClampNeg x4) (o0.ri + (1 : Int32))) ∧
  ((¬ o0.ri < (24 : Int32)) →
    P o0.fl o0.ar o0.dr o0.pe o0.ri)
def wp_X5_ride (P : Int32 → (Nat → Int32) → (Nat → Int32) → (Nat → Int32) → (Nat → Int32) → Int32 → (Nat → Int32) → (Nat → Int32) → (Nat → Int32) → (Nat → Int32) → (Nat → Int32) → Int32 → Int32 → Int32 → (Nat → StT) → Int32 → Int32 → Prop) (now : StT) (pln : PlT) (his : HiT) (x1 : Int32) (x2 : Int32) (x3 : Int32) (x4 : Int32) : Prop :=
  wp_X5_isFlight (fun r_1 =>
    ((r_1 = 0) →
      P (-101 : Int32) now.fl now.ar now.dr now.pe now.ri pln.od pln.rd pln.vn pln.pn pln.ao pln.sr pln.sp pln.wt his.hs his.ol his.sz) ∧
    ((¬ r_1 = 0) →
      wp_X5_isIn (fun r_3 =>
        ((¬ r_3 = 0) →
          wp_X5_isIn (fun r_5 =>
            ((r_5 = 0) →
              P (-102 : Int32) now.fl now.ar now.dr now.pe now.ri pln.od pln.rd pln.vn pln.pn pln.ao pln.sr pln.sp pln.wt his.hs his.ol his.sz) ∧
            ((¬ r_5 = 0) →
              wp_X5_isIn (fun r_7 =>
                ((¬ r_7 = 0) →
                  ((now.ri < (24 : Int32)) →
                    wp_X0_record (fun hs_10 ol_11 sz_12 =>
                      wp_X3_addRider (fun fl_13 ar_14 dr_15 pe_16 ri_17 =>
                        wp_X2_make (fun od_18 rd_19 vn_20 pn_21 ao_22 sr_23 sp_24 wt_25 =>
                          P (ri_17 - (1 : Int32)) fl_13 ar_14 dr_15 pe_16 ri_17 od_18 rd_19 vn_20 pn_21 ao_22 sr_23 sp_24 wt_25 hs_10 ol_11 sz_12) pln (mkSt now.se now.la now.de now.le now.sa fl_13 ar_14 dr_15 pe_16 ri_17)) now x1 x2 x3 x4) his now) ∧
                  ((¬ now.ri < (24 : Int32)) →
                    P (-104 : Int32) now.fl now.ar now.dr now.pe now.ri pln.od pln.rd pln.vn pln.pn pln.ao pln.sr pln.sp pln.wt his.hs his.ol his.sz)) ∧
                ((r_7 = 0) →
                  P (-102 : Int32) now.fl now.ar now.dr now.pe now.ri pln.od pln.rd pln.vn pln.pn pln.ao pln.sr pln.sp pln.wt his.hs his.ol his.sz)) x4 (1 : Int32) (4 : Int32))) x3 (0 : Int32) (99 : Int32)) ∧
        ((r_3 = 0) →
          P (-101 : Int32) now.fl now.ar now.dr now.pe now.ri pln.od pln.rd pln.vn pln.pn pln.ao pln.sr pln.sp pln.wt his.hs his.ol his.sz)) x2 (0 : Int32) (5 : Int32))) x1
def wp_X1_isDigit (P : Int32 → Prop) (x0 : Int32) : Prop :=
  wp_X5_isIn (fun r_1 =>
    g_b r_1 ∧ P r_1) x0 (48 : Int32) (57 : Int32)
def wp_X1_afterFirstDigit (P : Int32 → Prop) (x0 : Int32) : Prop :=
  wp_X1_isDigit (fun r_1 =>
    ((¬ r_1 = 0) →
      ((¬ x0 = (48 : Int32)) →
        P (3 : Int32)) ∧
      ((x0 = (48 : Int32)) →
        P (4 : Int32))) ∧
    ((r_1 = 0) →
      P (7 : Int32))) x0
def wp_X1_afterDoor (P : Int32 → Prop) (x0 : Int32) : Prop :=
  ((¬ x0 = (120 : Int32)) →
    ((¬ x0 = (44 : Int32)) →
      P (7 : Int32)) ∧
    ((x0 = (44 : Int32)) →
      P (0 : Int32))) ∧
  ((x0 = (120 : Int32)) →
    P (5 : Int32))
def wp_X1_after (P : Int32 → Prop) (x0 : Int32) (x1 : Int32) : Prop :=
  (x0 = 0 →
    wp_X5_isIn (fun r_2 =>
      ((r_2 = 0) →
        P (7 : Int32)) ∧
      ((¬ r_2 = 0) →
        P (1 : Int32))) x1 (48 : Int32) (53 : Int32)) ∧
  (x0 = 1 →
    wp_X5_isIn (fun r_4 =>
      ((r_4 = 0) →
        P (7 : Int32)) ∧
      ((¬ r_4 = 0) →
        P (2 : Int32))) x1 (97 : Int32) (102 : Int32)) ∧
  (x0 = 2 →
    wp_X1_afterFirstDigit (fun r_6 =>
      P r_6) x1) ∧
  (x0 = 3 →
    wp_X1_isDigit (fun r_7 =>
      ((r_7 = 0) →
        wp_X1_afterDoor (fun r_9 =>
          P r_9) x1) ∧
      ((¬ r_7 = 0) →
        P (4 : Int32))) x1) ∧
  (x0 = 4 →
    wp_X1_afterDoor (fun r_10 =>
      P r_10) x1) ∧
  (x0 = 5 →
    wp_X5_isIn (fun r_11 =>
      ((r_11 = 0) →
        P (7 : Int32)) ∧
      ((¬ r_11 = 0) →
        P (6 : Int32))) x1 (49 : Int32) (52 : Int32)) ∧
  (x0 = 6 →
    ((¬ x1 = (44 : Int32)) →
      P (7 : Int32)) ∧
    ((x1 = (44 : Int32)) →
      P (0 : Int32))) ∧
  ((¬ x0 = 0 ∧ ¬ x0 = 1 ∧ ¬ x0 = 2 ∧ ¬ x0 = 3 ∧ ¬ x0 = 4 ∧ ¬ x0 = 5 ∧ ¬ x0 = 6) →
    P (7 : Int32))
def wp_X1_mayEnd (P : Int32 → Prop) (x0 : Int32) : Prop :=
  ((x0 = (3 : Int32)) →
    P (1 : Int32)) ∧
  ((¬ x0 = (3 : Int32)) →
    ((x0 = (4 : Int32)) →
      P (1 : Int32)) ∧
    ((¬ x0 = (4 : Int32)) →
      ((¬ x0 = (6 : Int32)) →
        P (0 : Int32)) ∧
      ((x0 = (6 : Int32)) →
        P (1 : Int32))))
def wp_X1_firstFault_4F (P : Int32 → Prop) (o0 : PdT) (r4 : Int32 → Int32 → Prop) (v1 : Int32) (v2 : Int32) : Prop :=
  ((o0.ln ≤ v2) →
    wp_X1_mayEnd (fun r_2 =>
      ((r_2 = 0) →
        P o0.ln) ∧
      ((¬ r_2 = 0) →
        P (-106 : Int32))) v1) ∧
  ((¬ o0.ln ≤ v2) →
    vp_in v2 60 ∧
    wp_X1_after (fun r_5 =>
      ((¬ r_5 = (7 : Int32)) →
        r4 r_5 (v2 + 1)) ∧
      ((r_5 = (7 : Int32)) →
        P v2)) v1 (o0.co v2.toNatClampNeg))
def wp_X1_firstFault_4 (P : Int32 → Prop) (o0 : PdT) : Nat → Int32 → Int32 → Prop
  | 0 => fun _ _ => False
  | n + 1 => wp_X1_firstFault_4F P o0 (wp_X1_firstFault_4 P o0 n)
def wp_X1_firstFault (P : Int32 → Prop) (o0 : PdT) : Prop :=
  ∃ n : Nat, wp_X1_firstFault_4 P o0 n (0 : Int32) (0 : Int32)
def wp_X1_riderCount_4F (P : Int32 → Prop) (o0 : PdT) (r4 : Int32 → Int32 → Prop) (v1 : Int32) (v2 : Int32) : Prop :=
  ((o0.ln ≤ v2) →
    P v1) ∧
  ((¬ o0.ln ≤ v2) →
    vp_in v2 60 ∧
    ((¬ (o0.co v2.toNatClampNeg) = (44 : Int32)) →
      r4 v1 (v2 + 1)) ∧
    (((o0.co v2.toNatClampNeg) = (44 : Int32)) →
      r4 (v1 + 1) (v2 + 1)))
def wp_X1_riderCount_4 (P : Int32 → Prop) (o0 : PdT) : Nat → Int32 → Int32 → Prop
  | 0 => fun _ _ => False
  | n + 1 => wp_X1_riderCount_4F P o0 (wp_X1_riderCount_4 P o0 n)
def wp_X1_riderCount (P : Int32 → Prop) (o0 : PdT) : Prop :=
  ∃ n : Nat, wp_X1_riderCount_4 P o0 n (1 : Int32) (0 : Int32)
def wp_X1_codeAt (P : Int32 → Prop) (o0 : PdT) (x1 : Int32) : Prop :=
  wp_X5_isIn (fun r_1 =>
    ((r_1 = 0) →
      P (0 : Int32)) ∧
    ((¬ r_1 = 0) →
      vp_in x1 60 ∧
      P (o0.co x1.toNatClampNeg))) x1 (0 : Int32) (o0.ln - (1 : Int32))
def wp_X1_addRiderTo_100 (P : Int32 → (Nat → Int32) → (Nat → Int32) → (Nat → Int32) → (Nat → Int32) → Int32 → Prop) (o0 : PdT) (o1 : StT) (x2 : Int32) (v3 : Int32) (v4 : Int32) (v5 : Int32) (v6 : Int32) (v7 : Int32) (fl : Nat → Int32) (ar : Nat → Int32) (dr : Nat → Int32) (pe : Nat → Int32) (ri : Int32) : Prop :=
  wp_X3_addRider (fun fl_12 ar_13 dr_14 pe_15 ri_16 =>
    P v6 fl_12 ar_13 dr_14 pe_15 ri_16) (mkSt o1.se o1.la o1.de o1.le o1.sa fl ar dr pe ri) v3 v4 v5 v7
def wp_X1_addRiderTo_70 (P : Int32 → (Nat → Int32) → (Nat → Int32) → (Nat → Int32) → (Nat → Int32) → Int32 → Prop) (o0 : PdT) (o1 : StT) (x2 : Int32) (v3 : Int32) (v4 : Int32) (v5 : Int32) (v6 : Int32) (fl : Nat → Int32) (ar : Nat → Int32) (dr : Nat → Int32) (pe : Nat → Int32) (ri : Int32) : Prop :=
  wp_X1_codeAt (fun r_9 =>
    ((¬ r_9 = (120 : Int32)) →
      wp_X1_addRiderTo_100 P o0 o1 x2 v3 v4 v5 v6 (1 : Int32) fl ar dr pe ri) ∧
    ((r_9 = (120 : Int32)) →
      wp_X1_codeAt (fun r_11 =>
        wp_X1_addRiderTo_100 P o0 o1 x2 v3 v4 v5 (v6 + 2) (r_11 - (48 : Int32)) fl ar dr pe ri) o0 (v6 + (1 : Int32)))) o0 v6
def wp_X1_addRiderTo (P : Int32 → (Nat → Int32) → (Nat → Int32) → (Nat → Int32) → (Nat → Int32) → Int32 → Prop) (o0 : PdT) (o1 : StT) (x2 : Int32) : Prop :=
  wp_X1_codeAt (fun r_1 =>
    wp_X1_codeAt (fun r_2 =>
      wp_X1_codeAt (fun r_3 =>
        wp_X1_codeAt (fun r_4 =>
          wp_X1_isDigit (fun r_5 =>
            ((r_5 = 0) →
              wp_X1_addRiderTo_70 P o0 o1 x2 (r_1 - (48 : Int32)) (r_2 - (97 : Int32)) (r_3 - (48 : Int32)) (x2 + (3 : Int32)) o1.fl o1.ar o1.dr o1.pe o1.ri) ∧
            ((¬ r_5 = 0) →
              wp_X1_codeAt (fun r_7 =>
                ∀ y_8 : Int32, y_8 = ((((10 : Int32) * (r_3 - (48 : Int32))) + r_7) - (48 : Int32)) →
                wp_X1_addRiderTo_70 P o0 o1 x2 (r_1 - (48 : Int32)) (r_2 - (97 : Int32)) y_8 ((x2 + (3 : Int32)) + 1) o1.fl o1.ar o1.dr o1.pe o1.ri) o0 (x2 + (3 : Int32)))) r_4) o0 (x2 + (3 : Int32))) o0 (x2 + (2 : Int32))) o0 (x2 + (1 : Int32))) o0 x2
def wp_X1_addRidersTo_10F (P : (Nat → Int32) → (Nat → Int32) → (Nat → Int32) → (Nat → Int32) → Int32 → Prop) (o0 : PdT) (o1 : StT) (v2 : Int32) (r10 : Int32 → Int32 → (Nat → Int32) → (Nat → Int32) → (Nat → Int32) → (Nat → Int32) → Int32 → Prop) (v3 : Int32) (v4 : Int32) (fl : Nat → Int32) (ar : Nat → Int32) (dr : Nat → Int32) (pe : Nat → Int32) (ri : Int32) : Prop :=
  ((v2 ≤ v4) →
    P fl ar dr pe ri) ∧
  ((¬ v2 ≤ v4) →
    wp_X1_addRiderTo (fun r_8 fl_3 ar_4 dr_5 pe_6 ri_7 =>
      r10 (r_8 + (1 : Int32)) (v4 + 1) fl_3 ar_4 dr_5 pe_6 ri_7) o0 (mkSt o1.se o1.la o1.de o1.le o1.sa fl ar dr pe ri) v3)
def wp_X1_addRidersTo_10 (P : (Nat → Int32) → (Nat → Int32) → (Nat → Int32) → (Nat → Int32) → Int32 → Prop) (o0 : PdT) (o1 : StT) (v2 : Int32) : Nat → Int32 → Int32 → (Nat → Int32) → (Nat → Int32) → (Nat → Int32) → (Nat → Int32) → Int32 → Prop
  | 0 => fun _ _ _ _ _ _ _ => False
  | n + 1 => wp_X1_addRidersTo_10F P o0 o1 v2 (wp_X1_addRidersTo_10 P o0 o1 v2 n)
def wp_X1_addRidersTo (P : (Nat → Int32) → (Nat → Int32) → (Nat → Int32) → (Nat → Int32) → Int32 → Prop) (o0 : PdT) (o1 : StT) : Prop :=
  wp_X1_riderCount (fun r_1 =>
    ∃ n : Nat, wp_X1_addRidersTo_10 P o0 o1 r_1 n (0 : Int32) (0 : Int32) o1.fl o1.ar o1.dr o1.pe o1.ri) o0
def wp_X5_read (P : Int32 → (Nat → Int32) → (Nat → Int32) → (Nat → Int32) → (Nat → Int32) → Int32 → (Nat → Int32) → (Nat → Int32) → (Nat → Int32) → (Nat → Int32) → (Nat → Int32) → Int32 → Int32 → Int32 → Int32 → (Nat → StT) → Int32 → Int32 → Prop) (now : StT) (pln : PlT) (pad : PdT) (his : HiT) : Prop :=
  wp_X1_firstFault (fun r_1 =>
    ((r_1 = (-106 : Int32)) →
      wp_X1_riderCount (fun r_3 =>
        (((now.ri + r_3) ≤ (24 : Int32)) →
          wp_X0_record (fun hs_5 ol_6 sz_7 =>
            wp_X1_addRidersTo (fun fl_8 ar_9 dr_10 pe_11 ri_12 =>
              wp_X2_make (fun od_13 rd_14 vn_15 pn_16 ao_17 sr_18 sp_19 wt_20 =>
                P ri_12 fl_8 ar_9 dr_10 pe_11 ri_12 od_13 rd_14 vn_15 pn_16 ao_17 sr_18 sp_19 wt_20 (0 : Int32) hs_5 ol_6 sz_7) pln (mkSt now.se now.la now.de now.le now.sa fl_8 ar_9 dr_10 pe_11 ri_12)) pad now) his now) ∧
        ((¬ (now.ri + r_3) ≤ (24 : Int32)) →
          P (-104 : Int32) now.fl now.ar now.dr now.pe now.ri pln.od pln.rd pln.vn pln.pn pln.ao pln.sr pln.sp pln.wt pad.ln his.hs his.ol his.sz)) pad) ∧
    ((¬ r_1 = (-106 : Int32)) →
      P (-103 : Int32) now.fl now.ar now.dr now.pe now.ri pln.od pln.rd pln.vn pln.pn pln.ao pln.sr pln.sp pln.wt pad.ln his.hs his.ol his.sz)) pad
def wp_X5_isRider (P : Int32 → Prop) (now : StT) (x1 : Int32) : Prop :=
  wp_X5_isIn (fun r_1 =>
    g_b r_1 ∧ P r_1) x1 (0 : Int32) (now.ri - (1 : Int32))
def wp_X3_stopKey (P : Int32 → Prop) (o0 : StT) (x1 : Int32) : Prop :=
  vp_in x1 24 ∧
  vp_in x1 24 ∧
  P (((o0.ar x1.toNatClampNeg) * (100 : Int32)) + (o0.dr x1.toNatClampNeg))
def wp_X2_shares (P : Int32 → Prop) (o0 : PlT) (o1 : StT) (x2 : Int32) (x3 : Int32) (x4 : Int32) : Prop :=
  vp_in x2 24 ∧
  vp_in x3 24 ∧
  ((¬ (o0.vn x2.toNatClampNeg) = (o0.vn x3.toNatClampNeg)) →
    P (0 : Int32)) ∧
  (((o0.vn x2.toNatClampNeg) = (o0.vn x3.toNatClampNeg)) →
    ((x4 = 0) →
      P (1 : Int32)) ∧
    ((¬ x4 = 0) →
      wp_X3_stopKey (fun r_5 =>
        wp_X3_stopKey (fun r_6 =>
          ((¬ r_5 = r_6) →
            P (0 : Int32)) ∧
          ((r_5 = r_6) →
            P (1 : Int32))) o1 x3) o1 x2))
def wp_X2_share_71F (P : Int32 → Prop) (o0 : PlT) (o1 : StT) (x2 : Int32) (x3 : Int32) (x4 : Int32) (v5 : Int32) (v6 : Int32) (r71 : Int32 → Int32 → Int32 → Prop) (v7 : Int32) (v8 : Int32) (v9 : Int32) : Prop :=
  ((o1.ri ≤ v9) →
    vp_in x2 24 ∧
    ¬ v6 = 0 ∧
    ((v7 ≤ v8) →
      P ((v5 * (o1.pe x2.toNatClampNeg)) / v6)) ∧
    ((¬ v7 ≤ v8) →
      P (((v5 * (o1.pe x2.toNatClampNeg)) / v6) + (1 : Int32)))) ∧
  ((¬ o1.ri ≤ v9) →
    wp_X2_shares (fun r_11 =>
      ((r_11 = 0) →
        r71 v7 v8 (v9 + 1)) ∧
      ((¬ r_11 = 0) →
        vp_in v9 24 ∧
        ¬ v6 = 0 ∧
        ((x2 ≤ v9) →
          r71 (v7 - ((v5 * (o1.pe v9.toNatClampNeg)) / v6)) (v8 + (0 : Int32)) (v9 + 1)) ∧
        ((¬ x2 ≤ v9) →
          r71 (v7 - ((v5 * (o1.pe v9.toNatClampNeg)) / v6)) (v8 + (1 : Int32)) (v9 + 1)))) o0 o1 x2 v9 x4)
def wp_X2_share_71 (P : Int32 → Prop) (o0 : PlT) (o1 : StT) (x2 : Int32) (x3 : Int32) (x4 : Int32) (v5 : Int32) (v6 : Int32) : Nat → Int32 → Int32 → Int32 → Prop
  | 0 => fun _ _ _ => False
  | n + 1 => wp_X2_share_71F P o0 o1 x2 x3 x4 v5 v6 (wp_X2_share_71 P o0 o1 x2 x3 x4 v5 v6 n)
def wp_X2_share_14F (P : Int32 → Prop) (o0 : PlT) (o1 : StT) (x2 : Int32) (x3 : Int32) (x4 : Int32) (v5 : Int32) (r14 : Int32 → Int32 → Prop) (v6 : Int32) (v7 : Int32) : Prop :=
  ((o1.ri ≤ v7) →
    ((0 < v6) →
      ∃ n : Nat, wp_X2_share_71 P o0 o1 x2 x3 x4 v5 v6 n v5 (0 : Int32) (0 : Int32)) ∧
    ((¬ 0 < v6) →
      P (0 : Int32))) ∧
  ((¬ o1.ri ≤ v7) →
    wp_X2_shares (fun r_4 =>
      ((r_4 = 0) →
        r14 v6 (v7 + 1)) ∧
      ((¬ r_4 = 0) →
        vp_in v7 24 ∧
        r14 (v6 + (o1.pe v7.toNatClampNeg)) (v7 + 1))) o0 o1 x2 v7 x4)
def wp_X2_share_14 (P : Int32 → Prop) (o0 : PlT) (o1 : StT) (x2 : Int32) (x3 : Int32) (x4 : Int32) (v5 : Int32) : Nat → Int32 → Int32 → Prop
  | 0 => fun _ _ => False
  | n + 1 => wp_X2_share_14F P o0 o1 x2 x3 x4 v5 (wp_X2_share_14 P o0 o1 x2 x3 x4 v5 n)
def wp_X2_share (P : Int32 → Prop) (o0 : PlT) (o1 : StT) (x2 : Int32) (x3 : Int32) (x4 : Int32) : Prop :=
  vp_in x3 5 ∧
  ∃ n : Nat, wp_X2_share_14 P o0 o1 x2 x3 x4 (o1.se x3.toNatClampNeg) n (0 : Int32) (0 : Int32)
def wp_X2_fare (P : Int32 → Prop) (o0 : PlT) (o1 : StT) (x2 : Int32) : Prop :=
  vp_in x2 24 ∧
  ((¬ (o0.vn x2.toNatClampNeg) = (-106 : Int32)) →
    wp_X2_share (fun r_3 =>
      wp_X2_share (fun r_4 =>
        P (r_3 + r_4)) o0 o1 x2 (4 : Int32) (1 : Int32)) o0 o1 x2 (3 : Int32) (0 : Int32)) ∧
  (((o0.vn x2.toNatClampNeg) = (-106 : Int32)) →
    P (0 : Int32))
def wp_X3_removeRider_2F (P : (Nat → Int32) → (Nat → Int32) → (Nat → Int32) → (Nat → Int32) → Int32 → Prop) (o0 : StT) (x1 : Int32) (ri : Int32) (r2 : Int32 → (Nat → Int32) → (Nat → Int32) → (Nat → Int32) → (Nat → Int32) → Prop) (v2 : Int32) (fl : Nat → Int32) (ar : Nat → Int32) (dr : Nat → Int32) (pe : Nat → Int32) : Prop :=
  (((ri - (1 : Int32)) ≤ v2) →
    P fl ar dr pe (ri - (1 : Int32))) ∧
  ((¬ (ri - (1 : Int32)) ≤ v2) →
    vp_in (v2 + (1 : Int32)) 24 ∧
    vp_in v2 24 ∧
    vp_in (v2 + (1 : Int32)) 24 ∧
    vp_in v2 24 ∧
    vp_in (v2 + (1 : Int32)) 24 ∧
    vp_in v2 24 ∧
    vp_in (v2 + (1 : Int32)) 24 ∧
    vp_in v2 24 ∧
    r2 (v2 + 1) (upd fl v2.toNatClampNeg (fl (v2 + (1 : Int32)).toNatClampNeg)) (upd ar v2.toNatClampNeg (ar (v2 + (1 : Int32)).toNatClampNeg)) (upd dr v2.toNatClampNeg (dr (v2 + (1 : Int32)).toNatClampNeg)) (upd pe v2.toNatClampNeg (pe (v2 + (1 : Int32)).toNatClampNeg)))
def wp_X3_removeRider_2 (P : (Nat → Int32) → (Nat → Int32) → (Nat → Int32) → (Nat → Int32) → Int32 → Prop) (o0 : StT) (x1 : Int32) (ri : Int32) : Nat → Int32 → (Nat → Int32) → (Nat → Int32) → (Nat → Int32) → (Nat → Int32) → Prop
  | 0 => fun _ _ _ _ _ => False
  | n + 1 => wp_X3_removeRider_2F P o0 x1 ri (wp_X3_removeRider_2 P o0 x1 ri n)
def wp_X3_removeRider (P : (Nat → Int32) → (Nat → Int32) → (Nat → Int32) → (Nat → Int32) → Int32 → Prop) (o0 : StT) (x1 : Int32) : Prop :=
  ∃ n : Nat, wp_X3_removeRider_2 P o0 x1 o0.ri n x1 o0.fl o0.ar o0.dr o0.pe
def wp_X5_cancel (P : Int32 → (Nat → Int32) → (Nat → Int32) → (Nat → Int32) → (Nat → Int32) → Int32 → (Nat → Int32) → (Nat → Int32) → (Nat → Int32) → (Nat → Int32) → (Nat → Int32) → Int32 → Int32 → Int32 → (Nat → StT) → Int32 → Int32 → Prop) (now : StT) (pln : PlT) (his : HiT) (x1 : Int32) : Prop :=
  wp_X5_isRider (fun r_1 =>
    ((¬ r_1 = 0) →
      wp_X2_fare (fun r_3 =>
        wp_X0_record (fun hs_4 ol_5 sz_6 =>
          wp_X3_removeRider (fun fl_7 ar_8 dr_9 pe_10 ri_11 =>
            wp_X2_make (fun od_12 rd_13 vn_14 pn_15 ao_16 sr_17 sp_18 wt_19 =>
              P r_3 fl_7 ar_8 dr_9 pe_10 ri_11 od_12 rd_13 vn_14 pn_15 ao_16 sr_17 sp_18 wt_19 hs_4 ol_5 sz_6) pln (mkSt now.se now.la now.de now.le now.sa fl_7 ar_8 dr_9 pe_10 ri_11)) now x1) his now) pln now x1) ∧
    ((r_1 = 0) →
      P (-101 : Int32) now.fl now.ar now.dr now.pe now.ri pln.od pln.rd pln.vn pln.pn pln.ao pln.sr pln.sp pln.wt his.hs his.ol his.sz)) now x1
def wp_X5_rebook (P : Int32 → (Nat → Int32) → (Nat → Int32) → (Nat → Int32) → (Nat → Int32) → (Nat → Int32) → (Nat → Int32) → Int32 → Int32 → Int32 → (Nat → StT) → Int32 → Int32 → Prop) (now : StT) (pln : PlT) (his : HiT) (x1 : Int32) (x2 : Int32) : Prop :=
  wp_X5_isRider (fun r_1 =>
    ((r_1 = 0) →
      P (-101 : Int32) now.fl pln.od pln.rd pln.vn pln.pn pln.ao pln.sr pln.sp pln.wt his.hs his.ol his.sz) ∧
    ((¬ r_1 = 0) →
      wp_X5_isFlight (fun r_3 =>
        ((¬ r_3 = 0) →
          vp_in x1 24 ∧
          ((¬ (now.fl x1.toNatClampNeg) = x2) →
            wp_X0_record (fun hs_7 ol_8 sz_9 =>
              vp_in x1 24 ∧
              wp_X2_make (fun od_11 rd_12 vn_13 pn_14 ao_15 sr_16 sp_17 wt_18 =>
                vp_in x1 24 ∧
                P (vn_13 x1.toNatClampNeg) (upd now.fl x1.toNatClampNeg x2) od_11 rd_12 vn_13 pn_14 ao_15 sr_16 sp_17 wt_18 hs_7 ol_8 sz_9) pln (mkSt now.se now.la now.de now.le now.sa (upd now.fl x1.toNatClampNeg x2) now.ar now.dr now.pe now.ri)) his now) ∧
          (((now.fl x1.toNatClampNeg) = x2) →
            P (-105 : Int32) now.fl pln.od pln.rd pln.vn pln.pn pln.ao pln.sr pln.sp pln.wt his.hs his.ol his.sz)) ∧
        ((r_3 = 0) →
          P (-101 : Int32) now.fl pln.od pln.rd pln.vn pln.pn pln.ao pln.sr pln.sp pln.wt his.hs his.ol his.sz)) x2)) now x1
def wp_X2_waitOf (P : Int32 → Prop) (o0 : PlT) (o1 : StT) (x2 : Int32) : Prop :=
  vp_in x2 24 ∧
  wp_X5_isVan (fun r_2 =>
    ((r_2 = 0) →
      P (-106 : Int32)) ∧
    ((¬ r_2 = 0) →
      vp_in (o0.vn x2.toNatClampNeg) 8 ∧
      vp_in x2 24 ∧
      P ((o1.le (o0.vn x2.toNatClampNeg).toNatClampNeg) - (o0.rd x2.toNatClampNeg)))) (o0.vn x2.toNatClampNeg)
def wp_X4_placeFor_2F (P : Int32 → Prop) (o0 : WyT) (x1 : Int32) (r2 : Int32 → Prop) (v2 : Int32) : Prop :=
  ((o0.so ≤ v2) →
    P v2) ∧
  ((¬ o0.so ≤ v2) →
    vp_in v2 24 ∧
    ((x1 ≤ (o0.ky v2.toNatClampNeg)) →
      P v2) ∧
    ((¬ x1 ≤ (o0.ky v2.toNatClampNeg)) →
      r2 (v2 + 1)))
def wp_X4_placeFor_2 (P : Int32 → Prop) (o0 : WyT) (x1 : Int32) : Nat → Int32 → Prop
  | 0 => fun _ => False
  | n + 1 => wp_X4_placeFor_2F P o0 x1 (wp_X4_placeFor_2 P o0 x1 n)
def wp_X4_placeFor (P : Int32 → Prop) (o0 : WyT) (x1 : Int32) : Prop :=
  ∃ n : Nat, wp_X4_placeFor_2 P o0 x1 n (0 : Int32)
def wp_X4_openStop_15F (P : (Nat → Int32) → (Nat → Int32) → Int32 → Prop) (o0 : WyT) (x1 : Int32) (x2 : Int32) (so : Int32) (r15 : Int32 → (Nat → Int32) → (Nat → Int32) → Prop) (v3 : Int32) (ky : Nat → Int32) (wp : Nat → Int32) : Prop :=
  ((v3 ≤ x1) →
    vp_in x1 24 ∧
    vp_in x1 24 ∧
    P (upd ky x1.toNatClampNeg x2) (upd wp x1.toNatClampNeg (0 : Int32)) (so + (1 : Int32))) ∧
  ((¬ v3 ≤ x1) →
    vp_in (v3 - (1 : Int32)) 24 ∧
    vp_in v3 24 ∧
    vp_in (v3 - (1 : Int32)) 24 ∧
    vp_in v3 24 ∧
    r15 (v3 + (-1)) (upd ky v3.toNatClampNeg (ky (v3 - (1 : Int32)).toNatClampNeg)) (upd wp v3.toNatClampNeg (wp (v3 - (1 : Int32)).toNatClampNeg)))
def wp_X4_openStop_15 (P : (Nat → Int32) → (Nat → Int32) → Int32 → Prop) (o0 : WyT) (x1 : Int32) (x2 : Int32) (so : Int32) : Nat → Int32 → (Nat → Int32) → (Nat → Int32) → Prop
  | 0 => fun _ _ _ => False
  | n + 1 => wp_X4_openStop_15F P o0 x1 x2 so (wp_X4_openStop_15 P o0 x1 x2 so n)
def wp_X4_openStop (P : (Nat → Int32) → (Nat → Int32) → Int32 → Prop) (o0 : WyT) (x1 : Int32) (x2 : Int32) : Prop :=
  ((o0.so < (24 : Int32)) →
    ∃ n : Nat, wp_X4_openStop_15 P o0 x1 x2 o0.so n o0.so o0.ky o0.wp) ∧
  ((¬ o0.so < (24 : Int32)) →
    P o0.ky o0.wp o0.so)
def wp_X4_letOut_37 (P : (Nat → Int32) → (Nat → Int32) → Int32 → Prop) (o0 : WyT) (x1 : Int32) (x2 : Int32) (v3 : Int32) (ky : Nat → Int32) (wp : Nat → Int32) (so : Int32) : Prop :=
  vp_in v3 24 ∧
  vp_in v3 24 ∧
  P ky (upd wp v3.toNatClampNeg ((wp v3.toNatClampNeg) + x2)) so
def wp_X4_letOut_31 (P : (Nat → Int32) → (Nat → Int32) → Int32 → Prop) (o0 : WyT) (x1 : Int32) (x2 : Int32) (v3 : Int32) (ky : Nat → Int32) (wp : Nat → Int32) (so : Int32) : Prop :=
  wp_X4_openStop (fun ky_6 wp_7 so_8 =>
    wp_X4_letOut_37 P o0 x1 x2 v3 ky_6 wp_7 so_8) (mkWy ky wp o0.mi so) v3 x1
def wp_X4_letOut (P : (Nat → Int32) → (Nat → Int32) → Int32 → Prop) (o0 : WyT) (x1 : Int32) (x2 : Int32) : Prop :=
  wp_X4_placeFor (fun r_1 =>
    ((r_1 < (24 : Int32)) →
      ((r_1 = o0.so) →
        wp_X4_letOut_31 P o0 x1 x2 r_1 o0.ky o0.wp o0.so) ∧
      ((¬ r_1 = o0.so) →
        vp_in r_1 24 ∧
        (((o0.ky r_1.toNatClampNeg) = x1) →
          wp_X4_letOut_37 P o0 x1 x2 r_1 o0.ky o0.wp o0.so) ∧
        ((¬ (o0.ky r_1.toNatClampNeg) = x1) →
          wp_X4_letOut_31 P o0 x1 x2 r_1 o0.ky o0.wp o0.so))) ∧
    ((¬ r_1 < (24 : Int32)) →
      P o0.ky o0.wp o0.so)) o0 x1
def wp_X3_areaOfStop (P : Int32 → Prop) (x0 : Int32) : Prop :=
  P (x0 / (100 : Int32))
def wp_X4_tellMinutes_82 (P : (Nat → Int32) → Prop) (o0 : WyT) (x1 : Int32) (r2 : Int32 → (Nat → Int32) → Prop) (v2 : Int32) (w0 : Int32) (w1 : Int32) (w2 : Int32) (mi : Nat → Int32) : Prop :=
  vp_in w0 24 ∧
  r2 (v2 + 1) (upd mi w0.toNatClampNeg (w1 + w2))
def wp_X4_tellMinutes_2F (P : (Nat → Int32) → Prop) (o0 : WyT) (x1 : Int32) (r2 : Int32 → (Nat → Int32) → Prop) (v2 : Int32) (mi : Nat → Int32) : Prop :=
  ((o0.so ≤ v2) →
    P mi) ∧
  ((¬ o0.so ≤ v2) →
    vp_in v2 24 ∧
    wp_X3_areaOfStop (fun r_3 =>
      ((¬ v2 = 0) →
        vp_in (v2 - (1 : Int32)) 24 ∧
        wp_X3_areaOfStop (fun r_6 =>
          vp_in (v2 - (1 : Int32)) 24 ∧
          (((r_3 - r_6) ≤ 0) →
            wp_X4_tellMinutes_82 P o0 x1 r2 v2 v2 (mi (v2 - (1 : Int32)).toNatClampNeg) (3 : Int32) mi) ∧
          ((¬ (r_3 - r_6) ≤ 0) →
            wp_X4_tellMinutes_82 P o0 x1 r2 v2 v2 (mi (v2 - (1 : Int32)).toNatClampNeg) ((5 : Int32) * (r_3 - r_6)) mi)) (o0.ky (v2 - (1 : Int32)).toNatClampNeg)) ∧
      ((v2 = 0) →
        vp_in v2 24 ∧
        r2 (v2 + 1) (upd mi v2.toNatClampNeg ((x1 + (10 : Int32)) + ((5 : Int32) * r_3))))) (o0.ky v2.toNatClampNeg))
def wp_X4_tellMinutes_2 (P : (Nat → Int32) → Prop) (o0 : WyT) (x1 : Int32) : Nat → Int32 → (Nat → Int32) → Prop
  | 0 => fun _ _ => False
  | n + 1 => wp_X4_tellMinutes_2F P o0 x1 (wp_X4_tellMinutes_2 P o0 x1 n)
def wp_X4_tellMinutes (P : (Nat → Int32) → Prop) (o0 : WyT) (x1 : Int32) : Prop :=
  ∃ n : Nat, wp_X4_tellMinutes_2 P o0 x1 n (0 : Int32) o0.mi
def wp_X4_follow_8F (P : (Nat → Int32) → (Nat → Int32) → (Nat → Int32) → Int32 → Prop) (o0 : WyT) (o1 : StT) (o2 : PlT) (x3 : Int32) (mi : Nat → Int32) (r8 : Int32 → (Nat → Int32) → (Nat → Int32) → Int32 → Prop) (v4 : Int32) (ky : Nat → Int32) (wp : Nat → Int32) (so : Int32) : Prop :=
  ((o1.ri ≤ v4) →
    vp_in x3 8 ∧
    wp_X4_tellMinutes (fun mi_3 =>
      P ky wp mi_3 so) (mkWy ky wp mi so) (o1.le x3.toNatClampNeg)) ∧
  ((¬ o1.ri ≤ v4) →
    vp_in v4 24 ∧
    ((¬ (o2.vn v4.toNatClampNeg) = x3) →
      r8 (v4 + 1) ky wp so) ∧
    (((o2.vn v4.toNatClampNeg) = x3) →
      wp_X3_stopKey (fun r_6 =>
        vp_in v4 24 ∧
        wp_X4_letOut (fun ky_8 wp_9 so_10 =>
          r8 (v4 + 1) ky_8 wp_9 so_10) (mkWy ky wp mi so) r_6 (o1.pe v4.toNatClampNeg)) o1 v4))
def wp_X4_follow_8 (P : (Nat → Int32) → (Nat → Int32) → (Nat → Int32) → Int32 → Prop) (o0 : WyT) (o1 : StT) (o2 : PlT) (x3 : Int32) (mi : Nat → Int32) : Nat → Int32 → (Nat → Int32) → (Nat → Int32) → Int32 → Prop
  | 0 => fun _ _ _ _ => False
  | n + 1 => wp_X4_follow_8F P o0 o1 o2 x3 mi (wp_X4_follow_8 P o0 o1 o2 x3 mi n)
def wp_X4_follow (P : (Nat → Int32) → (Nat → Int32) → (Nat → Int32) → Int32 → Prop) (o0 : WyT) (o1 : StT) (o2 : PlT) (x3 : Int32) : Prop :=
  ∃ n : Nat, wp_X4_follow_8 P o0 o1 o2 x3 o0.mi n (0 : Int32) o0.ky o0.wp (0 : Int32)
def wp_X4_minuteAt (P : Int32 → Prop) (o0 : WyT) (x1 : Int32) : Prop :=
  wp_X4_placeFor (fun r_1 =>
    ((o0.so ≤ r_1) →
      P (-106 : Int32)) ∧
    ((¬ o0.so ≤ r_1) →
      vp_in r_1 24 ∧
      P (o0.mi r_1.toNatClampNeg))) o0 x1
def wp_X5_minuteAtDoor (P : Int32 → (Nat → Int32) → (Nat → Int32) → (Nat → Int32) → Int32 → Prop) (now : StT) (pln : PlT) (way : WyT) (x1 : Int32) : Prop :=
  vp_in x1 24 ∧
  wp_X5_isVan (fun r_2 =>
    ((¬ r_2 = 0) →
      wp_X4_follow (fun ky_4 wp_5 mi_6 so_7 =>
        wp_X3_stopKey (fun r_8 =>
          wp_X4_minuteAt (fun r_9 =>
            P r_9 ky_4 wp_5 mi_6 so_7) (mkWy ky_4 wp_5 mi_6 so_7) r_8) now x1) way now pln (pln.vn x1.toNatClampNeg)) ∧
    ((r_2 = 0) →
      P (-106 : Int32) way.ky way.wp way.mi way.so)) (pln.vn x1.toNatClampNeg)
def wp_X2_othersAtStop_18F (P : Int32 → Prop) (o0 : PlT) (o1 : StT) (x2 : Int32) (r18 : Int32 → Int32 → Prop) (v3 : Int32) (v4 : Int32) : Prop :=
  ((o1.ri ≤ v4) →
    P v3) ∧
  ((¬ o1.ri ≤ v4) →
    ((v4 = x2) →
      r18 v3 (v4 + 1)) ∧
    ((¬ v4 = x2) →
      wp_X2_shares (fun r_5 =>
        ((r_5 = 0) →
          r18 v3 (v4 + 1)) ∧
        ((¬ r_5 = 0) →
          r18 (v3 + 1) (v4 + 1))) o0 o1 x2 v4 (1 : Int32)))
def wp_X2_othersAtStop_18 (P : Int32 → Prop) (o0 : PlT) (o1 : StT) (x2 : Int32) : Nat → Int32 → Int32 → Prop
  | 0 => fun _ _ => False
  | n + 1 => wp_X2_othersAtStop_18F P o0 o1 x2 (wp_X2_othersAtStop_18 P o0 o1 x2 n)
def wp_X2_othersAtStop (P : Int32 → Prop) (o0 : PlT) (o1 : StT) (x2 : Int32) : Prop :=
  vp_in x2 24 ∧
  ((¬ (o0.vn x2.toNatClampNeg) = (-106 : Int32)) →
    ∃ n : Nat, wp_X2_othersAtStop_18 P o0 o1 x2 n (0 : Int32) (0 : Int32)) ∧
  (((o0.vn x2.toNatClampNeg) = (-106 : Int32)) →
    P (0 : Int32))
def wp_X5_rider (P : Int32 → (Nat → Int32) → (Nat → Int32) → (Nat → Int32) → Int32 → Prop) (now : StT) (pln : PlT) (way : WyT) (x1 : Int32) (x2 : Int32) : Prop :=
  wp_X5_isRider (fun r_1 =>
    ((¬ r_1 = 0) →
      (x2 = 0 →
        vp_in x1 24 ∧
        P (now.fl x1.toNatClampNeg) way.ky way.wp way.mi way.so) ∧
      (x2 = 1 →
        vp_in x1 24 ∧
        P (now.ar x1.toNatClampNeg) way.ky way.wp way.mi way.so) ∧
      (x2 = 2 →
        vp_in x1 24 ∧
        P (now.dr x1.toNatClampNeg) way.ky way.wp way.mi way.so) ∧
      (x2 = 3 →
        vp_in x1 24 ∧
        P (now.pe x1.toNatClampNeg) way.ky way.wp way.mi way.so) ∧
      (x2 = 4 →
        wp_X3_riderReady (fun r_8 =>
          P r_8 way.ky way.wp way.mi way.so) now x1) ∧
      (x2 = 5 →
        vp_in x1 24 ∧
        P (pln.vn x1.toNatClampNeg) way.ky way.wp way.mi way.so) ∧
      (x2 = 6 →
        wp_X2_waitOf (fun r_10 =>
          P r_10 way.ky way.wp way.mi way.so) pln now x1) ∧
      (x2 = 7 →
        wp_X5_minuteAtDoor (fun r_15 ky_11 wp_12 mi_13 so_14 =>
          P r_15 ky_11 wp_12 mi_13 so_14) now pln way x1) ∧
      (x2 = 8 →
        wp_X2_fare (fun r_16 =>
          P r_16 way.ky way.wp way.mi way.so) pln now x1) ∧
      (x2 = 9 →
        wp_X2_othersAtStop (fun r_17 =>
          P r_17 way.ky way.wp way.mi way.so) pln now x1) ∧
      ((¬ x2 = 0 ∧ ¬ x2 = 1 ∧ ¬ x2 = 2 ∧ ¬ x2 = 3 ∧ ¬ x2 = 4 ∧ ¬ x2 = 5 ∧ ¬ x2 = 6 ∧ ¬ x2 = 7 ∧ ¬ x2 = 8 ∧ ¬ x2 = 9) →
        P (-102 : Int32) way.ky way.wp way.mi way.so)) ∧
    ((r_1 = 0) →
      P (-101 : Int32) way.ky way.wp way.mi way.so)) now x1
def wp_X2_ridersIn_5F (P : Int32 → Prop) (o0 : PlT) (o1 : StT) (x2 : Int32) (r5 : Int32 → Int32 → Prop) (v3 : Int32) (v4 : Int32) : Prop :=
  ((o1.ri ≤ v4) →
    P v3) ∧
  ((¬ o1.ri ≤ v4) →
    vp_in v4 24 ∧
    ((¬ (o0.vn v4.toNatClampNeg) = x2) →
      r5 v3 (v4 + 1)) ∧
    (((o0.vn v4.toNatClampNeg) = x2) →
      r5 (v3 ||| ((1 : Int32) <<< (v4 &&& 31))) (v4 + 1)))
def wp_X2_ridersIn_5 (P : Int32 → Prop) (o0 : PlT) (o1 : StT) (x2 : Int32) : Nat → Int32 → Int32 → Prop
  | 0 => fun _ _ => False
  | n + 1 => wp_X2_ridersIn_5F P o0 o1 x2 (wp_X2_ridersIn_5 P o0 o1 x2 n)
def wp_X2_ridersIn (P : Int32 → Prop) (o0 : PlT) (o1 : StT) (x2 : Int32) : Prop :=
  ∃ n : Nat, wp_X2_ridersIn_5 P o0 o1 x2 n (0 : Int32) (0 : Int32)
def wp_X4_lastMinute (P : Int32 → Prop) (o0 : WyT) : Prop :=
  ((o0.so ≤ 0) →
    P (-106 : Int32)) ∧
  ((¬ o0.so ≤ 0) →
    vp_in (o0.so - (1 : Int32)) 24 ∧
    P (o0.mi (o0.so - (1 : Int32)).toNatClampNeg))
def wp_X2_faresOf_5F (P : Int32 → Prop) (o0 : PlT) (o1 : StT) (x2 : Int32) (r5 : Int32 → Int32 → Prop) (v3 : Int32) (v4 : Int32) : Prop :=
  ((o1.ri ≤ v4) →
    P v3) ∧
  ((¬ o1.ri ≤ v4) →
    vp_in v4 24 ∧
    ((¬ (o0.vn v4.toNatClampNeg) = x2) →
      r5 v3 (v4 + 1)) ∧
    (((o0.vn v4.toNatClampNeg) = x2) →
      wp_X2_fare (fun r_4 =>
        r5 (v3 + r_4) (v4 + 1)) o0 o1 v4))
def wp_X2_faresOf_5 (P : Int32 → Prop) (o0 : PlT) (o1 : StT) (x2 : Int32) : Nat → Int32 → Int32 → Prop
  | 0 => fun _ _ => False
  | n + 1 => wp_X2_faresOf_5F P o0 o1 x2 (wp_X2_faresOf_5 P o0 o1 x2 n)
def wp_X2_faresOf (P : Int32 → Prop) (o0 : PlT) (o1 : StT) (x2 : Int32) : Prop :=
  ∃ n : Nat, wp_X2_faresOf_5 P o0 o1 x2 n (0 : Int32) (0 : Int32)
def wp_X5_vanOf (P : Int32 → (Nat → Int32) → (Nat → Int32) → (Nat → Int32) → Int32 → Prop) (now : StT) (pln : PlT) (way : WyT) (x1 : Int32) (x2 : Int32) : Prop :=
  wp_X5_isVan (fun r_1 =>
    ((¬ r_1 = 0) →
      wp_X4_follow (fun ky_3 wp_4 mi_5 so_6 =>
        (x2 = 0 →
          vp_in x1 8 ∧
          P (now.le x1.toNatClampNeg) ky_3 wp_4 mi_5 so_6) ∧
        (x2 = 1 →
          vp_in x1 8 ∧
          P (now.sa x1.toNatClampNeg) ky_3 wp_4 mi_5 so_6) ∧
        (x2 = 2 →
          vp_in x1 8 ∧
          P (pln.pn x1.toNatClampNeg) ky_3 wp_4 mi_5 so_6) ∧
        (x2 = 3 →
          wp_X2_ridersIn (fun r_11 =>
            P r_11 ky_3 wp_4 mi_5 so_6) pln now x1) ∧
        (x2 = 4 →
          vp_in x1 8 ∧
          P (pln.ao x1.toNatClampNeg) ky_3 wp_4 mi_5 so_6) ∧
        (x2 = 5 →
          P so_6 ky_3 wp_4 mi_5 so_6) ∧
        (x2 = 6 →
          wp_X4_lastMinute (fun r_13 =>
            P r_13 ky_3 wp_4 mi_5 so_6) (mkWy ky_3 wp_4 mi_5 so_6)) ∧
        (x2 = 7 →
          wp_X2_faresOf (fun r_14 =>
            P r_14 ky_3 wp_4 mi_5 so_6) pln now x1) ∧
        ((¬ x2 = 0 ∧ ¬ x2 = 1 ∧ ¬ x2 = 2 ∧ ¬ x2 = 3 ∧ ¬ x2 = 4 ∧ ¬ x2 = 5 ∧ ¬ x2 = 6 ∧ ¬ x2 = 7) →
          P (-102 : Int32) ky_3 wp_4 mi_5 so_6)) way now pln x1) ∧
    ((r_1 = 0) →
      P (-101 : Int32) way.ky way.wp way.mi way.so)) x1
def wp_X2_peopleOfFlight_36 (P : Int32 → Prop) (o0 : PlT) (o1 : StT) (x2 : Int32) (x3 : Int32) (r6 : Int32 → Int32 → Prop) (v4 : Int32) (v5 : Int32) (w0 : Int32) : Prop :=
  ((w0 = 0) →
    r6 v4 (v5 + 1)) ∧
  ((¬ w0 = 0) →
    vp_in v5 24 ∧
    ((¬ (o1.fl v5.toNatClampNeg) = x2) →
      r6 v4 (v5 + 1)) ∧
    (((o1.fl v5.toNatClampNeg) = x2) →
      vp_in v5 24 ∧
      r6 (v4 + (o1.pe v5.toNatClampNeg)) (v5 + 1)))
def wp_X2_peopleOfFlight_6F (P : Int32 → Prop) (o0 : PlT) (o1 : StT) (x2 : Int32) (x3 : Int32) (r6 : Int32 → Int32 → Prop) (v4 : Int32) (v5 : Int32) : Prop :=
  ((o1.ri ≤ v5) →
    P v4) ∧
  ((¬ o1.ri ≤ v5) →
    ((x3 = 0) →
      wp_X2_peopleOfFlight_36 P o0 o1 x2 x3 r6 v4 v5 (1 : Int32)) ∧
    ((¬ x3 = 0) →
      vp_in v5 24 ∧
      ((¬ (o0.vn v5.toNatClampNeg) = (-106 : Int32)) →
        wp_X2_peopleOfFlight_36 P o0 o1 x2 x3 r6 v4 v5 (0 : Int32)) ∧
      (((o0.vn v5.toNatClampNeg) = (-106 : Int32)) →
        wp_X2_peopleOfFlight_36 P o0 o1 x2 x3 r6 v4 v5 (1 : Int32))))
def wp_X2_peopleOfFlight_6 (P : Int32 → Prop) (o0 : PlT) (o1 : StT) (x2 : Int32) (x3 : Int32) : Nat → Int32 → Int32 → Prop
  | 0 => fun _ _ => False
  | n + 1 => wp_X2_peopleOfFlight_6F P o0 o1 x2 x3 (wp_X2_peopleOfFlight_6 P o0 o1 x2 x3 n)
def wp_X2_peopleOfFlight (P : Int32 → Prop) (o0 : PlT) (o1 : StT) (x2 : Int32) (x3 : Int32) : Prop :=
  ∃ n : Nat, wp_X2_peopleOfFlight_6 P o0 o1 x2 x3 n (0 : Int32) (0 : Int32)
def wp_X5_flight (P : Int32 → Prop) (now : StT) (pln : PlT) (x1 : Int32) (x2 : Int32) : Prop :=
  wp_X5_isFlight (fun r_1 =>
    ((¬ r_1 = 0) →
      (x2 = 0 →
        vp_in x1 6 ∧
        P (now.la x1.toNatClampNeg)) ∧
      (x2 = 1 →
        vp_in x1 6 ∧
        P (now.de x1.toNatClampNeg)) ∧
      (x2 = 2 →
        wp_X3_flightReady (fun r_6 =>
          P r_6) now x1) ∧
      (x2 = 3 →
        wp_X2_peopleOfFlight (fun r_7 =>
          P r_7) pln now x1 (0 : Int32)) ∧
      (x2 = 4 →
        wp_X2_peopleOfFlight (fun r_8 =>
          P r_8) pln now x1 (1 : Int32)) ∧
      ((¬ x2 = 0 ∧ ¬ x2 = 1 ∧ ¬ x2 = 2 ∧ ¬ x2 = 3 ∧ ¬ x2 = 4) →
        P (-102 : Int32))) ∧
    ((r_1 = 0) →
      P (-101 : Int32))) x1
def wp_X3_doorOfStop (P : Int32 → Prop) (x0 : Int32) : Prop :=
  P (x0 - x0 / (100 : Int32) * (100 : Int32))
def wp_X5_stop (P : Int32 → (Nat → Int32) → (Nat → Int32) → (Nat → Int32) → Int32 → Prop) (now : StT) (pln : PlT) (way : WyT) (x1 : Int32) (x2 : Int32) (x3 : Int32) : Prop :=
  wp_X5_isVan (fun r_1 =>
    ((¬ r_1 = 0) →
      wp_X4_follow (fun ky_3 wp_4 mi_5 so_6 =>
        wp_X5_isIn (fun r_7 =>
          ((¬ r_7 = 0) →
            (x3 = 0 →
              vp_in x2 24 ∧
              wp_X3_areaOfStop (fun r_11 =>
                P r_11 ky_3 wp_4 mi_5 so_6) (ky_3 x2.toNatClampNeg)) ∧
            (x3 = 1 →
              vp_in x2 24 ∧
              wp_X3_doorOfStop (fun r_13 =>
                P r_13 ky_3 wp_4 mi_5 so_6) (ky_3 x2.toNatClampNeg)) ∧
            (x3 = 2 →
              vp_in x2 24 ∧
              P (mi_5 x2.toNatClampNeg) ky_3 wp_4 mi_5 so_6) ∧
            (x3 = 3 →
              vp_in x2 24 ∧
              P (wp_4 x2.toNatClampNeg) ky_3 wp_4 mi_5 so_6) ∧
            ((¬ x3 = 0 ∧ ¬ x3 = 1 ∧ ¬ x3 = 2 ∧ ¬ x3 = 3) →
              P (-102 : Int32) ky_3 wp_4 mi_5 so_6)) ∧
          ((r_7 = 0) →
            P (-101 : Int32) ky_3 wp_4 mi_5 so_6)) x2 (0 : Int32) (so_6 - (1 : Int32))) way now pln x1) ∧
    ((r_1 = 0) →
      P (-101 : Int32) way.ky way.wp way.mi way.so)) x1
def wp_X3_allPeople_4F (P : Int32 → Prop) (o0 : StT) (r4 : Int32 → Int32 → Prop) (v1 : Int32) (v2 : Int32) : Prop :=
  ((o0.ri ≤ v2) →
    P v1) ∧
  ((¬ o0.ri ≤ v2) →
    vp_in v2 24 ∧
    r4 (v1 + (o0.pe v2.toNatClampNeg)) (v2 + 1))
def wp_X3_allPeople_4 (P : Int32 → Prop) (o0 : StT) : Nat → Int32 → Int32 → Prop
  | 0 => fun _ _ => False
  | n + 1 => wp_X3_allPeople_4F P o0 (wp_X3_allPeople_4 P o0 n)
def wp_X3_allPeople (P : Int32 → Prop) (o0 : StT) : Prop :=
  ∃ n : Nat, wp_X3_allPeople_4 P o0 n (0 : Int32) (0 : Int32)
def wp_X5_allFares_4F (P : Int32 → Prop) (now : StT) (pln : PlT) (r4 : Int32 → Int32 → Prop) (v1 : Int32) (v2 : Int32) : Prop :=
  ((now.ri ≤ v2) →
    P v1) ∧
  ((¬ now.ri ≤ v2) →
    wp_X2_fare (fun r_2 =>
      r4 (v1 + r_2) (v2 + 1)) pln now v2)
def wp_X5_allFares_4 (P : Int32 → Prop) (now : StT) (pln : PlT) : Nat → Int32 → Int32 → Prop
  | 0 => fun _ _ => False
  | n + 1 => wp_X5_allFares_4F P now pln (wp_X5_allFares_4 P now pln n)
def wp_X5_allFares (P : Int32 → Prop) (now : StT) (pln : PlT) : Prop :=
  ∃ n : Nat, wp_X5_allFares_4 P now pln n (0 : Int32) (0 : Int32)
def wp_X2_vansWithRiders_4F (P : Int32 → Prop) (o0 : PlT) (r4 : Int32 → Int32 → Prop) (v1 : Int32) (v2 : Int32) : Prop :=
  (((8 : Int32) ≤ v2) →
    P v1) ∧
  ((¬ (8 : Int32) ≤ v2) →
    vp_in v2 8 ∧
    (((o0.pn v2.toNatClampNeg) ≤ 0) →
      r4 v1 (v2 + 1)) ∧
    ((¬ (o0.pn v2.toNatClampNeg) ≤ 0) →
      r4 (v1 + 1) (v2 + 1)))
def wp_X2_vansWithRiders_4 (P : Int32 → Prop) (o0 : PlT) : Nat → Int32 → Int32 → Prop
  | 0 => fun _ _ => False
  | n + 1 => wp_X2_vansWithRiders_4F P o0 (wp_X2_vansWithRiders_4 P o0 n)
def wp_X2_vansWithRiders (P : Int32 → Prop) (o0 : PlT) : Prop :=
  ∃ n : Nat, wp_X2_vansWithRiders_4 P o0 n (0 : Int32) (0 : Int32)
def wp_X5_allStops_4F (P : Int32 → (Nat → Int32) → (Nat → Int32) → (Nat → Int32) → Int32 → Prop) (now : StT) (pln : PlT) (way : WyT) (r4 : Int32 → Int32 → (Nat → Int32) → (Nat → Int32) → (Nat → Int32) → Int32 → Prop) (v1 : Int32) (v2 : Int32) (way_ky : Nat → Int32) (way_wp : Nat → Int32) (way_mi : Nat → Int32) (way_so : Int32) : Prop :=
  (((8 : Int32) ≤ v2) →
    P v1 way_ky way_wp way_mi way_so) ∧
  ((¬ (8 : Int32) ≤ v2) →
    wp_X4_follow (fun ky_2 wp_3 mi_4 so_5 =>
      r4 (v1 + so_5) (v2 + 1) ky_2 wp_3 mi_4 so_5) (mkWy way_ky way_wp way_mi way_so) now pln v2)
def wp_X5_allStops_4 (P : Int32 → (Nat → Int32) → (Nat → Int32) → (Nat → Int32) → Int32 → Prop) (now : StT) (pln : PlT) (way : WyT) : Nat → Int32 → Int32 → (Nat → Int32) → (Nat → Int32) → (Nat → Int32) → Int32 → Prop
  | 0 => fun _ _ _ _ _ _ => False
  | n + 1 => wp_X5_allStops_4F P now pln way (wp_X5_allStops_4 P now pln way n)
def wp_X5_allStops (P : Int32 → (Nat → Int32) → (Nat → Int32) → (Nat → Int32) → Int32 → Prop) (now : StT) (pln : PlT) (way : WyT) : Prop :=
  ∃ n : Nat, wp_X5_allStops_4 P now pln way n (0 : Int32) (0 : Int32) way.ky way.wp way.mi way.so
def wp_X5_lastAtDoor_6F (P : Int32 → (Nat → Int32) → (Nat → Int32) → (Nat → Int32) → Int32 → Prop) (way : WyT) (o1 : StT) (o2 : PlT) (r6 : Int32 → Int32 → (Nat → Int32) → (Nat → Int32) → (Nat → Int32) → Int32 → Prop) (v3 : Int32) (v4 : Int32) (way_ky : Nat → Int32) (way_wp : Nat → Int32) (way_mi : Nat → Int32) (way_so : Int32) : Prop :=
  (((8 : Int32) ≤ v4) →
    P v3 way_ky way_wp way_mi way_so) ∧
  ((¬ (8 : Int32) ≤ v4) →
    wp_X4_follow (fun ky_2 wp_3 mi_4 so_5 =>
      ((so_5 ≤ 0) →
        r6 v3 (v4 + 1) ky_2 wp_3 mi_4 so_5) ∧
      ((¬ so_5 ≤ 0) →
        wp_X4_lastMinute (fun r_7 =>
          r6 (if v3 < r_7 then r_7 else v3) (v4 + 1) ky_2 wp_3 mi_4 so_5) (mkWy ky_2 wp_3 mi_4 so_5))) (mkWy way_ky way_wp way_mi way_so) o1 o2 v4)
def wp_X5_lastAtDoor_6 (P : Int32 → (Nat → Int32) → (Nat → Int32) → (Nat → Int32) → Int32 → Prop) (way : WyT) (o1 : StT) (o2 : PlT) : Nat → Int32 → Int32 → (Nat → Int32) → (Nat → Int32) → (Nat → Int32) → Int32 → Prop
  | 0 => fun _ _ _ _ _ _ => False
  | n + 1 => wp_X5_lastAtDoor_6F P way o1 o2 (wp_X5_lastAtDoor_6 P way o1 o2 n)
def wp_X5_lastAtDoor (P : Int32 → (Nat → Int32) → (Nat → Int32) → (Nat → Int32) → Int32 → Prop) (way : WyT) (o1 : StT) (o2 : PlT) : Prop :=
  ∃ n : Nat, wp_X5_lastAtDoor_6 P way o1 o2 n (-106 : Int32) (0 : Int32) way.ky way.wp way.mi way.so
def wp_X5_count (P : Int32 → (Nat → Int32) → (Nat → Int32) → (Nat → Int32) → Int32 → Prop) (now : StT) (pln : PlT) (way : WyT) (pad : PdT) (his : HiT) (x1 : Int32) : Prop :=
  wp_X5_isIn (fun r_1 =>
    ((r_1 = 0) →
      (x1 = 5 →
        P now.ri way.ky way.wp way.mi way.so) ∧
      (x1 = 6 →
        wp_X3_allPeople (fun r_4 =>
          P r_4 way.ky way.wp way.mi way.so) now) ∧
      (x1 = 7 →
        P pln.sr way.ky way.wp way.mi way.so) ∧
      (x1 = 8 →
        P pln.sp way.ky way.wp way.mi way.so) ∧
      (x1 = 9 →
        P pln.wt way.ky way.wp way.mi way.so) ∧
      (x1 = 10 →
        wp_X5_allFares (fun r_5 =>
          P r_5 way.ky way.wp way.mi way.so) now pln) ∧
      (x1 = 11 →
        wp_X2_vansWithRiders (fun r_6 =>
          P r_6 way.ky way.wp way.mi way.so) pln) ∧
      (x1 = 12 →
        wp_X5_allStops (fun r_11 ky_7 wp_8 mi_9 so_10 =>
          P r_11 ky_7 wp_8 mi_9 so_10) now pln way) ∧
      (x1 = 13 →
        wp_X5_lastAtDoor (fun r_16 ky_12 wp_13 mi_14 so_15 =>
          P r_16 ky_12 wp_13 mi_14 so_15) way now pln) ∧
      (x1 = 14 →
        P pad.ln way.ky way.wp way.mi way.so) ∧
      (x1 = 15 →
        P his.sz way.ky way.wp way.mi way.so) ∧
      ((¬ x1 = 5 ∧ ¬ x1 = 6 ∧ ¬ x1 = 7 ∧ ¬ x1 = 8 ∧ ¬ x1 = 9 ∧ ¬ x1 = 10 ∧ ¬ x1 = 11 ∧ ¬ x1 = 12 ∧ ¬ x1 = 13 ∧ ¬ x1 = 14 ∧ ¬ x1 = 15) →
        P (-102 : Int32) way.ky way.wp way.mi way.so)) ∧
    ((¬ r_1 = 0) →
      vp_in x1 5 ∧
      P (now.se x1.toNatClampNeg) way.ky way.wp way.mi way.so)) x1 (0 : Int32) (4 : Int32)
def wp_X2_isAtKerb (P : Int32 → Prop) (o0 : PlT) (o1 : StT) (x2 : Int32) (x3 : Int32) : Prop :=
  vp_in x2 24 ∧
  (((o0.rd x2.toNatClampNeg) ≤ x3) →
    vp_in x2 24 ∧
    wp_X5_isVan (fun r_4 =>
      ((r_4 = 0) →
        vp_in x2 24 ∧
        (((o1.se (1 : Int32).toNatClampNeg) < (x3 - (o0.rd x2.toNatClampNeg))) →
          P (0 : Int32)) ∧
        ((¬ (o1.se (1 : Int32).toNatClampNeg) < (x3 - (o0.rd x2.toNatClampNeg))) →
          P (1 : Int32))) ∧
      ((¬ r_4 = 0) →
        vp_in (o0.vn x2.toNatClampNeg) 8 ∧
        (((o1.le (o0.vn x2.toNatClampNeg).toNatClampNeg) ≤ x3) →
          P (0 : Int32)) ∧
        ((¬ (o1.le (o0.vn x2.toNatClampNeg).toNatClampNeg) ≤ x3) →
          P (1 : Int32)))) (o0.vn x2.toNatClampNeg)) ∧
  ((¬ (o0.rd x2.toNatClampNeg) ≤ x3) →
    P (0 : Int32))
def wp_X5_kerb_18F (P : Int32 → Prop) (now : StT) (pln : PlT) (x1 : Int32) (r18 : Int32 → Int32 → Prop) (v2 : Int32) (v3 : Int32) : Prop :=
  ((now.ri ≤ v3) →
    P v2) ∧
  ((¬ now.ri ≤ v3) →
    wp_X2_isAtKerb (fun r_4 =>
      ((r_4 = 0) →
        r18 v2 (v3 + 1)) ∧
      ((¬ r_4 = 0) →
        vp_in v3 24 ∧
        r18 (v2 + (now.pe v3.toNatClampNeg)) (v3 + 1))) pln now v3 x1)
def wp_X5_kerb_18 (P : Int32 → Prop) (now : StT) (pln : PlT) (x1 : Int32) : Nat → Int32 → Int32 → Prop
  | 0 => fun _ _ => False
  | n + 1 => wp_X5_kerb_18F P now pln x1 (wp_X5_kerb_18 P now pln x1 n)
def wp_X5_kerb (P : Int32 → Prop) (now : StT) (pln : PlT) (x1 : Int32) : Prop :=
  wp_X5_isIn (fun r_1 =>
    ((¬ r_1 = 0) →
      ∃ n : Nat, wp_X5_kerb_18 P now pln x1 n (0 : Int32) (0 : Int32)) ∧
    ((r_1 = 0) →
      P (-102 : Int32))) x1 (0 : Int32) (3000 : Int32)
def wp_X5_ifDelayed (P : Int32 → (Nat → Int32) → (Nat → Int32) → (Nat → Int32) → Int32 → (Nat → Int32) → (Nat → Int32) → (Nat → Int32) → (Nat → Int32) → (Nat → Int32) → (Nat → Int32) → (Nat → Int32) → (Nat → Int32) → (Nat → Int32) → Int32 → (Nat → Int32) → (Nat → Int32) → (Nat → Int32) → (Nat → Int32) → (Nat → Int32) → Int32 → Int32 → Int32 → Prop) (now : StT) (way : WyT) (tri : StT) (tpl : PlT) (x1 : Int32) (x2 : Int32) (x3 : Int32) : Prop :=
  wp_X5_isFlight (fun r_1 =>
    ((¬ r_1 = 0) →
      wp_X5_isDelay (fun r_3 =>
        ((r_3 = 0) →
          P (-102 : Int32) way.ky way.wp way.mi way.so tri.se tri.la tri.de tri.le tri.sa tri.fl tri.ar tri.dr tri.pe tri.ri tpl.od tpl.rd tpl.vn tpl.pn tpl.ao tpl.sr tpl.sp tpl.wt) ∧
        ((¬ r_3 = 0) →
          wp_X5_isIn (fun r_5 =>
            ((¬ r_5 = 0) →
              wp_X3_copyFrom (fun se_7 la_8 de_9 le_10 sa_11 fl_12 ar_13 dr_14 pe_15 ri_16 =>
                vp_in x1 6 ∧
                wp_X2_make (fun od_18 rd_19 vn_20 pn_21 ao_22 sr_23 sp_24 wt_25 =>
                  ((¬ x3 = 0) →
                    ((¬ x3 = (1 : Int32)) →
                      wp_X5_lastAtDoor (fun r_32 ky_28 wp_29 mi_30 so_31 =>
                        P r_32 ky_28 wp_29 mi_30 so_31 se_7 la_8 (upd de_9 x1.toNatClampNeg x2) le_10 sa_11 fl_12 ar_13 dr_14 pe_15 ri_16 od_18 rd_19 vn_20 pn_21 ao_22 sr_23 sp_24 wt_25) way (mkSt se_7 la_8 (upd de_9 x1.toNatClampNeg x2) le_10 sa_11 fl_12 ar_13 dr_14 pe_15 ri_16) (mkPl od_18 rd_19 vn_20 pn_21 ao_22 sr_23 sp_24 wt_25)) ∧
                    ((x3 = (1 : Int32)) →
                      P wt_25 way.ky way.wp way.mi way.so se_7 la_8 (upd de_9 x1.toNatClampNeg x2) le_10 sa_11 fl_12 ar_13 dr_14 pe_15 ri_16 od_18 rd_19 vn_20 pn_21 ao_22 sr_23 sp_24 wt_25)) ∧
                  ((x3 = 0) →
                    P sp_24 way.ky way.wp way.mi way.so se_7 la_8 (upd de_9 x1.toNatClampNeg x2) le_10 sa_11 fl_12 ar_13 dr_14 pe_15 ri_16 od_18 rd_19 vn_20 pn_21 ao_22 sr_23 sp_24 wt_25)) tpl (mkSt se_7 la_8 (upd de_9 x1.toNatClampNeg x2) le_10 sa_11 fl_12 ar_13 dr_14 pe_15 ri_16)) tri now) ∧
            ((r_5 = 0) →
              P (-102 : Int32) way.ky way.wp way.mi way.so tri.se tri.la tri.de tri.le tri.sa tri.fl tri.ar tri.dr tri.pe tri.ri tpl.od tpl.rd tpl.vn tpl.pn tpl.ao tpl.sr tpl.sp tpl.wt)) x3 (0 : Int32) (2 : Int32))) x2) ∧
    ((r_1 = 0) →
      P (-101 : Int32) way.ky way.wp way.mi way.so tri.se tri.la tri.de tri.le tri.sa tri.fl tri.ar tri.dr tri.pe tri.ri tpl.od tpl.rd tpl.vn tpl.pn tpl.ao tpl.sr tpl.sp tpl.wt)) x1
def wp_X5_mostDelay_25F (P : Int32 → (Nat → Int32) → (Nat → Int32) → (Nat → Int32) → (Nat → Int32) → (Nat → Int32) → (Nat → Int32) → (Nat → Int32) → (Nat → Int32) → (Nat → Int32) → Int32 → (Nat → Int32) → (Nat → Int32) → (Nat → Int32) → (Nat → Int32) → (Nat → Int32) → Int32 → Int32 → Int32 → Prop) (now : StT) (pln : PlT) (tri : StT) (tpl : PlT) (x1 : Int32) (tri_se : Nat → Int32) (tri_la : Nat → Int32) (tri_le : Nat → Int32) (tri_sa : Nat → Int32) (tri_fl : Nat → Int32) (tri_ar : Nat → Int32) (tri_dr : Nat → Int32) (tri_pe : Nat → Int32) (tri_ri : Int32) (r25 : Int32 → (Nat → Int32) → (Nat → Int32) → (Nat → Int32) → (Nat → Int32) → (Nat → Int32) → (Nat → Int32) → Int32 → Int32 → Int32 → Prop) (v2 : Int32) (tri_de : Nat → Int32) (tpl_od : Nat → Int32) (tpl_rd : Nat → Int32) (tpl_vn : Nat → Int32) (tpl_pn : Nat → Int32) (tpl_ao : Nat → Int32) (tpl_sr : Int32) (tpl_sp : Int32) (tpl_wt : Int32) : Prop :=
  ((v2 ≤ (-30 : Int32)) →
    P (-30 : Int32) tri_se tri_la tri_de tri_le tri_sa tri_fl tri_ar tri_dr tri_pe tri_ri tpl_od tpl_rd tpl_vn tpl_pn tpl_ao tpl_sr tpl_sp tpl_wt) ∧
  ((¬ v2 ≤ (-30 : Int32)) →
    vp_in x1 6 ∧
    wp_X2_make (fun od_15 rd_16 vn_17 pn_18 ao_19 sr_20 sp_21 wt_22 =>
      ((pln.sp < sp_21) →
        r25 (v2 + (-1)) (upd tri_de x1.toNatClampNeg v2) od_15 rd_16 vn_17 pn_18 ao_19 sr_20 sp_21 wt_22) ∧
      ((¬ pln.sp < sp_21) →
        P v2 tri_se tri_la (upd tri_de x1.toNatClampNeg v2) tri_le tri_sa tri_fl tri_ar tri_dr tri_pe tri_ri od_15 rd_16 vn_17 pn_18 ao_19 sr_20 sp_21 wt_22)) (mkPl tpl_od tpl_rd tpl_vn tpl_pn tpl_ao tpl_sr tpl_sp tpl_wt) (mkSt tri_se tri_la (upd tri_de x1.toNatClampNeg v2) tri_le tri_sa tri_fl tri_ar tri_dr tri_pe tri_ri))
def wp_X5_mostDelay_25 (P : Int32 → (Nat → Int32) → (Nat → Int32) → (Nat → Int32) → (Nat → Int32) → (Nat → Int32) → (Nat → Int32) → (Nat → Int32) → (Nat → Int32) → (Nat → Int32) → Int32 → (Nat → Int32) → (Nat → Int32) → (Nat → Int32) → (Nat → Int32) → (Nat → Int32) → Int32 → Int32 → Int32 → Prop) (now : StT) (pln : PlT) (tri : StT) (tpl : PlT) (x1 : Int32) (tri_se : Nat → Int32) (tri_la : Nat → Int32) (tri_le : Nat → Int32) (tri_sa : Nat → Int32) (tri_fl : Nat → Int32) (tri_ar : Nat → Int32) (tri_dr : Nat → Int32) (tri_pe : Nat → Int32) (tri_ri : Int32) : Nat → Int32 → (Nat → Int32) → (Nat → Int32) → (Nat → Int32) → (Nat → Int32) → (Nat → Int32) → (Nat → Int32) → Int32 → Int32 → Int32 → Prop
  | 0 => fun _ _ _ _ _ _ _ _ _ _ => False
  | n + 1 => wp_X5_mostDelay_25F P now pln tri tpl x1 tri_se tri_la tri_le tri_sa tri_fl tri_ar tri_dr tri_pe tri_ri (wp_X5_mostDelay_25 P now pln tri tpl x1 tri_se tri_la tri_le tri_sa tri_fl tri_ar tri_dr tri_pe tri_ri n)
def wp_X5_mostDelay (P : Int32 → (Nat → Int32) → (Nat → Int32) → (Nat → Int32) → (Nat → Int32) → (Nat → Int32) → (Nat → Int32) → (Nat → Int32) → (Nat → Int32) → (Nat → Int32) → Int32 → (Nat → Int32) → (Nat → Int32) → (Nat → Int32) → (Nat → Int32) → (Nat → Int32) → Int32 → Int32 → Int32 → Prop) (now : StT) (pln : PlT) (tri : StT) (tpl : PlT) (x1 : Int32) : Prop :=
  wp_X5_isFlight (fun r_1 =>
    ((¬ r_1 = 0) →
      wp_X3_copyFrom (fun se_3 la_4 de_5 le_6 sa_7 fl_8 ar_9 dr_10 pe_11 ri_12 =>
        ∃ n : Nat, wp_X5_mostDelay_25 P now pln tri tpl x1 se_3 la_4 le_6 sa_7 fl_8 ar_9 dr_10 pe_11 ri_12 n (300 : Int32) de_5 tpl.od tpl.rd tpl.vn tpl.pn tpl.ao tpl.sr tpl.sp tpl.wt) tri now) ∧
    ((r_1 = 0) →
      P (-101 : Int32) tri.se tri.la tri.de tri.le tri.sa tri.fl tri.ar tri.dr tri.pe tri.ri tpl.od tpl.rd tpl.vn tpl.pn tpl.ao tpl.sr tpl.sp tpl.wt)) x1
def wp_X5_bestMinute_114 (P : Int32 → (Nat → Int32) → (Nat → Int32) → (Nat → Int32) → (Nat → Int32) → (Nat → Int32) → (Nat → Int32) → (Nat → Int32) → (Nat → Int32) → (Nat → Int32) → Int32 → (Nat → Int32) → (Nat → Int32) → (Nat → Int32) → (Nat → Int32) → (Nat → Int32) → Int32 → Int32 → Int32 → Prop) (now : StT) (tri : StT) (tpl : PlT) (x1 : Int32) (r42 : Int32 → Int32 → Int32 → Int32 → (Nat → Int32) → (Nat → Int32) → (Nat → Int32) → (Nat → Int32) → Int32 → Int32 → Int32 → Prop) (v2 : Int32) (v3 : Int32) (v4 : Int32) (v5 : Int32) (v6 : Int32) (v7 : Int32) (w0 : Int32) (tri_se : Nat → Int32) (tri_la : Nat → Int32) (tri_de : Nat → Int32) (tri_le : Nat → Int32) (tri_sa : Nat → Int32) (tri_fl : Nat → Int32) (tri_ar : Nat → Int32) (tri_dr : Nat → Int32) (tri_pe : Nat → Int32) (tri_ri : Int32) (tpl_od : Nat → Int32) (tpl_rd : Nat → Int32) (tpl_vn : Nat → Int32) (tpl_pn : Nat → Int32) (tpl_ao : Nat → Int32) (tpl_sr : Int32) (tpl_sp : Int32) (tpl_wt : Int32) : Prop :=
  ((v5 = 0) →
    r42 v5 v6 v7 (v5 + 5) tri_le tpl_vn tpl_pn tpl_ao tpl_sr tpl_sp tpl_wt) ∧
  ((¬ v5 = 0) →
    ((w0 = 0) →
      r42 v2 v3 v4 (v5 + 5) tri_le tpl_vn tpl_pn tpl_ao tpl_sr tpl_sp tpl_wt) ∧
    ((¬ w0 = 0) →
      r42 v5 v6 v7 (v5 + 5) tri_le tpl_vn tpl_pn tpl_ao tpl_sr tpl_sp tpl_wt))
def wp_X5_bestMinute_42F (P : Int32 → (Nat → Int32) → (Nat → Int32) → (Nat → Int32) → (Nat → Int32) → (Nat → Int32) → (Nat → Int32) → (Nat → Int32) → (Nat → Int32) → (Nat → Int32) → Int32 → (Nat → Int32) → (Nat → Int32) → (Nat → Int32) → (Nat → Int32) → (Nat → Int32) → Int32 → Int32 → Int32 → Prop) (now : StT) (tri : StT) (tpl : PlT) (x1 : Int32) (tri_se : Nat → Int32) (tri_la : Nat → Int32) (tri_de : Nat → Int32) (tri_sa : Nat → Int32) (tri_fl : Nat → Int32) (tri_ar : Nat → Int32) (tri_dr : Nat → Int32) (tri_pe : Nat → Int32) (tri_ri : Int32) (tpl_od : Nat → Int32) (tpl_rd : Nat → Int32) (r42 : Int32 → Int32 → Int32 → Int32 → (Nat → Int32) → (Nat → Int32) → (Nat → Int32) → (Nat → Int32) → Int32 → Int32 → Int32 → Prop) (v2 : Int32) (v3 : Int32) (v4 : Int32) (v5 : Int32) (tri_le : Nat → Int32) (tpl_vn : Nat → Int32) (tpl_pn : Nat → Int32) (tpl_ao : Nat → Int32) (tpl_sr : Int32) (tpl_sp : Int32) (tpl_wt : Int32) : Prop :=
  (((1500 : Int32) < v5) →
    P v2 tri_se tri_la tri_de tri_le tri_sa tri_fl tri_ar tri_dr tri_pe tri_ri tpl_od tpl_rd tpl_vn tpl_pn tpl_ao tpl_sr tpl_sp tpl_wt) ∧
  ((¬ (1500 : Int32) < v5) →
    vp_in x1 8 ∧
    wp_X2_board (fun vn_17 pn_18 ao_19 sr_20 sp_21 wt_22 =>
      ((sp_21 < v3) →
        wp_X5_bestMinute_114 P now tri tpl x1 r42 v2 v3 v4 v5 sp_21 wt_22 (1 : Int32) tri_se tri_la tri_de (upd tri_le x1.toNatClampNeg v5) tri_sa tri_fl tri_ar tri_dr tri_pe tri_ri tpl_od tpl_rd vn_17 pn_18 ao_19 sr_20 sp_21 wt_22) ∧
      ((¬ sp_21 < v3) →
        ((¬ sp_21 = v3) →
          wp_X5_bestMinute_114 P now tri tpl x1 r42 v2 v3 v4 v5 sp_21 wt_22 (0 : Int32) tri_se tri_la tri_de (upd tri_le x1.toNatClampNeg v5) tri_sa tri_fl tri_ar tri_dr tri_pe tri_ri tpl_od tpl_rd vn_17 pn_18 ao_19 sr_20 sp_21 wt_22) ∧
        ((sp_21 = v3) →
          ((v4 ≤ wt_22) →
            wp_X5_bestMinute_114 P now tri tpl x1 r42 v2 v3 v4 v5 sp_21 wt_22 (0 : Int32) tri_se tri_la tri_de (upd tri_le x1.toNatClampNeg v5) tri_sa tri_fl tri_ar tri_dr tri_pe tri_ri tpl_od tpl_rd vn_17 pn_18 ao_19 sr_20 sp_21 wt_22) ∧
          ((¬ v4 ≤ wt_22) →
            wp_X5_bestMinute_114 P now tri tpl x1 r42 v2 v3 v4 v5 sp_21 wt_22 (1 : Int32) tri_se tri_la tri_de (upd tri_le x1.toNatClampNeg v5) tri_sa tri_fl tri_ar tri_dr tri_pe tri_ri tpl_od tpl_rd vn_17 pn_18 ao_19 sr_20 sp_21 wt_22)))) (mkPl tpl_od tpl_rd tpl_vn tpl_pn tpl_ao tpl_sr tpl_sp tpl_wt) (mkSt tri_se tri_la tri_de (upd tri_le x1.toNatClampNeg v5) tri_sa tri_fl tri_ar tri_dr tri_pe tri_ri))
def wp_X5_bestMinute_42 (P : Int32 → (Nat → Int32) → (Nat → Int32) → (Nat → Int32) → (Nat → Int32) → (Nat → Int32) → (Nat → Int32) → (Nat → Int32) → (Nat → Int32) → (Nat → Int32) → Int32 → (Nat → Int32) → (Nat → Int32) → (Nat → Int32) → (Nat → Int32) → (Nat → Int32) → Int32 → Int32 → Int32 → Prop) (now : StT) (tri : StT) (tpl : PlT) (x1 : Int32) (tri_se : Nat → Int32) (tri_la : Nat → Int32) (tri_de : Nat → Int32) (tri_sa : Nat → Int32) (tri_fl : Nat → Int32) (tri_ar : Nat → Int32) (tri_dr : Nat → Int32) (tri_pe : Nat → Int32) (tri_ri : Int32) (tpl_od : Nat → Int32) (tpl_rd : Nat → Int32) : Nat → Int32 → Int32 → Int32 → Int32 → (Nat → Int32) → (Nat → Int32) → (Nat → Int32) → (Nat → Int32) → Int32 → Int32 → Int32 → Prop
  | 0 => fun _ _ _ _ _ _ _ _ _ _ _ => False
  | n + 1 => wp_X5_bestMinute_42F P now tri tpl x1 tri_se tri_la tri_de tri_sa tri_fl tri_ar tri_dr tri_pe tri_ri tpl_od tpl_rd (wp_X5_bestMinute_42 P now tri tpl x1 tri_se tri_la tri_de tri_sa tri_fl tri_ar tri_dr tri_pe tri_ri tpl_od tpl_rd n)
def wp_X5_bestMinute (P : Int32 → (Nat → Int32) → (Nat → Int32) → (Nat → Int32) → (Nat → Int32) → (Nat → Int32) → (Nat → Int32) → (Nat → Int32) → (Nat → Int32) → (Nat → Int32) → Int32 → (Nat → Int32) → (Nat → Int32) → (Nat → Int32) → (Nat → Int32) → (Nat → Int32) → Int32 → Int32 → Int32 → Prop) (now : StT) (tri : StT) (tpl : PlT) (x1 : Int32) : Prop :=
  wp_X5_isVan (fun r_1 =>
    ((¬ r_1 = 0) →
      wp_X3_copyFrom (fun se_3 la_4 de_5 le_6 sa_7 fl_8 ar_9 dr_10 pe_11 ri_12 =>
        wp_X2_lineUp (fun od_13 rd_14 =>
          ∃ n : Nat, wp_X5_bestMinute_42 P now tri tpl x1 se_3 la_4 de_5 sa_7 fl_8 ar_9 dr_10 pe_11 ri_12 od_13 rd_14 n (0 : Int32) (0 : Int32) (0 : Int32) (0 : Int32) le_6 tpl.vn tpl.pn tpl.ao tpl.sr tpl.sp tpl.wt) tpl (mkSt se_3 la_4 de_5 le_6 sa_7 fl_8 ar_9 dr_10 pe_11 ri_12)) tri now) ∧
    ((r_1 = 0) →
      P (-101 : Int32) tri.se tri.la tri.de tri.le tri.sa tri.fl tri.ar tri.dr tri.pe tri.ri tpl.od tpl.rd tpl.vn tpl.pn tpl.ao tpl.sr tpl.sp tpl.wt)) x1
def wp_X5_fullest_7F (P : Int32 → Prop) (pln : PlT) (r7 : Int32 → Int32 → Int32 → Prop) (v1 : Int32) (v2 : Int32) (v3 : Int32) : Prop :=
  (((8 : Int32) ≤ v3) →
    P v1) ∧
  ((¬ (8 : Int32) ≤ v3) →
    vp_in v3 8 ∧
    (((pln.pn v3.toNatClampNeg) ≤ v2) →
      r7 v1 v2 (v3 + 1)) ∧
    ((¬ (pln.pn v3.toNatClampNeg) ≤ v2) →
      vp_in v3 8 ∧
      r7 v3 (pln.pn v3.toNatClampNeg) (v3 + 1)))
def wp_X5_fullest_7 (P : Int32 → Prop) (pln : PlT) : Nat → Int32 → Int32 → Int32 → Prop
  | 0 => fun _ _ _ => False
  | n + 1 => wp_X5_fullest_7F P pln (wp_X5_fullest_7 P pln n)
def wp_X5_fullest (P : Int32 → Prop) (pln : PlT) : Prop :=
  ∃ n : Nat, wp_X5_fullest_7 P pln n (-106 : Int32) (0 : Int32) (0 : Int32)
def wp_X1_charactersIn_4F (P : Int32 → Prop) (x0 : Int64) (r4 : Int32 → Int64 → Prop) (v2 : Int32) (v3 : Int64) : Prop :=
  (((lg_cmp v3 (0 : Int64)) = 0) →
    P v2) ∧
  ((¬ (lg_cmp v3 (0 : Int64)) = 0) →
    (((8 : Int32) ≤ v2) →
      P v2) ∧
    ((¬ (8 : Int32) ≤ v2) →
      wp_X5_isIn (fun r_3 =>
        ((¬ r_3 = 0) →
          ∀ y_5 : Int64, y_5 = ((v3).toUInt64 >>> (((8 : Int32)).toInt64.toUInt64 &&& Int64.toUInt64 63)).toInt64 →
          r4 (v2 + 1) y_5) ∧
        ((r_3 = 0) →
          P (0 : Int32))) (((v3 &&& (255 : Int64))).toInt32) (33 : Int32) (126 : Int32)))
def wp_X1_charactersIn_4 (P : Int32 → Prop) (x0 : Int64) : Nat → Int32 → Int64 → Prop
  | 0 => fun _ _ => False
  | n + 1 => wp_X1_charactersIn_4F P x0 (wp_X1_charactersIn_4 P x0 n)
def wp_X1_charactersIn (P : Int32 → Prop) (x0 : Int64) : Prop :=
  ∃ n : Nat, wp_X1_charactersIn_4 P x0 n (0 : Int32) x0
def wp_X1_append_29F (P : (Nat → Int32) → Int32 → Prop) (o0 : PdT) (x1 : Int64) (x3 : Int32) (ln : Int32) (r29 : Int64 → Int32 → (Nat → Int32) → Prop) (v4 : Int64) (v6 : Int32) (co : Nat → Int32) : Prop :=
  ((v6 < ln) →
    P co (ln + x3)) ∧
  ((¬ v6 < ln) →
    vp_in v6 60 ∧
    ∀ y_5 : Int64, y_5 = ((v4).toUInt64 >>> (((8 : Int32)).toInt64.toUInt64 &&& Int64.toUInt64 63)).toInt64 →
    r29 y_5 (v6 + (-1)) (upd co v6.toNatClampNeg (((v4 &&& (255 : Int64))).toInt32)))
def wp_X1_append_29 (P : (Nat → Int32) → Int32 → Prop) (o0 : PdT) (x1 : Int64) (x3 : Int32) (ln : Int32) : Nat → Int64 → Int32 → (Nat → Int32) → Prop
  | 0 => fun _ _ _ => False
  | n + 1 => wp_X1_append_29F P o0 x1 x3 ln (wp_X1_append_29 P o0 x1 x3 ln n)
def wp_X1_append (P : (Nat → Int32) → Int32 → Prop) (o0 : PdT) (x1 : Int64) (x3 : Int32) : Prop :=
  ((x3 < 0) →
    P o0.co o0.ln) ∧
  ((¬ x3 < 0) →
    (((o0.ln + x3) ≤ (60 : Int32)) →
      ∃ n : Nat, wp_X1_append_29 P o0 x1 x3 o0.ln n x1 ((o0.ln + x3) - (1 : Int32)) o0.co) ∧
    ((¬ (o0.ln + x3) ≤ (60 : Int32)) →
      P o0.co o0.ln))
def wp_X5_put (P : Int32 → (Nat → Int32) → Int32 → Prop) (pad : PdT) (x1 : Int64) : Prop :=
  wp_X1_charactersIn (fun r_1 =>
    ((¬ r_1 = 0) →
      (((pad.ln + r_1) ≤ (60 : Int32)) →
        wp_X1_append (fun co_4 ln_5 =>
          P ln_5 co_4 ln_5) pad x1 r_1) ∧
      ((¬ (pad.ln + r_1) ≤ (60 : Int32)) →
        P (-104 : Int32) pad.co pad.ln)) ∧
    ((r_1 = 0) →
      P (-102 : Int32) pad.co pad.ln)) x1
def wp_X5_wipe (P : Int32 → Int32 → Prop) (pad : PdT) : Prop :=
  P pad.ln (0 : Int32)
def wp_X5_fault (P : Int32 → Prop) (pad : PdT) : Prop :=
  wp_X1_firstFault (fun r_1 =>
    P r_1) pad
def wp_X0_takeBack (P : Int32 → (Nat → Int32) → (Nat → Int32) → (Nat → Int32) → (Nat → Int32) → (Nat → Int32) → (Nat → Int32) → (Nat → Int32) → (Nat → Int32) → (Nat → Int32) → Int32 → Prop) (o0 : HiT) (o1 : StT) : Prop :=
  ((0 < o0.sz) →
    vp_in ((o0.ol + (o0.sz - (1 : Int32))) - (o0.ol + (o0.sz - (1 : Int32))) / (6 : Int32) * (6 : Int32)) 6 ∧
    ∀ j_4 : Nat, j_4 < 6 → ((o0.ol + (o0.sz - (1 : Int32))) - (o0.ol + (o0.sz - (1 : Int32))) / (6 : Int32) * (6 : Int32)) = nI j_4 →
    wp_X3_copyFrom (fun se_15 la_16 de_17 le_18 sa_19 fl_20 ar_21 dr_22 pe_23 ri_24 =>
      P (o0.sz - (1 : Int32)) se_15 la_16 de_17 le_18 sa_19 fl_20 ar_21 dr_22 pe_23 ri_24) o1 (o0.hs j_4)) ∧
  ((¬ 0 < o0.sz) →
    P o0.sz o1.se o1.la o1.de o1.le o1.sa o1.fl o1.ar o1.dr o1.pe o1.ri)
def wp_X5_undo (P : Int32 → (Nat → Int32) → (Nat → Int32) → (Nat → Int32) → (Nat → Int32) → (Nat → Int32) → (Nat → Int32) → (Nat → Int32) → (Nat → Int32) → (Nat → Int32) → Int32 → (Nat → Int32) → (Nat → Int32) → (Nat → Int32) → (Nat → Int32) → (Nat → Int32) → Int32 → Int32 → Int32 → Int32 → Prop) (now : StT) (pln : PlT) (his : HiT) : Prop :=
  ((¬ his.sz = 0) →
    wp_X0_takeBack (fun sz_2 se_3 la_4 de_5 le_6 sa_7 fl_8 ar_9 dr_10 pe_11 ri_12 =>
      wp_X2_make (fun od_13 rd_14 vn_15 pn_16 ao_17 sr_18 sp_19 wt_20 =>
        P sz_2 se_3 la_4 de_5 le_6 sa_7 fl_8 ar_9 dr_10 pe_11 ri_12 od_13 rd_14 vn_15 pn_16 ao_17 sr_18 sp_19 wt_20 sz_2) pln (mkSt se_3 la_4 de_5 le_6 sa_7 fl_8 ar_9 dr_10 pe_11 ri_12)) his now) ∧
  ((his.sz = 0) →
    P (-105 : Int32) now.se now.la now.de now.le now.sa now.fl now.ar now.dr now.pe now.ri pln.od pln.rd pln.vn pln.pn pln.ao pln.sr pln.sp pln.wt his.sz)
def wp_X5_isSlot (P : Int32 → Prop) (x0 : Int32) : Prop :=
  wp_X5_isIn (fun r_1 =>
    g_b r_1 ∧ P r_1) x0 (0 : Int32) (1 : Int32)
def wp_X6_within (P : Int32 → Prop) (x0 : Int32) (x1 : Int32) (x2 : Int32) : Prop :=
  ((x0 < x1) →
    P (0 : Int32)) ∧
  ((¬ x0 < x1) →
    ((x2 < x0) →
      P (0 : Int32)) ∧
    ((¬ x2 < x0) →
      P (1 : Int32)))
def wp_X6_isFlight (P : Int32 → Prop) (x0 : Int32) : Prop :=
  wp_X6_within (fun r_1 =>
    g_b r_1 ∧ P r_1) x0 (0 : Int32) (5 : Int32)
def wp_X6_isVan (P : Int32 → Prop) (x0 : Int32) : Prop :=
  wp_X6_within (fun r_1 =>
    g_b r_1 ∧ P r_1) x0 (0 : Int32) (7 : Int32)
def wp_X6_isRider (P : Int32 → Prop) (Mst : Nat → Int32) (x1 : Int32) : Prop :=
  wp_X6_within (fun r_2 =>
    g_b r_2 ∧ P r_2) x1 (0 : Int32) ((Mst (33 : Int32).toNatClampNeg) - (1 : Int32))
def wp_X6_of (P : Int32 → Prop) (Mst : Nat → Int32) (x1 : Int32) (x2 : Int32) : Prop :=
  vp_in (((34 : Int32) + ((4 : Int32) * x1)) + x2) 130 ∧
  P (Mst (((34 : Int32) + ((4 : Int32) * x1)) + x2).toNatClampNeg)
def wp_X6_record_52F (P : (Nat → Int32) → Int32 → Prop) (Mst : Nat → Int32) (Mhn : Int32) (r52 : Int32 → (Nat → Int32) → Prop) (v1 : Int32) (Mhi : Nat → Int32) : Prop :=
  (((130 : Int32) ≤ v1) →
    P Mhi (Mhn + (1 : Int32))) ∧
  ((¬ (130 : Int32) ≤ v1) →
    vp_in v1 130 ∧
    vp_in ((Mhn * (130 : Int32)) + v1) 780 ∧
    r52 (v1 + 1) (upd Mhi ((Mhn * (130 : Int32)) + v1).toNatClampNeg (Mst v1.toNatClampNeg)))
def wp_X6_record_52 (P : (Nat → Int32) → Int32 → Prop) (Mst : Nat → Int32) (Mhn : Int32) : Nat → Int32 → (Nat → Int32) → Prop
  | 0 => fun _ _ => False
  | n + 1 => wp_X6_record_52F P Mst Mhn (wp_X6_record_52 P Mst Mhn n)
def wp_X6_record_11F (P : (Nat → Int32) → Int32 → Prop) (Mst : Nat → Int32) (Mhn : Int32) (r11 : Int32 → (Nat → Int32) → Prop) (v1 : Int32) (Mhi : Nat → Int32) : Prop :=
  (((650 : Int32) ≤ v1) →
    ∃ n : Nat, wp_X6_record_52 P Mst (Mhn - (1 : Int32)) n (0 : Int32) Mhi) ∧
  ((¬ (650 : Int32) ≤ v1) →
    vp_in (v1 + (130 : Int32)) 780 ∧
    vp_in v1 780 ∧
    r11 (v1 + 1) (upd Mhi v1.toNatClampNeg (Mhi (v1 + (130 : Int32)).toNatClampNeg)))
def wp_X6_record_11 (P : (Nat → Int32) → Int32 → Prop) (Mst : Nat → Int32) (Mhn : Int32) : Nat → Int32 → (Nat → Int32) → Prop
  | 0 => fun _ _ => False
  | n + 1 => wp_X6_record_11F P Mst Mhn (wp_X6_record_11 P Mst Mhn n)
def wp_X6_record (P : (Nat → Int32) → Int32 → Prop) (Mst : Nat → Int32) (Mhi : Nat → Int32) (Mhn : Int32) : Prop :=
  ((¬ Mhn = (6 : Int32)) →
    ∃ n : Nat, wp_X6_record_52 P Mst Mhn n (0 : Int32) Mhi) ∧
  ((Mhn = (6 : Int32)) →
    ∃ n : Nat, wp_X6_record_11 P Mst Mhn n (0 : Int32) Mhi)
def wp_X6_undo_22F (P : Int32 → (Nat → Int32) → Int32 → Prop) (Mhi : Nat → Int32) (Mhn : Int32) (r22 : Int32 → (Nat → Int32) → Prop) (v1 : Int32) (Mst : Nat → Int32) : Prop :=
  (((130 : Int32) ≤ v1) →
    P Mhn Mst Mhn) ∧
  ((¬ (130 : Int32) ≤ v1) →
    vp_in ((Mhn * (130 : Int32)) + v1) 780 ∧
    vp_in v1 130 ∧
    r22 (v1 + 1) (upd Mst v1.toNatClampNeg (Mhi ((Mhn * (130 : Int32)) + v1).toNatClampNeg)))
def wp_X6_undo_22 (P : Int32 → (Nat → Int32) → Int32 → Prop) (Mhi : Nat → Int32) (Mhn : Int32) : Nat → Int32 → (Nat → Int32) → Prop
  | 0 => fun _ _ => False
  | n + 1 => wp_X6_undo_22F P Mhi Mhn (wp_X6_undo_22 P Mhi Mhn n)
def wp_X6_undo (P : Int32 → (Nat → Int32) → Int32 → Prop) (Mst : Nat → Int32) (Mhi : Nat → Int32) (Mhn : Int32) : Prop :=
  ((¬ Mhn = 0) →
    ∃ n : Nat, wp_X6_undo_22 P Mhi (Mhn - (1 : Int32)) n (0 : Int32) Mst) ∧
  ((Mhn = 0) →
    P (-105 : Int32) Mst Mhn)
def wp_X6_save_14F (P : Int32 → (Nat → Int32) → (Nat → Int32) → Prop) (Mst : Nat → Int32) (x1 : Int32) (Msv : Nat → Int32) (r14 : Int32 → (Nat → Int32) → Prop) (v2 : Int32) (Msl : Nat → Int32) : Prop :=
  (((130 : Int32) ≤ v2) →
    vp_in x1 2 ∧
    P (Mst (33 : Int32).toNatClampNeg) Msl (upd Msv x1.toNatClampNeg (1 : Int32))) ∧
  ((¬ (130 : Int32) ≤ v2) →
    vp_in v2 130 ∧
    vp_in (((130 : Int32) * x1) + v2) 260 ∧
    r14 (v2 + 1) (upd Msl (((130 : Int32) * x1) + v2).toNatClampNeg (Mst v2.toNatClampNeg)))
def wp_X6_save_14 (P : Int32 → (Nat → Int32) → (Nat → Int32) → Prop) (Mst : Nat → Int32) (x1 : Int32) (Msv : Nat → Int32) : Nat → Int32 → (Nat → Int32) → Prop
  | 0 => fun _ _ => False
  | n + 1 => wp_X6_save_14F P Mst x1 Msv (wp_X6_save_14 P Mst x1 Msv n)
def wp_X6_save (P : Int32 → (Nat → Int32) → (Nat → Int32) → Prop) (Mst : Nat → Int32) (Msl : Nat → Int32) (Msv : Nat → Int32) (x1 : Int32) : Prop :=
  wp_X6_within (fun r_1 =>
    ((¬ r_1 = 0) →
      ∃ n : Nat, wp_X6_save_14 P Mst x1 Msv n (0 : Int32) Msl) ∧
    ((r_1 = 0) →
      P (-102 : Int32) Msl Msv)) x1 (0 : Int32) (1 : Int32)
def wp_X6_restore_30F (P : Int32 → (Nat → Int32) → (Nat → Int32) → Int32 → Prop) (Msl : Nat → Int32) (Msv : Nat → Int32) (x1 : Int32) (Mhi : Nat → Int32) (Mhn : Int32) (r30 : Int32 → (Nat → Int32) → Prop) (v2 : Int32) (Mst : Nat → Int32) : Prop :=
  (((130 : Int32) ≤ v2) →
    P (Mst (33 : Int32).toNatClampNeg) Mst Mhi Mhn) ∧
  ((¬ (130 : Int32) ≤ v2) →
    vp_in (((130 : Int32) * x1) + v2) 260 ∧
    vp_in v2 130 ∧
    r30 (v2 + 1) (upd Mst v2.toNatClampNeg (Msl (((130 : Int32) * x1) + v2).toNatClampNeg)))
def wp_X6_restore_30 (P : Int32 → (Nat → Int32) → (Nat → Int32) → Int32 → Prop) (Msl : Nat → Int32) (Msv : Nat → Int32) (x1 : Int32) (Mhi : Nat → Int32) (Mhn : Int32) : Nat → Int32 → (Nat → Int32) → Prop
  | 0 => fun _ _ => False
  | n + 1 => wp_X6_restore_30F P Msl Msv x1 Mhi Mhn (wp_X6_restore_30 P Msl Msv x1 Mhi Mhn n)
def wp_X6_restore (P : Int32 → (Nat → Int32) → (Nat → Int32) → Int32 → Prop) (Mst : Nat → Int32) (Mhi : Nat → Int32) (Mhn : Int32) (Msl : Nat → Int32) (Msv : Nat → Int32) (x1 : Int32) : Prop :=
  wp_X6_within (fun r_1 =>
    ((¬ r_1 = 0) →
      vp_in x1 2 ∧
      ((¬ (Msv x1.toNatClampNeg) = 0) →
        wp_X6_record (fun Mhi_5 Mhn_6 =>
          ∃ n : Nat, wp_X6_restore_30 P Msl Msv x1 Mhi_5 Mhn_6 n (0 : Int32) Mst) Mst Mhi Mhn) ∧
      (((Msv x1.toNatClampNeg) = 0) →
        P (-105 : Int32) Mst Mhi Mhn)) ∧
    ((r_1 = 0) →
      P (-102 : Int32) Mst Mhi Mhn)) x1 (0 : Int32) (1 : Int32)
def wp_X6_readyOf (P : Int32 → Prop) (Mst : Nat → Int32) (x1 : Int32) : Prop :=
  vp_in ((5 : Int32) + x1) 130 ∧
  vp_in ((11 : Int32) + x1) 130 ∧
  P (((Mst ((5 : Int32) + x1).toNatClampNeg) + (Mst ((11 : Int32) + x1).toNatClampNeg)) + (Mst (0 : Int32).toNatClampNeg))
def wp_X6_ready (P : Int32 → Prop) (Mst : Nat → Int32) (x1 : Int32) : Prop :=
  wp_X6_of (fun r_1 =>
    wp_X6_readyOf (fun r_2 =>
      P r_2) Mst r_1) Mst x1 (0 : Int32)
def wp_X6_ones_4F (P : Int32 → Prop) (x0 : Int32) (r4 : Int32 → Int32 → Prop) (v1 : Int32) (v2 : Int32) : Prop :=
  (((6 : Int32) ≤ v2) →
    P v1) ∧
  ((¬ (6 : Int32) ≤ v2) →
    r4 (v1 + ((x0 >>> (v2 &&& 31)) &&& (1 : Int32))) (v2 + 1))
def wp_X6_ones_4 (P : Int32 → Prop) (x0 : Int32) : Nat → Int32 → Int32 → Prop
  | 0 => fun _ _ => False
  | n + 1 => wp_X6_ones_4F P x0 (wp_X6_ones_4 P x0 n)
def wp_X6_ones (P : Int32 → Prop) (x0 : Int32) : Prop :=
  ∃ n : Nat, wp_X6_ones_4 P x0 n (0 : Int32) (0 : Int32)
def wp_X6_canTake (P : Int32 → Prop) (Mst : Nat → Int32) (Mlf : Nat → Int32) (Mar : Nat → Int32) (x1 : Int32) (x2 : Int32) : Prop :=
  vp_in ((17 : Int32) + x1) 130 ∧
  wp_X6_ready (fun r_2 =>
    vp_in x1 8 ∧
    wp_X6_of (fun r_4 =>
      ∀ y_5 : Int32, y_5 = ((Mar x1.toNatClampNeg) ||| ((1 : Int32) <<< (r_4 &&& 31))) →
      wp_X6_within (fun r_7 =>
        ((r_7 = 0) →
          P (0 : Int32)) ∧
        ((¬ r_7 = 0) →
          vp_in x1 8 ∧
          wp_X6_of (fun r_10 =>
            (((Mlf x1.toNatClampNeg) < r_10) →
              P (0 : Int32)) ∧
            ((¬ (Mlf x1.toNatClampNeg) < r_10) →
              wp_X6_ones (fun r_12 =>
                (((Mst (2 : Int32).toNatClampNeg) < r_12) →
                  P (0 : Int32)) ∧
                ((¬ (Mst (2 : Int32).toNatClampNeg) < r_12) →
                  P (1 : Int32))) y_5)) Mst x2 (3 : Int32))) ((Mst ((17 : Int32) + x1).toNatClampNeg) - r_2) (0 : Int32) (Mst (1 : Int32).toNatClampNeg)) Mst x2 (1 : Int32)) Mst x2
def wp_X6_nextRider_5F (P : Int32 → Prop) (Mst : Nat → Int32) (Mdn : Nat → Int32) (r5 : Int32 → Int32 → Prop) (v1 : Int32) (v2 : Int32) : Prop :=
  (((Mst (33 : Int32).toNatClampNeg) ≤ v2) →
    P v1) ∧
  ((¬ (Mst (33 : Int32).toNatClampNeg) ≤ v2) →
    vp_in v2 24 ∧
    ((¬ (Mdn v2.toNatClampNeg) = 0) →
      r5 v1 (v2 + 1)) ∧
    (((Mdn v2.toNatClampNeg) = 0) →
      ((v1 = (-106 : Int32)) →
        r5 v2 (v2 + 1)) ∧
      ((¬ v1 = (-106 : Int32)) →
        wp_X6_ready (fun r_6 =>
          wp_X6_ready (fun r_7 =>
            ((r_7 ≤ r_6) →
              r5 v1 (v2 + 1)) ∧
            ((¬ r_7 ≤ r_6) →
              r5 v2 (v2 + 1))) Mst v1) Mst v2)))
def wp_X6_nextRider_5 (P : Int32 → Prop) (Mst : Nat → Int32) (Mdn : Nat → Int32) : Nat → Int32 → Int32 → Prop
  | 0 => fun _ _ => False
  | n + 1 => wp_X6_nextRider_5F P Mst Mdn (wp_X6_nextRider_5 P Mst Mdn n)
def wp_X6_nextRider (P : Int32 → Prop) (Mst : Nat → Int32) (Mdn : Nat → Int32) : Prop :=
  ∃ n : Nat, wp_X6_nextRider_5 P Mst Mdn n (-106 : Int32) (0 : Int32)
def wp_X6_firstVan_5F (P : Int32 → Prop) (Mst : Nat → Int32) (Mlf : Nat → Int32) (Mar : Nat → Int32) (x1 : Int32) (r5 : Int32 → Int32 → Prop) (v2 : Int32) (v3 : Int32) : Prop :=
  (((8 : Int32) ≤ v3) →
    P v2) ∧
  ((¬ (8 : Int32) ≤ v3) →
    wp_X6_canTake (fun r_2 =>
      ((r_2 = 0) →
        r5 v2 (v3 + 1)) ∧
      ((¬ r_2 = 0) →
        ((v2 = (-106 : Int32)) →
          r5 v3 (v3 + 1)) ∧
        ((¬ v2 = (-106 : Int32)) →
          vp_in ((17 : Int32) + v3) 130 ∧
          vp_in ((17 : Int32) + v2) 130 ∧
          (((Mst ((17 : Int32) + v2).toNatClampNeg) ≤ (Mst ((17 : Int32) + v3).toNatClampNeg)) →
            r5 v2 (v3 + 1)) ∧
          ((¬ (Mst ((17 : Int32) + v2).toNatClampNeg) ≤ (Mst ((17 : Int32) + v3).toNatClampNeg)) →
            r5 v3 (v3 + 1))))) Mst Mlf Mar v3 x1)
def wp_X6_firstVan_5 (P : Int32 → Prop) (Mst : Nat → Int32) (Mlf : Nat → Int32) (Mar : Nat → Int32) (x1 : Int32) : Nat → Int32 → Int32 → Prop
  | 0 => fun _ _ => False
  | n + 1 => wp_X6_firstVan_5F P Mst Mlf Mar x1 (wp_X6_firstVan_5 P Mst Mlf Mar x1 n)
def wp_X6_firstVan (P : Int32 → Prop) (Mst : Nat → Int32) (Mlf : Nat → Int32) (Mar : Nat → Int32) (x1 : Int32) : Prop :=
  ∃ n : Nat, wp_X6_firstVan_5 P Mst Mlf Mar x1 n (-106 : Int32) (0 : Int32)
def wp_X6_lay_59F (P : (Nat → Int32) → (Nat → Int32) → (Nat → Int32) → (Nat → Int32) → Prop) (Mst : Nat → Int32) (r59 : Int32 → (Nat → Int32) → (Nat → Int32) → (Nat → Int32) → (Nat → Int32) → Prop) (v1 : Int32) (Mvf : Nat → Int32) (Mdn : Nat → Int32) (Mlf : Nat → Int32) (Mar : Nat → Int32) : Prop :=
  (((Mst (33 : Int32).toNatClampNeg) ≤ v1) →
    P Mvf Mdn Mlf Mar) ∧
  ((¬ (Mst (33 : Int32).toNatClampNeg) ≤ v1) →
    wp_X6_nextRider (fun r_9 =>
      wp_X6_firstVan (fun r_10 =>
        vp_in r_9 24 ∧
        vp_in r_9 24 ∧
        ((r_10 = (-106 : Int32)) →
          r59 (v1 + 1) (upd Mvf r_9.toNatClampNeg r_10) (upd Mdn r_9.toNatClampNeg (1 : Int32)) Mlf Mar) ∧
        ((¬ r_10 = (-106 : Int32)) →
          vp_in r_10 8 ∧
          wp_X6_of (fun r_15 =>
            vp_in r_10 8 ∧
            vp_in r_10 8 ∧
            wp_X6_of (fun r_18 =>
              vp_in r_10 8 ∧
              r59 (v1 + 1) (upd Mvf r_9.toNatClampNeg r_10) (upd Mdn r_9.toNatClampNeg (1 : Int32)) (upd Mlf r_10.toNatClampNeg ((Mlf r_10.toNatClampNeg) - r_15)) (upd Mar r_10.toNatClampNeg ((Mar r_10.toNatClampNeg) ||| ((1 : Int32) <<< (r_18 &&& 31))))) Mst r_9 (1 : Int32)) Mst r_9 (3 : Int32))) Mst Mlf Mar r_9) Mst Mdn)
def wp_X6_lay_59 (P : (Nat → Int32) → (Nat → Int32) → (Nat → Int32) → (Nat → Int32) → Prop) (Mst : Nat → Int32) : Nat → Int32 → (Nat → Int32) → (Nat → Int32) → (Nat → Int32) → (Nat → Int32) → Prop
  | 0 => fun _ _ _ _ _ => False
  | n + 1 => wp_X6_lay_59F P Mst (wp_X6_lay_59 P Mst n)
def wp_X6_lay_38F (P : (Nat → Int32) → (Nat → Int32) → (Nat → Int32) → (Nat → Int32) → Prop) (Mst : Nat → Int32) (Mvf : Nat → Int32) (Mlf : Nat → Int32) (Mar : Nat → Int32) (r38 : Int32 → (Nat → Int32) → Prop) (v1 : Int32) (Mdn : Nat → Int32) : Prop :=
  (((24 : Int32) ≤ v1) →
    ∃ n : Nat, wp_X6_lay_59 P Mst n (0 : Int32) Mvf Mdn Mlf Mar) ∧
  ((¬ (24 : Int32) ≤ v1) →
    vp_in v1 24 ∧
    r38 (v1 + 1) (upd Mdn v1.toNatClampNeg (0 : Int32)))
def wp_X6_lay_38 (P : (Nat → Int32) → (Nat → Int32) → (Nat → Int32) → (Nat → Int32) → Prop) (Mst : Nat → Int32) (Mvf : Nat → Int32) (Mlf : Nat → Int32) (Mar : Nat → Int32) : Nat → Int32 → (Nat → Int32) → Prop
  | 0 => fun _ _ => False
  | n + 1 => wp_X6_lay_38F P Mst Mvf Mlf Mar (wp_X6_lay_38 P Mst Mvf Mlf Mar n)
def wp_X6_lay_2F (P : (Nat → Int32) → (Nat → Int32) → (Nat → Int32) → (Nat → Int32) → Prop) (Mst : Nat → Int32) (Mvf : Nat → Int32) (Mdn : Nat → Int32) (r2 : Int32 → (Nat → Int32) → (Nat → Int32) → Prop) (v1 : Int32) (Mlf : Nat → Int32) (Mar : Nat → Int32) : Prop :=
  (((8 : Int32) ≤ v1) →
    ∃ n : Nat, wp_X6_lay_38 P Mst Mvf Mlf Mar n (0 : Int32) Mdn) ∧
  ((¬ (8 : Int32) ≤ v1) →
    vp_in ((25 : Int32) + v1) 130 ∧
    vp_in v1 8 ∧
    vp_in v1 8 ∧
    r2 (v1 + 1) (upd Mlf v1.toNatClampNeg (Mst ((25 : Int32) + v1).toNatClampNeg)) (upd Mar v1.toNatClampNeg (0 : Int32)))
def wp_X6_lay_2 (P : (Nat → Int32) → (Nat → Int32) → (Nat → Int32) → (Nat → Int32) → Prop) (Mst : Nat → Int32) (Mvf : Nat → Int32) (Mdn : Nat → Int32) : Nat → Int32 → (Nat → Int32) → (Nat → Int32) → Prop
  | 0 => fun _ _ _ => False
  | n + 1 => wp_X6_lay_2F P Mst Mvf Mdn (wp_X6_lay_2 P Mst Mvf Mdn n)
def wp_X6_lay (P : (Nat → Int32) → (Nat → Int32) → (Nat → Int32) → (Nat → Int32) → Prop) (Mst : Nat → Int32) (Mvf : Nat → Int32) (Mdn : Nat → Int32) (Mlf : Nat → Int32) (Mar : Nat → Int32) : Prop :=
  ∃ n : Nat, wp_X6_lay_2 P Mst Mvf Mdn n (0 : Int32) Mlf Mar
def wp_X6_keyOf (P : Int32 → Prop) (Mst : Nat → Int32) (x1 : Int32) : Prop :=
  wp_X6_of (fun r_1 =>
    wp_X6_of (fun r_2 =>
      P (((100 : Int32) * r_1) + r_2)) Mst x1 (2 : Int32)) Mst x1 (1 : Int32)
def wp_X6_layStops_70 (P : (Nat → Int32) → (Nat → Int32) → Int32 → Prop) (Mst : Nat → Int32) (Mvf : Nat → Int32) (x1 : Int32) (r9 : Int32 → Int32 → (Nat → Int32) → (Nat → Int32) → Int32 → Prop) (r21 : Int32 → Int32 → Prop) (v2 : Int32) (v4 : Int32) (v5 : Int32) (w0 : Int32) (Msa : Nat → Int32) (Msm : Nat → Int32) (Mso : Int32) : Prop :=
  ((w0 = 0) →
    r21 v4 (v5 + 1)) ∧
  ((¬ w0 = 0) →
    wp_X6_keyOf (fun r_15 =>
      r21 r_15 (v5 + 1)) Mst v5)
def wp_X6_layStops_215 (P : (Nat → Int32) → (Nat → Int32) → Int32 → Prop) (Mst : Nat → Int32) (Mvf : Nat → Int32) (x1 : Int32) (r9 : Int32 → Int32 → (Nat → Int32) → (Nat → Int32) → Int32 → Prop) (v3 : Int32) (v4 : Int32) (w0 : Int32) (w1 : Int32) (w2 : Int32) (Msa : Nat → Int32) (Msm : Nat → Int32) (Mso : Int32) : Prop :=
  vp_in w0 24 ∧
  r9 v4 v3 Msa (upd Msm w0.toNatClampNeg (w1 + w2)) (Mso + (1 : Int32))
def wp_X6_layStops_162 (P : (Nat → Int32) → (Nat → Int32) → Int32 → Prop) (Mst : Nat → Int32) (Mvf : Nat → Int32) (x1 : Int32) (r9 : Int32 → Int32 → (Nat → Int32) → (Nat → Int32) → Int32 → Prop) (v3 : Int32) (v4 : Int32) (w0 : Int32) (Msa : Nat → Int32) (Msm : Nat → Int32) (Mso : Int32) : Prop :=
  vp_in Mso 24 ∧
  ((¬ Mso = 0) →
    vp_in (Mso - (1 : Int32)) 24 ∧
    wp_X6_layStops_215 P Mst Mvf x1 r9 v3 v4 Mso w0 (Msm (Mso - (1 : Int32)).toNatClampNeg) (upd Msa Mso.toNatClampNeg v4) Msm Mso) ∧
  ((Mso = 0) →
    vp_in ((17 : Int32) + x1) 130 ∧
    wp_X6_layStops_215 P Mst Mvf x1 r9 v3 v4 Mso w0 (Mst ((17 : Int32) + x1).toNatClampNeg) (upd Msa Mso.toNatClampNeg v4) Msm Mso)
def wp_X6_layStops_109 (P : (Nat → Int32) → (Nat → Int32) → Int32 → Prop) (Mst : Nat → Int32) (Mvf : Nat → Int32) (x1 : Int32) (r9 : Int32 → Int32 → (Nat → Int32) → (Nat → Int32) → Int32 → Prop) (v2 : Int32) (v4 : Int32) (w0 : Int32) (Msa : Nat → Int32) (Msm : Nat → Int32) (Mso : Int32) : Prop :=
  ((w0 = 0) →
    r9 v2 w0 Msa Msm Mso) ∧
  ((¬ w0 = 0) →
    ((¬ Mso = 0) →
      ((¬ (v4 / (100 : Int32)) = (v2 / (100 : Int32))) →
        wp_X6_layStops_162 P Mst Mvf x1 r9 w0 v4 ((5 : Int32) * ((v4 / (100 : Int32)) - (v2 / (100 : Int32)))) Msa Msm Mso) ∧
      (((v4 / (100 : Int32)) = (v2 / (100 : Int32))) →
        wp_X6_layStops_162 P Mst Mvf x1 r9 w0 v4 (3 : Int32) Msa Msm Mso)) ∧
    ((Mso = 0) →
      wp_X6_layStops_162 P Mst Mvf x1 r9 w0 v4 ((10 : Int32) + ((5 : Int32) * (v4 / (100 : Int32)))) Msa Msm Mso))
def wp_X6_layStops_21F (P : (Nat → Int32) → (Nat → Int32) → Int32 → Prop) (Mst : Nat → Int32) (Mvf : Nat → Int32) (x1 : Int32) (r9 : Int32 → Int32 → (Nat → Int32) → (Nat → Int32) → Int32 → Prop) (v2 : Int32) (Msa : Nat → Int32) (Msm : Nat → Int32) (Mso : Int32) (r21 : Int32 → Int32 → Prop) (v4 : Int32) (v5 : Int32) : Prop :=
  (((Mst (33 : Int32).toNatClampNeg) ≤ v5) →
    (((1000 : Int32) ≤ v4) →
      wp_X6_layStops_109 P Mst Mvf x1 r9 v2 v4 (0 : Int32) Msa Msm Mso) ∧
    ((¬ (1000 : Int32) ≤ v4) →
      wp_X6_layStops_109 P Mst Mvf x1 r9 v2 v4 (1 : Int32) Msa Msm Mso)) ∧
  ((¬ (Mst (33 : Int32).toNatClampNeg) ≤ v5) →
    vp_in v5 24 ∧
    ((¬ (Mvf v5.toNatClampNeg) = x1) →
      wp_X6_layStops_70 P Mst Mvf x1 r9 r21 v2 v4 v5 (0 : Int32) Msa Msm Mso) ∧
    (((Mvf v5.toNatClampNeg) = x1) →
      wp_X6_keyOf (fun r_7 =>
        ((r_7 ≤ v2) →
          wp_X6_layStops_70 P Mst Mvf x1 r9 r21 v2 v4 v5 (0 : Int32) Msa Msm Mso) ∧
        ((¬ r_7 ≤ v2) →
          wp_X6_keyOf (fun r_9 =>
            ((v4 ≤ r_9) →
              wp_X6_layStops_70 P Mst Mvf x1 r9 r21 v2 v4 v5 (0 : Int32) Msa Msm Mso) ∧
            ((¬ v4 ≤ r_9) →
              wp_X6_layStops_70 P Mst Mvf x1 r9 r21 v2 v4 v5 (1 : Int32) Msa Msm Mso)) Mst v5)) Mst v5))
def wp_X6_layStops_21 (P : (Nat → Int32) → (Nat → Int32) → Int32 → Prop) (Mst : Nat → Int32) (Mvf : Nat → Int32) (x1 : Int32) (r9 : Int32 → Int32 → (Nat → Int32) → (Nat → Int32) → Int32 → Prop) (v2 : Int32) (Msa : Nat → Int32) (Msm : Nat → Int32) (Mso : Int32) : Nat → Int32 → Int32 → Prop
  | 0 => fun _ _ => False
  | n + 1 => wp_X6_layStops_21F P Mst Mvf x1 r9 v2 Msa Msm Mso (wp_X6_layStops_21 P Mst Mvf x1 r9 v2 Msa Msm Mso n)
def wp_X6_layStops_9F (P : (Nat → Int32) → (Nat → Int32) → Int32 → Prop) (Mst : Nat → Int32) (Mvf : Nat → Int32) (x1 : Int32) (r9 : Int32 → Int32 → (Nat → Int32) → (Nat → Int32) → Int32 → Prop) (v2 : Int32) (v3 : Int32) (Msa : Nat → Int32) (Msm : Nat → Int32) (Mso : Int32) : Prop :=
  ((v3 = 0) →
    P Msa Msm Mso) ∧
  ((¬ v3 = 0) →
    ∃ n : Nat, wp_X6_layStops_21 P Mst Mvf x1 r9 v2 Msa Msm Mso n (1000 : Int32) (0 : Int32))
def wp_X6_layStops_9 (P : (Nat → Int32) → (Nat → Int32) → Int32 → Prop) (Mst : Nat → Int32) (Mvf : Nat → Int32) (x1 : Int32) : Nat → Int32 → Int32 → (Nat → Int32) → (Nat → Int32) → Int32 → Prop
  | 0 => fun _ _ _ _ _ => False
  | n + 1 => wp_X6_layStops_9F P Mst Mvf x1 (wp_X6_layStops_9 P Mst Mvf x1 n)
def wp_X6_layStops (P : (Nat → Int32) → (Nat → Int32) → Int32 → Prop) (Mst : Nat → Int32) (Mvf : Nat → Int32) (Msa : Nat → Int32) (Msm : Nat → Int32) (Mso : Int32) (x1 : Int32) : Prop :=
  ∃ n : Nat, wp_X6_layStops_9 P Mst Mvf x1 n (-1 : Int32) (1 : Int32) Msa Msm (0 : Int32)
def wp_X6_minuteAt_7F (P : Int32 → (Nat → Int32) → (Nat → Int32) → Int32 → Prop) (Mst : Nat → Int32) (Mvf : Nat → Int32) (x1 : Int32) (x2 : Int32) (Msa : Nat → Int32) (Msm : Nat → Int32) (Mso : Int32) (r7 : Int32 → Prop) (v3 : Int32) : Prop :=
  vp_in v3 24 ∧
  (((Msa v3.toNatClampNeg) = x2) →
    vp_in v3 24 ∧
    P (Msm v3.toNatClampNeg) Msa Msm Mso) ∧
  ((¬ (Msa v3.toNatClampNeg) = x2) →
    r7 (v3 + 1))
def wp_X6_minuteAt_7 (P : Int32 → (Nat → Int32) → (Nat → Int32) → Int32 → Prop) (Mst : Nat → Int32) (Mvf : Nat → Int32) (x1 : Int32) (x2 : Int32) (Msa : Nat → Int32) (Msm : Nat → Int32) (Mso : Int32) : Nat → Int32 → Prop
  | 0 => fun _ => False
  | n + 1 => wp_X6_minuteAt_7F P Mst Mvf x1 x2 Msa Msm Mso (wp_X6_minuteAt_7 P Mst Mvf x1 x2 Msa Msm Mso n)
def wp_X6_minuteAt (P : Int32 → (Nat → Int32) → (Nat → Int32) → Int32 → Prop) (Mst : Nat → Int32) (Mvf : Nat → Int32) (Msa : Nat → Int32) (Msm : Nat → Int32) (Mso : Int32) (x1 : Int32) (x2 : Int32) : Prop :=
  wp_X6_layStops (fun Msa_1 Msm_2 Mso_3 =>
    ∃ n : Nat, wp_X6_minuteAt_7 P Mst Mvf x1 x2 Msa_1 Msm_2 Mso_3 n (0 : Int32)) Mst Mvf Msa Msm Mso x1
def wp_X6_isWith (P : Int32 → Prop) (Mst : Nat → Int32) (Mvf : Nat → Int32) (x1 : Int32) (x2 : Int32) (x3 : Int32) : Prop :=
  vp_in x1 24 ∧
  vp_in x2 24 ∧
  ((¬ (Mvf x1.toNatClampNeg) = (Mvf x2.toNatClampNeg)) →
    P (0 : Int32)) ∧
  (((Mvf x1.toNatClampNeg) = (Mvf x2.toNatClampNeg)) →
    ((x3 = 0) →
      P (1 : Int32)) ∧
    ((¬ x3 = 0) →
      wp_X6_keyOf (fun r_5 =>
        wp_X6_keyOf (fun r_6 =>
          ((¬ r_5 = r_6) →
            P (0 : Int32)) ∧
          ((r_5 = r_6) →
            P (1 : Int32))) Mst x2) Mst x1))
def wp_X6_part_105 (P : Int32 → Prop) (Mst : Nat → Int32) (Mvf : Nat → Int32) (x1 : Int32) (x2 : Int32) (x3 : Int32) (r60 : Int32 → Int32 → Int32 → Prop) (v4 : Int32) (v6 : Int32) (v7 : Int32) (v8 : Int32) (w0 : Int32) (w1 : Int32) : Prop :=
  ((v8 = 0) →
    r60 (w0 - w1) (v6 + (0 : Int32)) (v7 + 1)) ∧
  ((¬ v8 = 0) →
    ((x1 ≤ v7) →
      r60 (w0 - w1) (v6 + (0 : Int32)) (v7 + 1)) ∧
    ((¬ x1 ≤ v7) →
      r60 (w0 - w1) (v6 + (1 : Int32)) (v7 + 1)))
def wp_X6_part_60F (P : Int32 → Prop) (Mst : Nat → Int32) (Mvf : Nat → Int32) (x1 : Int32) (x2 : Int32) (x3 : Int32) (v4 : Int32) (r60 : Int32 → Int32 → Int32 → Prop) (v5 : Int32) (v6 : Int32) (v7 : Int32) : Prop :=
  (((Mst (33 : Int32).toNatClampNeg) ≤ v7) →
    wp_X6_of (fun r_8 =>
      ¬ v4 = 0 ∧
      ((v5 ≤ v6) →
        P (((x2 * r_8) / v4) + (0 : Int32))) ∧
      ((¬ v5 ≤ v6) →
        P (((x2 * r_8) / v4) + (1 : Int32)))) Mst x1 (3 : Int32)) ∧
  ((¬ (Mst (33 : Int32).toNatClampNeg) ≤ v7) →
    wp_X6_isWith (fun r_11 =>
      ((r_11 = 0) →
        wp_X6_part_105 P Mst Mvf x1 x2 x3 r60 v4 v6 v7 r_11 v5 (0 : Int32)) ∧
      ((¬ r_11 = 0) →
        wp_X6_of (fun r_13 =>
          ¬ v4 = 0 ∧
          wp_X6_part_105 P Mst Mvf x1 x2 x3 r60 v4 v6 v7 r_11 v5 ((x2 * r_13) / v4)) Mst v7 (3 : Int32))) Mst Mvf v7 x1 x3)
def wp_X6_part_60 (P : Int32 → Prop) (Mst : Nat → Int32) (Mvf : Nat → Int32) (x1 : Int32) (x2 : Int32) (x3 : Int32) (v4 : Int32) : Nat → Int32 → Int32 → Int32 → Prop
  | 0 => fun _ _ _ => False
  | n + 1 => wp_X6_part_60F P Mst Mvf x1 x2 x3 v4 (wp_X6_part_60 P Mst Mvf x1 x2 x3 v4 n)
def wp_X6_part_6F (P : Int32 → Prop) (Mst : Nat → Int32) (Mvf : Nat → Int32) (x1 : Int32) (x2 : Int32) (x3 : Int32) (r6 : Int32 → Int32 → Prop) (v4 : Int32) (v5 : Int32) : Prop :=
  (((Mst (33 : Int32).toNatClampNeg) ≤ v5) →
    ∃ n : Nat, wp_X6_part_60 P Mst Mvf x1 x2 x3 v4 n x2 (0 : Int32) (0 : Int32)) ∧
  ((¬ (Mst (33 : Int32).toNatClampNeg) ≤ v5) →
    wp_X6_isWith (fun r_3 =>
      ((r_3 = 0) →
        r6 (v4 + (0 : Int32)) (v5 + 1)) ∧
      ((¬ r_3 = 0) →
        wp_X6_of (fun r_5 =>
          r6 (v4 + r_5) (v5 + 1)) Mst v5 (3 : Int32))) Mst Mvf v5 x1 x3)
def wp_X6_part_6 (P : Int32 → Prop) (Mst : Nat → Int32) (Mvf : Nat → Int32) (x1 : Int32) (x2 : Int32) (x3 : Int32) : Nat → Int32 → Int32 → Prop
  | 0 => fun _ _ => False
  | n + 1 => wp_X6_part_6F P Mst Mvf x1 x2 x3 (wp_X6_part_6 P Mst Mvf x1 x2 x3 n)
def wp_X6_part (P : Int32 → Prop) (Mst : Nat → Int32) (Mvf : Nat → Int32) (x1 : Int32) (x2 : Int32) (x3 : Int32) : Prop :=
  ∃ n : Nat, wp_X6_part_6 P Mst Mvf x1 x2 x3 n (0 : Int32) (0 : Int32)
def wp_X6_fare (P : Int32 → Prop) (Mst : Nat → Int32) (Mvf : Nat → Int32) (x1 : Int32) : Prop :=
  vp_in x1 24 ∧
  ((¬ (Mvf x1.toNatClampNeg) = (-106 : Int32)) →
    wp_X6_part (fun r_4 =>
      wp_X6_part (fun r_6 =>
        P (r_4 + r_6)) Mst Mvf x1 (Mst (4 : Int32).toNatClampNeg) (1 : Int32)) Mst Mvf x1 (Mst (3 : Int32).toNatClampNeg) (0 : Int32)) ∧
  (((Mvf x1.toNatClampNeg) = (-106 : Int32)) →
    P (0 : Int32))
def wp_X6_strandedPeople_4F (P : Int32 → Prop) (Mst : Nat → Int32) (Mvf : Nat → Int32) (r4 : Int32 → Int32 → Prop) (v1 : Int32) (v2 : Int32) : Prop :=
  (((Mst (33 : Int32).toNatClampNeg) ≤ v2) →
    P v1) ∧
  ((¬ (Mst (33 : Int32).toNatClampNeg) ≤ v2) →
    vp_in v2 24 ∧
    ((¬ (Mvf v2.toNatClampNeg) = (-106 : Int32)) →
      r4 (v1 + (0 : Int32)) (v2 + 1)) ∧
    (((Mvf v2.toNatClampNeg) = (-106 : Int32)) →
      wp_X6_of (fun r_5 =>
        r4 (v1 + r_5) (v2 + 1)) Mst v2 (3 : Int32)))
def wp_X6_strandedPeople_4 (P : Int32 → Prop) (Mst : Nat → Int32) (Mvf : Nat → Int32) : Nat → Int32 → Int32 → Prop
  | 0 => fun _ _ => False
  | n + 1 => wp_X6_strandedPeople_4F P Mst Mvf (wp_X6_strandedPeople_4 P Mst Mvf n)
def wp_X6_strandedPeople (P : Int32 → Prop) (Mst : Nat → Int32) (Mvf : Nat → Int32) : Prop :=
  ∃ n : Nat, wp_X6_strandedPeople_4 P Mst Mvf n (0 : Int32) (0 : Int32)
def wp_X6_waiting_4F (P : Int32 → Prop) (Mst : Nat → Int32) (Mvf : Nat → Int32) (r4 : Int32 → Int32 → Prop) (v1 : Int32) (v2 : Int32) : Prop :=
  (((Mst (33 : Int32).toNatClampNeg) ≤ v2) →
    P v1) ∧
  ((¬ (Mst (33 : Int32).toNatClampNeg) ≤ v2) →
    vp_in v2 24 ∧
    ((¬ (Mvf v2.toNatClampNeg) = (-106 : Int32)) →
      wp_X6_of (fun r_5 =>
        vp_in v2 24 ∧
        vp_in ((17 : Int32) + (Mvf v2.toNatClampNeg)) 130 ∧
        wp_X6_ready (fun r_8 =>
          ∀ y_9 : Int32, y_9 = (v1 + (r_5 * ((Mst ((17 : Int32) + (Mvf v2.toNatClampNeg)).toNatClampNeg) - r_8))) →
          r4 y_9 (v2 + 1)) Mst v2) Mst v2 (3 : Int32)) ∧
    (((Mvf v2.toNatClampNeg) = (-106 : Int32)) →
      r4 (v1 + (0 : Int32)) (v2 + 1)))
def wp_X6_waiting_4 (P : Int32 → Prop) (Mst : Nat → Int32) (Mvf : Nat → Int32) : Nat → Int32 → Int32 → Prop
  | 0 => fun _ _ => False
  | n + 1 => wp_X6_waiting_4F P Mst Mvf (wp_X6_waiting_4 P Mst Mvf n)
def wp_X6_waiting (P : Int32 → Prop) (Mst : Nat → Int32) (Mvf : Nat → Int32) : Prop :=
  ∃ n : Nat, wp_X6_waiting_4 P Mst Mvf n (0 : Int32) (0 : Int32)
def wp_X6_lastMinute_49 (P : Int32 → (Nat → Int32) → (Nat → Int32) → Int32 → Prop) (Mst : Nat → Int32) (Mvf : Nat → Int32) (r5 : Int32 → Int32 → (Nat → Int32) → (Nat → Int32) → Int32 → Prop) (v1 : Int32) (v2 : Int32) (w0 : Int32) (Msa : Nat → Int32) (Msm : Nat → Int32) (Mso : Int32) : Prop :=
  ((w0 = 0) →
    r5 v1 (v2 + 1) Msa Msm Mso) ∧
  ((¬ w0 = 0) →
    vp_in (Mso - (1 : Int32)) 24 ∧
    r5 (Msm (Mso - (1 : Int32)).toNatClampNeg) (v2 + 1) Msa Msm Mso)
def wp_X6_lastMinute_5F (P : Int32 → (Nat → Int32) → (Nat → Int32) → Int32 → Prop) (Mst : Nat → Int32) (Mvf : Nat → Int32) (r5 : Int32 → Int32 → (Nat → Int32) → (Nat → Int32) → Int32 → Prop) (v1 : Int32) (v2 : Int32) (Msa : Nat → Int32) (Msm : Nat → Int32) (Mso : Int32) : Prop :=
  (((8 : Int32) ≤ v2) →
    P v1 Msa Msm Mso) ∧
  ((¬ (8 : Int32) ≤ v2) →
    wp_X6_layStops (fun Msa_2 Msm_3 Mso_4 =>
      ((Mso_4 ≤ 0) →
        wp_X6_lastMinute_49 P Mst Mvf r5 v1 v2 (0 : Int32) Msa_2 Msm_3 Mso_4) ∧
      ((¬ Mso_4 ≤ 0) →
        ((v1 = (-106 : Int32)) →
          wp_X6_lastMinute_49 P Mst Mvf r5 v1 v2 (1 : Int32) Msa_2 Msm_3 Mso_4) ∧
        ((¬ v1 = (-106 : Int32)) →
          vp_in (Mso_4 - (1 : Int32)) 24 ∧
          (((Msm_3 (Mso_4 - (1 : Int32)).toNatClampNeg) ≤ v1) →
            wp_X6_lastMinute_49 P Mst Mvf r5 v1 v2 (0 : Int32) Msa_2 Msm_3 Mso_4) ∧
          ((¬ (Msm_3 (Mso_4 - (1 : Int32)).toNatClampNeg) ≤ v1) →
            wp_X6_lastMinute_49 P Mst Mvf r5 v1 v2 (1 : Int32) Msa_2 Msm_3 Mso_4)))) Mst Mvf Msa Msm Mso v2)
def wp_X6_lastMinute_5 (P : Int32 → (Nat → Int32) → (Nat → Int32) → Int32 → Prop) (Mst : Nat → Int32) (Mvf : Nat → Int32) : Nat → Int32 → Int32 → (Nat → Int32) → (Nat → Int32) → Int32 → Prop
  | 0 => fun _ _ _ _ _ => False
  | n + 1 => wp_X6_lastMinute_5F P Mst Mvf (wp_X6_lastMinute_5 P Mst Mvf n)
def wp_X6_lastMinute (P : Int32 → (Nat → Int32) → (Nat → Int32) → Int32 → Prop) (Mst : Nat → Int32) (Mvf : Nat → Int32) (Msa : Nat → Int32) (Msm : Nat → Int32) (Mso : Int32) : Prop :=
  ∃ n : Nat, wp_X6_lastMinute_5 P Mst Mvf n (-106 : Int32) (0 : Int32) Msa Msm Mso
def wp_X6_leastOf (P : Int32 → Prop) (x0 : Int32) : Prop :=
  ((¬ x0 = (2 : Int32)) →
    P (0 : Int32)) ∧
  ((x0 = (2 : Int32)) →
    P (1 : Int32))
def wp_X6_mostOf (P : Int32 → Prop) (x0 : Int32) : Prop :=
  (x0 = 0 →
    P (90 : Int32)) ∧
  (x0 = 1 →
    P (240 : Int32)) ∧
  (x0 = 2 →
    P (6 : Int32)) ∧
  (x0 = 3 →
    P (300 : Int32)) ∧
  ((¬ x0 = 0 ∧ ¬ x0 = 1 ∧ ¬ x0 = 2 ∧ ¬ x0 = 3) →
    P (40 : Int32))
def wp_X6_set (P : Int32 → (Nat → Int32) → (Nat → Int32) → Int32 → Prop) (Mst : Nat → Int32) (Mhi : Nat → Int32) (Mhn : Int32) (x1 : Int32) (x2 : Int32) : Prop :=
  wp_X6_within (fun r_1 =>
    ((r_1 = 0) →
      P (-102 : Int32) Mst Mhi Mhn) ∧
    ((¬ r_1 = 0) →
      wp_X6_leastOf (fun r_3 =>
        wp_X6_mostOf (fun r_4 =>
          wp_X6_within (fun r_5 =>
            ((¬ r_5 = 0) →
              wp_X6_record (fun Mhi_7 Mhn_8 =>
                vp_in x1 130 ∧
                vp_in x1 130 ∧
                P (Mst x1.toNatClampNeg) (upd Mst x1.toNatClampNeg x2) Mhi_7 Mhn_8) Mst Mhi Mhn) ∧
            ((r_5 = 0) →
              P (-102 : Int32) Mst Mhi Mhn)) x2 r_3 r_4) x1) x1)) x1 (0 : Int32) (4 : Int32)
def wp_X6_land (P : Int32 → (Nat → Int32) → (Nat → Int32) → Int32 → Prop) (Mst : Nat → Int32) (Mhi : Nat → Int32) (Mhn : Int32) (x1 : Int32) (x2 : Int32) : Prop :=
  wp_X6_isFlight (fun r_1 =>
    ((¬ r_1 = 0) →
      wp_X6_within (fun r_3 =>
        ((¬ r_3 = 0) →
          wp_X6_record (fun Mhi_5 Mhn_6 =>
            vp_in ((5 : Int32) + x1) 130 ∧
            vp_in ((5 : Int32) + x1) 130 ∧
            P (Mst ((5 : Int32) + x1).toNatClampNeg) (upd Mst ((5 : Int32) + x1).toNatClampNeg x2) Mhi_5 Mhn_6) Mst Mhi Mhn) ∧
        ((r_3 = 0) →
          P (-102 : Int32) Mst Mhi Mhn)) x2 (0 : Int32) (1200 : Int32)) ∧
    ((r_1 = 0) →
      P (-101 : Int32) Mst Mhi Mhn)) x1
def wp_X6_delay (P : Int32 → (Nat → Int32) → (Nat → Int32) → Int32 → Prop) (Mst : Nat → Int32) (Mhi : Nat → Int32) (Mhn : Int32) (x1 : Int32) (x2 : Int32) : Prop :=
  wp_X6_isFlight (fun r_1 =>
    ((¬ r_1 = 0) →
      wp_X6_within (fun r_3 =>
        ((¬ r_3 = 0) →
          wp_X6_record (fun Mhi_5 Mhn_6 =>
            vp_in ((11 : Int32) + x1) 130 ∧
            wp_X6_readyOf (fun r_8 =>
              P r_8 (upd Mst ((11 : Int32) + x1).toNatClampNeg x2) Mhi_5 Mhn_6) (upd Mst ((11 : Int32) + x1).toNatClampNeg x2) x1) Mst Mhi Mhn) ∧
        ((r_3 = 0) →
          P (-102 : Int32) Mst Mhi Mhn)) x2 (-30 : Int32) (300 : Int32)) ∧
    ((r_1 = 0) →
      P (-101 : Int32) Mst Mhi Mhn)) x1
def wp_X6_van (P : Int32 → (Nat → Int32) → (Nat → Int32) → Int32 → (Nat → Int32) → (Nat → Int32) → (Nat → Int32) → (Nat → Int32) → Prop) (Mst : Nat → Int32) (Mhi : Nat → Int32) (Mhn : Int32) (Mvf : Nat → Int32) (Mdn : Nat → Int32) (Mlf : Nat → Int32) (Mar : Nat → Int32) (x1 : Int32) (x2 : Int32) (x3 : Int32) : Prop :=
  wp_X6_isVan (fun r_1 =>
    ((¬ r_1 = 0) →
      wp_X6_within (fun r_3 =>
        ((r_3 = 0) →
          P (-102 : Int32) Mst Mhi Mhn Mvf Mdn Mlf Mar) ∧
        ((¬ r_3 = 0) →
          wp_X6_within (fun r_5 =>
            ((¬ r_5 = 0) →
              wp_X6_record (fun Mhi_7 Mhn_8 =>
                vp_in ((17 : Int32) + x1) 130 ∧
                vp_in ((25 : Int32) + x1) 130 ∧
                wp_X6_lay (fun Mvf_11 Mdn_12 Mlf_13 Mar_14 =>
                  wp_X6_strandedPeople (fun r_15 =>
                    P r_15 (upd (upd Mst ((17 : Int32) + x1).toNatClampNeg x2) ((25 : Int32) + x1).toNatClampNeg x3) Mhi_7 Mhn_8 Mvf_11 Mdn_12 Mlf_13 Mar_14) (upd (upd Mst ((17 : Int32) + x1).toNatClampNeg x2) ((25 : Int32) + x1).toNatClampNeg x3) Mvf_11) (upd (upd Mst ((17 : Int32) + x1).toNatClampNeg x2) ((25 : Int32) + x1).toNatClampNeg x3) Mvf Mdn Mlf Mar) Mst Mhi Mhn) ∧
            ((r_5 = 0) →
              P (-102 : Int32) Mst Mhi Mhn Mvf Mdn Mlf Mar)) x3 (0 : Int32) (12 : Int32))) x2 (0 : Int32) (1500 : Int32)) ∧
    ((r_1 = 0) →
      P (-101 : Int32) Mst Mhi Mhn Mvf Mdn Mlf Mar)) x1
def wp_X6_add (P : (Nat → Int32) → Prop) (Mst : Nat → Int32) (x1 : Int32) (x2 : Int32) (x3 : Int32) (x4 : Int32) : Prop :=
  ∀ y_2 : Int32, y_2 = ((34 : Int32) + ((4 : Int32) * (Mst (33 : Int32).toNatClampNeg))) →
  vp_in (y_2 + (0 : Int32)) 130 ∧
  vp_in (y_2 + (1 : Int32)) 130 ∧
  vp_in (y_2 + (2 : Int32)) 130 ∧
  vp_in (y_2 + (3 : Int32)) 130 ∧
  P (upd (upd (upd (upd (upd Mst (y_2 + (0 : Int32)).toNatClampNeg x1) (y_2 + (1 : Int32)).toNatClampNeg x2) (y_2 + (2 : Int32)).toNatClampNeg x3) (y_2 + (3 : Int32)).toNatClampNeg x4) (33 : Int32).toNatClampNeg (((upd (upd (upd (upd Mst (y_2 + (0 : Int32)).toNatClampNeg x1) (y_2 + (1 : Int32)).toNatClampNeg x2) (y_2 + (2 : Int32)).toNatClampNeg x3) (y_2 + (3 : Int32)).toNatClampNeg x4) (33 : Int32).toNatClampNeg) + (1 : Int32)))
def wp_X6_ride (P : Int32 → (Nat → Int32) → (Nat → Int32) → Int32 → Prop) (Mst : Nat → Int32) (Mhi : Nat → Int32) (Mhn : Int32) (x1 : Int32) (x2 : Int32) (x3 : Int32) (x4 : Int32) : Prop :=
  wp_X6_isFlight (fun r_1 =>
    ((r_1 = 0) →
      P (-101 : Int32) Mst Mhi Mhn) ∧
    ((¬ r_1 = 0) →
      wp_X6_within (fun r_3 =>
        ((¬ r_3 = 0) →
          wp_X6_within (fun r_5 =>
            ((r_5 = 0) →
              P (-102 : Int32) Mst Mhi Mhn) ∧
            ((¬ r_5 = 0) →
              wp_X6_within (fun r_7 =>
                ((¬ r_7 = 0) →
                  ((¬ (Mst (33 : Int32).toNatClampNeg) = (24 : Int32)) →
                    wp_X6_record (fun Mhi_11 Mhn_12 =>
                      wp_X6_add (fun Mst_13 =>
                        P ((Mst_13 (33 : Int32).toNatClampNeg) - (1 : Int32)) Mst_13 Mhi_11 Mhn_12) Mst x1 x2 x3 x4) Mst Mhi Mhn) ∧
                  (((Mst (33 : Int32).toNatClampNeg) = (24 : Int32)) →
                    P (-104 : Int32) Mst Mhi Mhn)) ∧
                ((r_7 = 0) →
                  P (-102 : Int32) Mst Mhi Mhn)) x4 (1 : Int32) (4 : Int32))) x3 (0 : Int32) (99 : Int32)) ∧
        ((r_3 = 0) →
          P (-101 : Int32) Mst Mhi Mhn)) x2 (0 : Int32) (5 : Int32))) x1
def wp_X6_cancel_43F (P : Int32 → (Nat → Int32) → (Nat → Int32) → Int32 → (Nat → Int32) → (Nat → Int32) → (Nat → Int32) → (Nat → Int32) → Prop) (x1 : Int32) (v2 : Int32) (Mhi : Nat → Int32) (Mhn : Int32) (Mvf : Nat → Int32) (Mdn : Nat → Int32) (Mlf : Nat → Int32) (Mar : Nat → Int32) (r43 : Int32 → (Nat → Int32) → Prop) (v3 : Int32) (Mst : Nat → Int32) : Prop :=
  ((((34 : Int32) + ((4 : Int32) * (Mst (33 : Int32).toNatClampNeg))) ≤ v3) →
    P v2 Mst Mhi Mhn Mvf Mdn Mlf Mar) ∧
  ((¬ ((34 : Int32) + ((4 : Int32) * (Mst (33 : Int32).toNatClampNeg))) ≤ v3) →
    vp_in (v3 + (4 : Int32)) 130 ∧
    vp_in v3 130 ∧
    r43 (v3 + 1) (upd Mst v3.toNatClampNeg (Mst (v3 + (4 : Int32)).toNatClampNeg)))
def wp_X6_cancel_43 (P : Int32 → (Nat → Int32) → (Nat → Int32) → Int32 → (Nat → Int32) → (Nat → Int32) → (Nat → Int32) → (Nat → Int32) → Prop) (x1 : Int32) (v2 : Int32) (Mhi : Nat → Int32) (Mhn : Int32) (Mvf : Nat → Int32) (Mdn : Nat → Int32) (Mlf : Nat → Int32) (Mar : Nat → Int32) : Nat → Int32 → (Nat → Int32) → Prop
  | 0 => fun _ _ => False
  | n + 1 => wp_X6_cancel_43F P x1 v2 Mhi Mhn Mvf Mdn Mlf Mar (wp_X6_cancel_43 P x1 v2 Mhi Mhn Mvf Mdn Mlf Mar n)
def wp_X6_cancel (P : Int32 → (Nat → Int32) → (Nat → Int32) → Int32 → (Nat → Int32) → (Nat → Int32) → (Nat → Int32) → (Nat → Int32) → Prop) (Mst : Nat → Int32) (Mhi : Nat → Int32) (Mhn : Int32) (Mvf : Nat → Int32) (Mdn : Nat → Int32) (Mlf : Nat → Int32) (Mar : Nat → Int32) (x1 : Int32) : Prop :=
  wp_X6_isRider (fun r_1 =>
    ((¬ r_1 = 0) →
      wp_X6_lay (fun Mvf_3 Mdn_4 Mlf_5 Mar_6 =>
        wp_X6_fare (fun r_7 =>
          wp_X6_record (fun Mhi_8 Mhn_9 =>
            ∃ n : Nat, wp_X6_cancel_43 P x1 r_7 Mhi_8 Mhn_9 Mvf_3 Mdn_4 Mlf_5 Mar_6 n ((34 : Int32) + ((4 : Int32) * x1)) (upd Mst (33 : Int32).toNatClampNeg ((Mst (33 : Int32).toNatClampNeg) - (1 : Int32)))) Mst Mhi Mhn) Mst Mvf_3 x1) Mst Mvf Mdn Mlf Mar) ∧
    ((r_1 = 0) →
      P (-101 : Int32) Mst Mhi Mhn Mvf Mdn Mlf Mar)) Mst x1
def wp_X6_rebook (P : Int32 → (Nat → Int32) → (Nat → Int32) → Int32 → (Nat → Int32) → (Nat → Int32) → (Nat → Int32) → (Nat → Int32) → Prop) (Mst : Nat → Int32) (Mhi : Nat → Int32) (Mhn : Int32) (Mvf : Nat → Int32) (Mdn : Nat → Int32) (Mlf : Nat → Int32) (Mar : Nat → Int32) (x1 : Int32) (x2 : Int32) : Prop :=
  wp_X6_isRider (fun r_1 =>
    ((r_1 = 0) →
      P (-101 : Int32) Mst Mhi Mhn Mvf Mdn Mlf Mar) ∧
    ((¬ r_1 = 0) →
      wp_X6_isFlight (fun r_3 =>
        ((¬ r_3 = 0) →
          wp_X6_of (fun r_5 =>
            ((¬ r_5 = x2) →
              wp_X6_record (fun Mhi_7 Mhn_8 =>
                vp_in (((34 : Int32) + ((4 : Int32) * x1)) + (0 : Int32)) 130 ∧
                wp_X6_lay (fun Mvf_10 Mdn_11 Mlf_12 Mar_13 =>
                  vp_in x1 24 ∧
                  P (Mvf_10 x1.toNatClampNeg) (upd Mst (((34 : Int32) + ((4 : Int32) * x1)) + (0 : Int32)).toNatClampNeg x2) Mhi_7 Mhn_8 Mvf_10 Mdn_11 Mlf_12 Mar_13) (upd Mst (((34 : Int32) + ((4 : Int32) * x1)) + (0 : Int32)).toNatClampNeg x2) Mvf Mdn Mlf Mar) Mst Mhi Mhn) ∧
            ((r_5 = x2) →
              P (-105 : Int32) Mst Mhi Mhn Mvf Mdn Mlf Mar)) Mst x1 (0 : Int32)) ∧
        ((r_3 = 0) →
          P (-101 : Int32) Mst Mhi Mhn Mvf Mdn Mlf Mar)) x2)) Mst x1
def wp_X6_sharing_4F (P : Int32 → Prop) (Mst : Nat → Int32) (Mvf : Nat → Int32) (x1 : Int32) (r4 : Int32 → Int32 → Prop) (v2 : Int32) (v3 : Int32) : Prop :=
  (((Mst (33 : Int32).toNatClampNeg) ≤ v3) →
    P v2) ∧
  ((¬ (Mst (33 : Int32).toNatClampNeg) ≤ v3) →
    ((v3 = x1) →
      r4 (v2 + (0 : Int32)) (v3 + 1)) ∧
    ((¬ v3 = x1) →
      wp_X6_isWith (fun r_4 =>
        ((r_4 = 0) →
          r4 (v2 + (0 : Int32)) (v3 + 1)) ∧
        ((¬ r_4 = 0) →
          r4 (v2 + (1 : Int32)) (v3 + 1))) Mst Mvf v3 x1 (1 : Int32)))
def wp_X6_sharing_4 (P : Int32 → Prop) (Mst : Nat → Int32) (Mvf : Nat → Int32) (x1 : Int32) : Nat → Int32 → Int32 → Prop
  | 0 => fun _ _ => False
  | n + 1 => wp_X6_sharing_4F P Mst Mvf x1 (wp_X6_sharing_4 P Mst Mvf x1 n)
def wp_X6_sharing (P : Int32 → Prop) (Mst : Nat → Int32) (Mvf : Nat → Int32) (x1 : Int32) : Prop :=
  ∃ n : Nat, wp_X6_sharing_4 P Mst Mvf x1 n (0 : Int32) (0 : Int32)
def wp_X6_tellsDriven (P : Int32 → (Nat → Int32) → (Nat → Int32) → Int32 → Prop) (Mst : Nat → Int32) (Mvf : Nat → Int32) (Msa : Nat → Int32) (Msm : Nat → Int32) (Mso : Int32) (x1 : Int32) (x2 : Int32) : Prop :=
  vp_in x1 24 ∧
  ((¬ x2 = (6 : Int32)) →
    ((¬ x2 = (7 : Int32)) →
      wp_X6_sharing (fun r_4 =>
        P r_4 Msa Msm Mso) Mst Mvf x1) ∧
    ((x2 = (7 : Int32)) →
      wp_X6_keyOf (fun r_5 =>
        wp_X6_minuteAt (fun r_9 Msa_6 Msm_7 Mso_8 =>
          P r_9 Msa_6 Msm_7 Mso_8) Mst Mvf Msa Msm Mso (Mvf x1.toNatClampNeg) r_5) Mst x1)) ∧
  ((x2 = (6 : Int32)) →
    vp_in ((17 : Int32) + (Mvf x1.toNatClampNeg)) 130 ∧
    wp_X6_ready (fun r_11 =>
      P ((Mst ((17 : Int32) + (Mvf x1.toNatClampNeg)).toNatClampNeg) - r_11) Msa Msm Mso) Mst x1)
def wp_X6_rider_31 (P : Int32 → (Nat → Int32) → (Nat → Int32) → (Nat → Int32) → (Nat → Int32) → (Nat → Int32) → (Nat → Int32) → Int32 → Prop) (Mst : Nat → Int32) (x1 : Int32) (x2 : Int32) (w0 : Int32) (Mvf : Nat → Int32) (Mdn : Nat → Int32) (Mlf : Nat → Int32) (Mar : Nat → Int32) (Msa : Nat → Int32) (Msm : Nat → Int32) (Mso : Int32) : Prop :=
  (x2 = 0 →
    wp_X6_of (fun r_10 =>
      P r_10 Mvf Mdn Mlf Mar Msa Msm Mso) Mst x1 x2) ∧
  (x2 = 1 →
    wp_X6_of (fun r_11 =>
      P r_11 Mvf Mdn Mlf Mar Msa Msm Mso) Mst x1 x2) ∧
  (x2 = 2 →
    wp_X6_of (fun r_12 =>
      P r_12 Mvf Mdn Mlf Mar Msa Msm Mso) Mst x1 x2) ∧
  (x2 = 3 →
    wp_X6_of (fun r_13 =>
      P r_13 Mvf Mdn Mlf Mar Msa Msm Mso) Mst x1 x2) ∧
  (x2 = 4 →
    wp_X6_ready (fun r_14 =>
      P r_14 Mvf Mdn Mlf Mar Msa Msm Mso) Mst x1) ∧
  (x2 = 5 →
    vp_in x1 24 ∧
    P (Mvf x1.toNatClampNeg) Mvf Mdn Mlf Mar Msa Msm Mso) ∧
  (x2 = 6 →
    ((w0 = 0) →
      wp_X6_tellsDriven (fun r_20 Msa_17 Msm_18 Mso_19 =>
        P r_20 Mvf Mdn Mlf Mar Msa_17 Msm_18 Mso_19) Mst Mvf Msa Msm Mso x1 x2) ∧
    ((¬ w0 = 0) →
      P (-106 : Int32) Mvf Mdn Mlf Mar Msa Msm Mso)) ∧
  (x2 = 7 →
    ((w0 = 0) →
      wp_X6_tellsDriven (fun r_25 Msa_22 Msm_23 Mso_24 =>
        P r_25 Mvf Mdn Mlf Mar Msa_22 Msm_23 Mso_24) Mst Mvf Msa Msm Mso x1 x2) ∧
    ((¬ w0 = 0) →
      P (-106 : Int32) Mvf Mdn Mlf Mar Msa Msm Mso)) ∧
  (x2 = 8 →
    wp_X6_fare (fun r_26 =>
      P r_26 Mvf Mdn Mlf Mar Msa Msm Mso) Mst Mvf x1) ∧
  (x2 = 9 →
    ((w0 = 0) →
      wp_X6_tellsDriven (fun r_31 Msa_28 Msm_29 Mso_30 =>
        P r_31 Mvf Mdn Mlf Mar Msa_28 Msm_29 Mso_30) Mst Mvf Msa Msm Mso x1 x2) ∧
    ((¬ w0 = 0) →
      P (0 : Int32) Mvf Mdn Mlf Mar Msa Msm Mso)) ∧
  ((¬ x2 = 0 ∧ ¬ x2 = 1 ∧ ¬ x2 = 2 ∧ ¬ x2 = 3 ∧ ¬ x2 = 4 ∧ ¬ x2 = 5 ∧ ¬ x2 = 6 ∧ ¬ x2 = 7 ∧ ¬ x2 = 8 ∧ ¬ x2 = 9) →
    P (-102 : Int32) Mvf Mdn Mlf Mar Msa Msm Mso)
def wp_X6_rider (P : Int32 → (Nat → Int32) → (Nat → Int32) → (Nat → Int32) → (Nat → Int32) → (Nat → Int32) → (Nat → Int32) → Int32 → Prop) (Mst : Nat → Int32) (Mvf : Nat → Int32) (Mdn : Nat → Int32) (Mlf : Nat → Int32) (Mar : Nat → Int32) (Msa : Nat → Int32) (Msm : Nat → Int32) (Mso : Int32) (x1 : Int32) (x2 : Int32) : Prop :=
  wp_X6_isRider (fun r_1 =>
    ((¬ r_1 = 0) →
      wp_X6_lay (fun Mvf_3 Mdn_4 Mlf_5 Mar_6 =>
        vp_in x1 24 ∧
        ((¬ (Mvf_3 x1.toNatClampNeg) = (-106 : Int32)) →
          wp_X6_rider_31 P Mst x1 x2 (0 : Int32) Mvf_3 Mdn_4 Mlf_5 Mar_6 Msa Msm Mso) ∧
        (((Mvf_3 x1.toNatClampNeg) = (-106 : Int32)) →
          wp_X6_rider_31 P Mst x1 x2 (1 : Int32) Mvf_3 Mdn_4 Mlf_5 Mar_6 Msa Msm Mso)) Mst Mvf Mdn Mlf Mar) ∧
    ((r_1 = 0) →
      P (-101 : Int32) Mvf Mdn Mlf Mar Msa Msm Mso)) Mst x1
def wp_X6_peopleIn (P : Int32 → Prop) (Mst : Nat → Int32) (Mlf : Nat → Int32) (x1 : Int32) : Prop :=
  vp_in ((25 : Int32) + x1) 130 ∧
  vp_in x1 8 ∧
  P ((Mst ((25 : Int32) + x1).toNatClampNeg) - (Mlf x1.toNatClampNeg))
def wp_X6_ridersIn_4F (P : Int32 → Prop) (Mst : Nat → Int32) (Mvf : Nat → Int32) (x1 : Int32) (r4 : Int32 → Int32 → Prop) (v2 : Int32) (v3 : Int32) : Prop :=
  (((Mst (33 : Int32).toNatClampNeg) ≤ v3) →
    P v2) ∧
  ((¬ (Mst (33 : Int32).toNatClampNeg) ≤ v3) →
    vp_in v3 24 ∧
    ((¬ (Mvf v3.toNatClampNeg) = x1) →
      r4 (v2 ||| (0 : Int32)) (v3 + 1)) ∧
    (((Mvf v3.toNatClampNeg) = x1) →
      r4 (v2 ||| ((1 : Int32) <<< (v3 &&& 31))) (v3 + 1)))
def wp_X6_ridersIn_4 (P : Int32 → Prop) (Mst : Nat → Int32) (Mvf : Nat → Int32) (x1 : Int32) : Nat → Int32 → Int32 → Prop
  | 0 => fun _ _ => False
  | n + 1 => wp_X6_ridersIn_4F P Mst Mvf x1 (wp_X6_ridersIn_4 P Mst Mvf x1 n)
def wp_X6_ridersIn (P : Int32 → Prop) (Mst : Nat → Int32) (Mvf : Nat → Int32) (x1 : Int32) : Prop :=
  ∃ n : Nat, wp_X6_ridersIn_4 P Mst Mvf x1 n (0 : Int32) (0 : Int32)
def wp_X6_faresIn_4F (P : Int32 → Prop) (Mst : Nat → Int32) (Mvf : Nat → Int32) (x1 : Int32) (r4 : Int32 → Int32 → Prop) (v2 : Int32) (v3 : Int32) : Prop :=
  (((Mst (33 : Int32).toNatClampNeg) ≤ v3) →
    P v2) ∧
  ((¬ (Mst (33 : Int32).toNatClampNeg) ≤ v3) →
    vp_in v3 24 ∧
    ((¬ (Mvf v3.toNatClampNeg) = x1) →
      r4 (v2 + (0 : Int32)) (v3 + 1)) ∧
    (((Mvf v3.toNatClampNeg) = x1) →
      wp_X6_fare (fun r_5 =>
        r4 (v2 + r_5) (v3 + 1)) Mst Mvf v3))
def wp_X6_faresIn_4 (P : Int32 → Prop) (Mst : Nat → Int32) (Mvf : Nat → Int32) (x1 : Int32) : Nat → Int32 → Int32 → Prop
  | 0 => fun _ _ => False
  | n + 1 => wp_X6_faresIn_4F P Mst Mvf x1 (wp_X6_faresIn_4 P Mst Mvf x1 n)
def wp_X6_faresIn (P : Int32 → Prop) (Mst : Nat → Int32) (Mvf : Nat → Int32) (x1 : Int32) : Prop :=
  ∃ n : Nat, wp_X6_faresIn_4 P Mst Mvf x1 n (0 : Int32) (0 : Int32)
def wp_X6_vanOf (P : Int32 → (Nat → Int32) → (Nat → Int32) → (Nat → Int32) → (Nat → Int32) → (Nat → Int32) → (Nat → Int32) → Int32 → Prop) (Mst : Nat → Int32) (Mvf : Nat → Int32) (Mdn : Nat → Int32) (Mlf : Nat → Int32) (Mar : Nat → Int32) (Msa : Nat → Int32) (Msm : Nat → Int32) (Mso : Int32) (x1 : Int32) (x2 : Int32) : Prop :=
  wp_X6_isVan (fun r_1 =>
    ((¬ r_1 = 0) →
      wp_X6_lay (fun Mvf_3 Mdn_4 Mlf_5 Mar_6 =>
        wp_X6_layStops (fun Msa_7 Msm_8 Mso_9 =>
          (x2 = 0 →
            vp_in ((17 : Int32) + x1) 130 ∧
            P (Mst ((17 : Int32) + x1).toNatClampNeg) Mvf_3 Mdn_4 Mlf_5 Mar_6 Msa_7 Msm_8 Mso_9) ∧
          (x2 = 1 →
            vp_in ((25 : Int32) + x1) 130 ∧
            P (Mst ((25 : Int32) + x1).toNatClampNeg) Mvf_3 Mdn_4 Mlf_5 Mar_6 Msa_7 Msm_8 Mso_9) ∧
          (x2 = 2 →
            wp_X6_peopleIn (fun r_13 =>
              P r_13 Mvf_3 Mdn_4 Mlf_5 Mar_6 Msa_7 Msm_8 Mso_9) Mst Mlf_5 x1) ∧
          (x2 = 3 →
            wp_X6_ridersIn (fun r_14 =>
              P r_14 Mvf_3 Mdn_4 Mlf_5 Mar_6 Msa_7 Msm_8 Mso_9) Mst Mvf_3 x1) ∧
          (x2 = 4 →
            vp_in x1 8 ∧
            P (Mar_6 x1.toNatClampNeg) Mvf_3 Mdn_4 Mlf_5 Mar_6 Msa_7 Msm_8 Mso_9) ∧
          (x2 = 5 →
            P Mso_9 Mvf_3 Mdn_4 Mlf_5 Mar_6 Msa_7 Msm_8 Mso_9) ∧
          (x2 = 6 →
            ((¬ Mso_9 = 0) →
              vp_in (Mso_9 - (1 : Int32)) 24 ∧
              P (Msm_8 (Mso_9 - (1 : Int32)).toNatClampNeg) Mvf_3 Mdn_4 Mlf_5 Mar_6 Msa_7 Msm_8 Mso_9) ∧
            ((Mso_9 = 0) →
              P (-106 : Int32) Mvf_3 Mdn_4 Mlf_5 Mar_6 Msa_7 Msm_8 Mso_9)) ∧
          (x2 = 7 →
            wp_X6_faresIn (fun r_18 =>
              P r_18 Mvf_3 Mdn_4 Mlf_5 Mar_6 Msa_7 Msm_8 Mso_9) Mst Mvf_3 x1) ∧
          ((¬ x2 = 0 ∧ ¬ x2 = 1 ∧ ¬ x2 = 2 ∧ ¬ x2 = 3 ∧ ¬ x2 = 4 ∧ ¬ x2 = 5 ∧ ¬ x2 = 6 ∧ ¬ x2 = 7) →
            P (-102 : Int32) Mvf_3 Mdn_4 Mlf_5 Mar_6 Msa_7 Msm_8 Mso_9)) Mst Mvf_3 Msa Msm Mso x1) Mst Mvf Mdn Mlf Mar) ∧
    ((r_1 = 0) →
      P (-101 : Int32) Mvf Mdn Mlf Mar Msa Msm Mso)) x1
def wp_X6_peopleOf_49 (P : Int32 → Prop) (Mst : Nat → Int32) (Mvf : Nat → Int32) (x1 : Int32) (x2 : Int32) (r5 : Int32 → Int32 → Prop) (v3 : Int32) (v4 : Int32) (w0 : Int32) : Prop :=
  ((w0 = 0) →
    r5 (v3 + (0 : Int32)) (v4 + 1)) ∧
  ((¬ w0 = 0) →
    wp_X6_of (fun r_9 =>
      r5 (v3 + r_9) (v4 + 1)) Mst v4 (3 : Int32))
def wp_X6_peopleOf_5F (P : Int32 → Prop) (Mst : Nat → Int32) (Mvf : Nat → Int32) (x1 : Int32) (x2 : Int32) (r5 : Int32 → Int32 → Prop) (v3 : Int32) (v4 : Int32) : Prop :=
  (((Mst (33 : Int32).toNatClampNeg) ≤ v4) →
    P v3) ∧
  ((¬ (Mst (33 : Int32).toNatClampNeg) ≤ v4) →
    wp_X6_of (fun r_3 =>
      ((¬ r_3 = x1) →
        wp_X6_peopleOf_49 P Mst Mvf x1 x2 r5 v3 v4 (0 : Int32)) ∧
      ((r_3 = x1) →
        ((x2 = 0) →
          wp_X6_peopleOf_49 P Mst Mvf x1 x2 r5 v3 v4 (1 : Int32)) ∧
        ((¬ x2 = 0) →
          vp_in v4 24 ∧
          ((¬ (Mvf v4.toNatClampNeg) = (-106 : Int32)) →
            wp_X6_peopleOf_49 P Mst Mvf x1 x2 r5 v3 v4 (0 : Int32)) ∧
          (((Mvf v4.toNatClampNeg) = (-106 : Int32)) →
            wp_X6_peopleOf_49 P Mst Mvf x1 x2 r5 v3 v4 (1 : Int32))))) Mst v4 (0 : Int32))
def wp_X6_peopleOf_5 (P : Int32 → Prop) (Mst : Nat → Int32) (Mvf : Nat → Int32) (x1 : Int32) (x2 : Int32) : Nat → Int32 → Int32 → Prop
  | 0 => fun _ _ => False
  | n + 1 => wp_X6_peopleOf_5F P Mst Mvf x1 x2 (wp_X6_peopleOf_5 P Mst Mvf x1 x2 n)
def wp_X6_peopleOf (P : Int32 → Prop) (Mst : Nat → Int32) (Mvf : Nat → Int32) (x1 : Int32) (x2 : Int32) : Prop :=
  ∃ n : Nat, wp_X6_peopleOf_5 P Mst Mvf x1 x2 n (0 : Int32) (0 : Int32)
def wp_X6_flight (P : Int32 → (Nat → Int32) → (Nat → Int32) → (Nat → Int32) → (Nat → Int32) → Prop) (Mst : Nat → Int32) (Mvf : Nat → Int32) (Mdn : Nat → Int32) (Mlf : Nat → Int32) (Mar : Nat → Int32) (x1 : Int32) (x2 : Int32) : Prop :=
  wp_X6_isFlight (fun r_1 =>
    ((¬ r_1 = 0) →
      wp_X6_lay (fun Mvf_3 Mdn_4 Mlf_5 Mar_6 =>
        (x2 = 0 →
          vp_in ((5 : Int32) + x1) 130 ∧
          P (Mst ((5 : Int32) + x1).toNatClampNeg) Mvf_3 Mdn_4 Mlf_5 Mar_6) ∧
        (x2 = 1 →
          vp_in ((11 : Int32) + x1) 130 ∧
          P (Mst ((11 : Int32) + x1).toNatClampNeg) Mvf_3 Mdn_4 Mlf_5 Mar_6) ∧
        (x2 = 2 →
          wp_X6_readyOf (fun r_10 =>
            P r_10 Mvf_3 Mdn_4 Mlf_5 Mar_6) Mst x1) ∧
        (x2 = 3 →
          wp_X6_peopleOf (fun r_11 =>
            P r_11 Mvf_3 Mdn_4 Mlf_5 Mar_6) Mst Mvf_3 x1 (0 : Int32)) ∧
        (x2 = 4 →
          wp_X6_peopleOf (fun r_12 =>
            P r_12 Mvf_3 Mdn_4 Mlf_5 Mar_6) Mst Mvf_3 x1 (1 : Int32)) ∧
        ((¬ x2 = 0 ∧ ¬ x2 = 1 ∧ ¬ x2 = 2 ∧ ¬ x2 = 3 ∧ ¬ x2 = 4) →
          P (-102 : Int32) Mvf_3 Mdn_4 Mlf_5 Mar_6)) Mst Mvf Mdn Mlf Mar) ∧
    ((r_1 = 0) →
      P (-101 : Int32) Mvf Mdn Mlf Mar)) x1
def wp_X6_gettingOut_5F (P : Int32 → Prop) (Mst : Nat → Int32) (Mvf : Nat → Int32) (x1 : Int32) (x2 : Int32) (r5 : Int32 → Int32 → Prop) (v3 : Int32) (v4 : Int32) : Prop :=
  (((Mst (33 : Int32).toNatClampNeg) ≤ v4) →
    P v3) ∧
  ((¬ (Mst (33 : Int32).toNatClampNeg) ≤ v4) →
    vp_in v4 24 ∧
    ((¬ (Mvf v4.toNatClampNeg) = x1) →
      r5 (v3 + (0 : Int32)) (v4 + 1)) ∧
    (((Mvf v4.toNatClampNeg) = x1) →
      wp_X6_keyOf (fun r_5 =>
        ((¬ r_5 = x2) →
          r5 (v3 + (0 : Int32)) (v4 + 1)) ∧
        ((r_5 = x2) →
          wp_X6_of (fun r_7 =>
            r5 (v3 + r_7) (v4 + 1)) Mst v4 (3 : Int32))) Mst v4))
def wp_X6_gettingOut_5 (P : Int32 → Prop) (Mst : Nat → Int32) (Mvf : Nat → Int32) (x1 : Int32) (x2 : Int32) : Nat → Int32 → Int32 → Prop
  | 0 => fun _ _ => False
  | n + 1 => wp_X6_gettingOut_5F P Mst Mvf x1 x2 (wp_X6_gettingOut_5 P Mst Mvf x1 x2 n)
def wp_X6_gettingOut (P : Int32 → Prop) (Mst : Nat → Int32) (Mvf : Nat → Int32) (x1 : Int32) (x2 : Int32) : Prop :=
  ∃ n : Nat, wp_X6_gettingOut_5 P Mst Mvf x1 x2 n (0 : Int32) (0 : Int32)
def wp_X6_stop (P : Int32 → (Nat → Int32) → (Nat → Int32) → (Nat → Int32) → (Nat → Int32) → (Nat → Int32) → (Nat → Int32) → Int32 → Prop) (Mst : Nat → Int32) (Mvf : Nat → Int32) (Mdn : Nat → Int32) (Mlf : Nat → Int32) (Mar : Nat → Int32) (Msa : Nat → Int32) (Msm : Nat → Int32) (Mso : Int32) (x1 : Int32) (x2 : Int32) (x3 : Int32) : Prop :=
  wp_X6_isVan (fun r_1 =>
    ((¬ r_1 = 0) →
      wp_X6_lay (fun Mvf_3 Mdn_4 Mlf_5 Mar_6 =>
        wp_X6_layStops (fun Msa_7 Msm_8 Mso_9 =>
          wp_X6_within (fun r_10 =>
            ((¬ r_10 = 0) →
              (x3 = 0 →
                vp_in x2 24 ∧
                P ((Msa_7 x2.toNatClampNeg) / (100 : Int32)) Mvf_3 Mdn_4 Mlf_5 Mar_6 Msa_7 Msm_8 Mso_9) ∧
              (x3 = 1 →
                vp_in x2 24 ∧
                P ((Msa_7 x2.toNatClampNeg) - (Msa_7 x2.toNatClampNeg) / (100 : Int32) * (100 : Int32)) Mvf_3 Mdn_4 Mlf_5 Mar_6 Msa_7 Msm_8 Mso_9) ∧
              (x3 = 2 →
                vp_in x2 24 ∧
                P (Msm_8 x2.toNatClampNeg) Mvf_3 Mdn_4 Mlf_5 Mar_6 Msa_7 Msm_8 Mso_9) ∧
              (x3 = 3 →
                vp_in x2 24 ∧
                wp_X6_gettingOut (fun r_17 =>
                  P r_17 Mvf_3 Mdn_4 Mlf_5 Mar_6 Msa_7 Msm_8 Mso_9) Mst Mvf_3 x1 (Msa_7 x2.toNatClampNeg)) ∧
              ((¬ x3 = 0 ∧ ¬ x3 = 1 ∧ ¬ x3 = 2 ∧ ¬ x3 = 3) →
                P (-102 : Int32) Mvf_3 Mdn_4 Mlf_5 Mar_6 Msa_7 Msm_8 Mso_9)) ∧
            ((r_10 = 0) →
              P (-101 : Int32) Mvf_3 Mdn_4 Mlf_5 Mar_6 Msa_7 Msm_8 Mso_9)) x2 (0 : Int32) (Mso_9 - (1 : Int32))) Mst Mvf_3 Msa Msm Mso x1) Mst Mvf Mdn Mlf Mar) ∧
    ((r_1 = 0) →
      P (-101 : Int32) Mvf Mdn Mlf Mar Msa Msm Mso)) x1
def wp_X6_allPeople_4F (P : Int32 → Prop) (Mst : Nat → Int32) (Mvf : Nat → Int32) (r4 : Int32 → Int32 → Prop) (v1 : Int32) (v2 : Int32) : Prop :=
  (((6 : Int32) ≤ v2) →
    P v1) ∧
  ((¬ (6 : Int32) ≤ v2) →
    wp_X6_peopleOf (fun r_2 =>
      r4 (v1 + r_2) (v2 + 1)) Mst Mvf v2 (0 : Int32))
def wp_X6_allPeople_4 (P : Int32 → Prop) (Mst : Nat → Int32) (Mvf : Nat → Int32) : Nat → Int32 → Int32 → Prop
  | 0 => fun _ _ => False
  | n + 1 => wp_X6_allPeople_4F P Mst Mvf (wp_X6_allPeople_4 P Mst Mvf n)
def wp_X6_allPeople (P : Int32 → Prop) (Mst : Nat → Int32) (Mvf : Nat → Int32) : Prop :=
  ∃ n : Nat, wp_X6_allPeople_4 P Mst Mvf n (0 : Int32) (0 : Int32)
def wp_X6_strandedRiders_4F (P : Int32 → Prop) (Mst : Nat → Int32) (Mvf : Nat → Int32) (r4 : Int32 → Int32 → Prop) (v1 : Int32) (v2 : Int32) : Prop :=
  (((Mst (33 : Int32).toNatClampNeg) ≤ v2) →
    P v1) ∧
  ((¬ (Mst (33 : Int32).toNatClampNeg) ≤ v2) →
    vp_in v2 24 ∧
    ((¬ (Mvf v2.toNatClampNeg) = (-106 : Int32)) →
      r4 (v1 + (0 : Int32)) (v2 + 1)) ∧
    (((Mvf v2.toNatClampNeg) = (-106 : Int32)) →
      r4 (v1 + (1 : Int32)) (v2 + 1)))
def wp_X6_strandedRiders_4 (P : Int32 → Prop) (Mst : Nat → Int32) (Mvf : Nat → Int32) : Nat → Int32 → Int32 → Prop
  | 0 => fun _ _ => False
  | n + 1 => wp_X6_strandedRiders_4F P Mst Mvf (wp_X6_strandedRiders_4 P Mst Mvf n)
def wp_X6_strandedRiders (P : Int32 → Prop) (Mst : Nat → Int32) (Mvf : Nat → Int32) : Prop :=
  ∃ n : Nat, wp_X6_strandedRiders_4 P Mst Mvf n (0 : Int32) (0 : Int32)
def wp_X6_allFares_4F (P : Int32 → Prop) (Mst : Nat → Int32) (Mvf : Nat → Int32) (r4 : Int32 → Int32 → Prop) (v1 : Int32) (v2 : Int32) : Prop :=
  (((Mst (33 : Int32).toNatClampNeg) ≤ v2) →
    P v1) ∧
  ((¬ (Mst (33 : Int32).toNatClampNeg) ≤ v2) →
    wp_X6_fare (fun r_3 =>
      r4 (v1 + r_3) (v2 + 1)) Mst Mvf v2)
def wp_X6_allFares_4 (P : Int32 → Prop) (Mst : Nat → Int32) (Mvf : Nat → Int32) : Nat → Int32 → Int32 → Prop
  | 0 => fun _ _ => False
  | n + 1 => wp_X6_allFares_4F P Mst Mvf (wp_X6_allFares_4 P Mst Mvf n)
def wp_X6_allFares (P : Int32 → Prop) (Mst : Nat → Int32) (Mvf : Nat → Int32) : Prop :=
  ∃ n : Nat, wp_X6_allFares_4 P Mst Mvf n (0 : Int32) (0 : Int32)
def wp_X6_usedVans_4F (P : Int32 → Prop) (Mar : Nat → Int32) (r4 : Int32 → Int32 → Prop) (v1 : Int32) (v2 : Int32) : Prop :=
  (((8 : Int32) ≤ v2) →
    P v1) ∧
  ((¬ (8 : Int32) ≤ v2) →
    vp_in v2 8 ∧
    (((Mar v2.toNatClampNeg) = 0) →
      r4 (v1 + (0 : Int32)) (v2 + 1)) ∧
    ((¬ (Mar v2.toNatClampNeg) = 0) →
      r4 (v1 + (1 : Int32)) (v2 + 1)))
def wp_X6_usedVans_4 (P : Int32 → Prop) (Mar : Nat → Int32) : Nat → Int32 → Int32 → Prop
  | 0 => fun _ _ => False
  | n + 1 => wp_X6_usedVans_4F P Mar (wp_X6_usedVans_4 P Mar n)
def wp_X6_usedVans (P : Int32 → Prop) (Mar : Nat → Int32) : Prop :=
  ∃ n : Nat, wp_X6_usedVans_4 P Mar n (0 : Int32) (0 : Int32)
def wp_X6_allStops_4F (P : Int32 → (Nat → Int32) → (Nat → Int32) → Int32 → Prop) (Mst : Nat → Int32) (Mvf : Nat → Int32) (r4 : Int32 → Int32 → (Nat → Int32) → (Nat → Int32) → Int32 → Prop) (v1 : Int32) (v2 : Int32) (Msa : Nat → Int32) (Msm : Nat → Int32) (Mso : Int32) : Prop :=
  (((8 : Int32) ≤ v2) →
    P v1 Msa Msm Mso) ∧
  ((¬ (8 : Int32) ≤ v2) →
    wp_X6_layStops (fun Msa_2 Msm_3 Mso_4 =>
      r4 (v1 + Mso_4) (v2 + 1) Msa_2 Msm_3 Mso_4) Mst Mvf Msa Msm Mso v2)
def wp_X6_allStops_4 (P : Int32 → (Nat → Int32) → (Nat → Int32) → Int32 → Prop) (Mst : Nat → Int32) (Mvf : Nat → Int32) : Nat → Int32 → Int32 → (Nat → Int32) → (Nat → Int32) → Int32 → Prop
  | 0 => fun _ _ _ _ _ => False
  | n + 1 => wp_X6_allStops_4F P Mst Mvf (wp_X6_allStops_4 P Mst Mvf n)
def wp_X6_allStops (P : Int32 → (Nat → Int32) → (Nat → Int32) → Int32 → Prop) (Mst : Nat → Int32) (Mvf : Nat → Int32) (Msa : Nat → Int32) (Msm : Nat → Int32) (Mso : Int32) : Prop :=
  ∃ n : Nat, wp_X6_allStops_4 P Mst Mvf n (0 : Int32) (0 : Int32) Msa Msm Mso
def wp_X6_count (P : Int32 → (Nat → Int32) → (Nat → Int32) → (Nat → Int32) → (Nat → Int32) → (Nat → Int32) → (Nat → Int32) → Int32 → Prop) (Mst : Nat → Int32) (Mhn : Int32) (Mln : Int32) (Mvf : Nat → Int32) (Mdn : Nat → Int32) (Mlf : Nat → Int32) (Mar : Nat → Int32) (Msa : Nat → Int32) (Msm : Nat → Int32) (Mso : Int32) (x1 : Int32) : Prop :=
  wp_X6_within (fun r_1 =>
    ((r_1 = 0) →
      wp_X6_lay (fun Mvf_3 Mdn_4 Mlf_5 Mar_6 =>
        (x1 = 5 →
          P (Mst (33 : Int32).toNatClampNeg) Mvf_3 Mdn_4 Mlf_5 Mar_6 Msa Msm Mso) ∧
        (x1 = 6 →
          wp_X6_allPeople (fun r_9 =>
            P r_9 Mvf_3 Mdn_4 Mlf_5 Mar_6 Msa Msm Mso) Mst Mvf_3) ∧
        (x1 = 7 →
          wp_X6_strandedRiders (fun r_10 =>
            P r_10 Mvf_3 Mdn_4 Mlf_5 Mar_6 Msa Msm Mso) Mst Mvf_3) ∧
        (x1 = 8 →
          wp_X6_strandedPeople (fun r_11 =>
            P r_11 Mvf_3 Mdn_4 Mlf_5 Mar_6 Msa Msm Mso) Mst Mvf_3) ∧
        (x1 = 9 →
          wp_X6_waiting (fun r_12 =>
            P r_12 Mvf_3 Mdn_4 Mlf_5 Mar_6 Msa Msm Mso) Mst Mvf_3) ∧
        (x1 = 10 →
          wp_X6_allFares (fun r_13 =>
            P r_13 Mvf_3 Mdn_4 Mlf_5 Mar_6 Msa Msm Mso) Mst Mvf_3) ∧
        (x1 = 11 →
          wp_X6_usedVans (fun r_14 =>
            P r_14 Mvf_3 Mdn_4 Mlf_5 Mar_6 Msa Msm Mso) Mar_6) ∧
        (x1 = 12 →
          wp_X6_allStops (fun r_18 Msa_15 Msm_16 Mso_17 =>
            P r_18 Mvf_3 Mdn_4 Mlf_5 Mar_6 Msa_15 Msm_16 Mso_17) Mst Mvf_3 Msa Msm Mso) ∧
        (x1 = 13 →
          wp_X6_lastMinute (fun r_22 Msa_19 Msm_20 Mso_21 =>
            P r_22 Mvf_3 Mdn_4 Mlf_5 Mar_6 Msa_19 Msm_20 Mso_21) Mst Mvf_3 Msa Msm Mso) ∧
        (x1 = 14 →
          P Mln Mvf_3 Mdn_4 Mlf_5 Mar_6 Msa Msm Mso) ∧
        (x1 = 15 →
          P Mhn Mvf_3 Mdn_4 Mlf_5 Mar_6 Msa Msm Mso) ∧
        ((¬ x1 = 5 ∧ ¬ x1 = 6 ∧ ¬ x1 = 7 ∧ ¬ x1 = 8 ∧ ¬ x1 = 9 ∧ ¬ x1 = 10 ∧ ¬ x1 = 11 ∧ ¬ x1 = 12 ∧ ¬ x1 = 13 ∧ ¬ x1 = 14 ∧ ¬ x1 = 15) →
          P (-102 : Int32) Mvf_3 Mdn_4 Mlf_5 Mar_6 Msa Msm Mso)) Mst Mvf Mdn Mlf Mar) ∧
    ((¬ r_1 = 0) →
      vp_in x1 130 ∧
      P (Mst x1.toNatClampNeg) Mvf Mdn Mlf Mar Msa Msm Mso)) x1 (0 : Int32) (4 : Int32)
def wp_X6_kerb_95 (P : Int32 → (Nat → Int32) → (Nat → Int32) → (Nat → Int32) → (Nat → Int32) → Prop) (Mst : Nat → Int32) (x1 : Int32) (r22 : Int32 → Int32 → Prop) (v2 : Int32) (v3 : Int32) (w0 : Int32) (Mvf : Nat → Int32) (Mdn : Nat → Int32) (Mlf : Nat → Int32) (Mar : Nat → Int32) : Prop :=
  ((w0 = 0) →
    r22 (v2 + (0 : Int32)) (v3 + 1)) ∧
  ((¬ w0 = 0) →
    wp_X6_of (fun r_18 =>
      r22 (v2 + r_18) (v3 + 1)) Mst v3 (3 : Int32))
def wp_X6_kerb_22F (P : Int32 → (Nat → Int32) → (Nat → Int32) → (Nat → Int32) → (Nat → Int32) → Prop) (Mst : Nat → Int32) (x1 : Int32) (Mvf : Nat → Int32) (Mdn : Nat → Int32) (Mlf : Nat → Int32) (Mar : Nat → Int32) (r22 : Int32 → Int32 → Prop) (v2 : Int32) (v3 : Int32) : Prop :=
  (((Mst (33 : Int32).toNatClampNeg) ≤ v3) →
    P v2 Mvf Mdn Mlf Mar) ∧
  ((¬ (Mst (33 : Int32).toNatClampNeg) ≤ v3) →
    wp_X6_ready (fun r_9 =>
      vp_in v3 24 ∧
      (((x1 - r_9) < 0) →
        wp_X6_kerb_95 P Mst x1 r22 v2 v3 (0 : Int32) Mvf Mdn Mlf Mar) ∧
      ((¬ (x1 - r_9) < 0) →
        ((¬ (Mvf v3.toNatClampNeg) = (-106 : Int32)) →
          vp_in ((17 : Int32) + (Mvf v3.toNatClampNeg)) 130 ∧
          (((Mst ((17 : Int32) + (Mvf v3.toNatClampNeg)).toNatClampNeg) ≤ x1) →
            wp_X6_kerb_95 P Mst x1 r22 v2 v3 (0 : Int32) Mvf Mdn Mlf Mar) ∧
          ((¬ (Mst ((17 : Int32) + (Mvf v3.toNatClampNeg)).toNatClampNeg) ≤ x1) →
            wp_X6_kerb_95 P Mst x1 r22 v2 v3 (1 : Int32) Mvf Mdn Mlf Mar)) ∧
        (((Mvf v3.toNatClampNeg) = (-106 : Int32)) →
          (((Mst (1 : Int32).toNatClampNeg) < (x1 - r_9)) →
            wp_X6_kerb_95 P Mst x1 r22 v2 v3 (0 : Int32) Mvf Mdn Mlf Mar) ∧
          ((¬ (Mst (1 : Int32).toNatClampNeg) < (x1 - r_9)) →
            wp_X6_kerb_95 P Mst x1 r22 v2 v3 (1 : Int32) Mvf Mdn Mlf Mar)))) Mst v3)
def wp_X6_kerb_22 (P : Int32 → (Nat → Int32) → (Nat → Int32) → (Nat → Int32) → (Nat → Int32) → Prop) (Mst : Nat → Int32) (x1 : Int32) (Mvf : Nat → Int32) (Mdn : Nat → Int32) (Mlf : Nat → Int32) (Mar : Nat → Int32) : Nat → Int32 → Int32 → Prop
  | 0 => fun _ _ => False
  | n + 1 => wp_X6_kerb_22F P Mst x1 Mvf Mdn Mlf Mar (wp_X6_kerb_22 P Mst x1 Mvf Mdn Mlf Mar n)
def wp_X6_kerb (P : Int32 → (Nat → Int32) → (Nat → Int32) → (Nat → Int32) → (Nat → Int32) → Prop) (Mst : Nat → Int32) (Mvf : Nat → Int32) (Mdn : Nat → Int32) (Mlf : Nat → Int32) (Mar : Nat → Int32) (x1 : Int32) : Prop :=
  wp_X6_within (fun r_1 =>
    ((¬ r_1 = 0) →
      wp_X6_lay (fun Mvf_3 Mdn_4 Mlf_5 Mar_6 =>
        ∃ n : Nat, wp_X6_kerb_22 P Mst x1 Mvf_3 Mdn_4 Mlf_5 Mar_6 n (0 : Int32) (0 : Int32)) Mst Mvf Mdn Mlf Mar) ∧
    ((r_1 = 0) →
      P (-102 : Int32) Mvf Mdn Mlf Mar)) x1 (0 : Int32) (3000 : Int32)
def wp_X6_ifDelayed_86 (P : Int32 → (Nat → Int32) → (Nat → Int32) → (Nat → Int32) → (Nat → Int32) → (Nat → Int32) → (Nat → Int32) → (Nat → Int32) → Int32 → Prop) (x1 : Int32) (x2 : Int32) (x3 : Int32) (v4 : Int32) (w0 : Int32) (Mst : Nat → Int32) (Mvf : Nat → Int32) (Mdn : Nat → Int32) (Mlf : Nat → Int32) (Mar : Nat → Int32) (Msa : Nat → Int32) (Msm : Nat → Int32) (Mso : Int32) : Prop :=
  vp_in ((11 : Int32) + x1) 130 ∧
  P w0 (upd Mst ((11 : Int32) + x1).toNatClampNeg v4) Mvf Mdn Mlf Mar Msa Msm Mso
def wp_X6_ifDelayed (P : Int32 → (Nat → Int32) → (Nat → Int32) → (Nat → Int32) → (Nat → Int32) → (Nat → Int32) → (Nat → Int32) → (Nat → Int32) → Int32 → Prop) (Mst : Nat → Int32) (Mvf : Nat → Int32) (Mdn : Nat → Int32) (Mlf : Nat → Int32) (Mar : Nat → Int32) (Msa : Nat → Int32) (Msm : Nat → Int32) (Mso : Int32) (x1 : Int32) (x2 : Int32) (x3 : Int32) : Prop :=
  wp_X6_isFlight (fun r_1 =>
    ((¬ r_1 = 0) →
      wp_X6_within (fun r_3 =>
        ((r_3 = 0) →
          P (-102 : Int32) Mst Mvf Mdn Mlf Mar Msa Msm Mso) ∧
        ((¬ r_3 = 0) →
          wp_X6_within (fun r_5 =>
            ((¬ r_5 = 0) →
              vp_in ((11 : Int32) + x1) 130 ∧
              vp_in ((11 : Int32) + x1) 130 ∧
              wp_X6_lay (fun Mvf_9 Mdn_10 Mlf_11 Mar_12 =>
                ((¬ x3 = 0) →
                  ((¬ x3 = (1 : Int32)) →
                    wp_X6_lastMinute (fun r_18 Msa_15 Msm_16 Mso_17 =>
                      wp_X6_ifDelayed_86 P x1 x2 x3 (Mst ((11 : Int32) + x1).toNatClampNeg) r_18 (upd Mst ((11 : Int32) + x1).toNatClampNeg x2) Mvf_9 Mdn_10 Mlf_11 Mar_12 Msa_15 Msm_16 Mso_17) (upd Mst ((11 : Int32) + x1).toNatClampNeg x2) Mvf_9 Msa Msm Mso) ∧
                  ((x3 = (1 : Int32)) →
                    wp_X6_waiting (fun r_19 =>
                      wp_X6_ifDelayed_86 P x1 x2 x3 (Mst ((11 : Int32) + x1).toNatClampNeg) r_19 (upd Mst ((11 : Int32) + x1).toNatClampNeg x2) Mvf_9 Mdn_10 Mlf_11 Mar_12 Msa Msm Mso) (upd Mst ((11 : Int32) + x1).toNatClampNeg x2) Mvf_9)) ∧
                ((x3 = 0) →
                  wp_X6_strandedPeople (fun r_20 =>
                    wp_X6_ifDelayed_86 P x1 x2 x3 (Mst ((11 : Int32) + x1).toNatClampNeg) r_20 (upd Mst ((11 : Int32) + x1).toNatClampNeg x2) Mvf_9 Mdn_10 Mlf_11 Mar_12 Msa Msm Mso) (upd Mst ((11 : Int32) + x1).toNatClampNeg x2) Mvf_9)) (upd Mst ((11 : Int32) + x1).toNatClampNeg x2) Mvf Mdn Mlf Mar) ∧
            ((r_5 = 0) →
              P (-102 : Int32) Mst Mvf Mdn Mlf Mar Msa Msm Mso)) x3 (0 : Int32) (2 : Int32))) x2 (-30 : Int32) (300 : Int32)) ∧
    ((r_1 = 0) →
      P (-101 : Int32) Mst Mvf Mdn Mlf Mar Msa Msm Mso)) x1
def wp_X6_mostDelay_36F (P : Int32 → (Nat → Int32) → (Nat → Int32) → (Nat → Int32) → (Nat → Int32) → (Nat → Int32) → Prop) (x1 : Int32) (v2 : Int32) (v3 : Int32) (r36 : Int32 → Int32 → (Nat → Int32) → (Nat → Int32) → (Nat → Int32) → (Nat → Int32) → (Nat → Int32) → Prop) (v4 : Int32) (v5 : Int32) (Mst : Nat → Int32) (Mvf : Nat → Int32) (Mdn : Nat → Int32) (Mlf : Nat → Int32) (Mar : Nat → Int32) : Prop :=
  (((300 : Int32) < v5) →
    vp_in ((11 : Int32) + x1) 130 ∧
    P v4 (upd Mst ((11 : Int32) + x1).toNatClampNeg v3) Mvf Mdn Mlf Mar) ∧
  ((¬ (300 : Int32) < v5) →
    vp_in ((11 : Int32) + x1) 130 ∧
    wp_X6_lay (fun Mvf_12 Mdn_13 Mlf_14 Mar_15 =>
      ((v5 ≤ v4) →
        r36 v4 (v5 + 1) (upd Mst ((11 : Int32) + x1).toNatClampNeg v5) Mvf_12 Mdn_13 Mlf_14 Mar_15) ∧
      ((¬ v5 ≤ v4) →
        wp_X6_strandedPeople (fun r_17 =>
          ((v2 < r_17) →
            r36 v4 (v5 + 1) (upd Mst ((11 : Int32) + x1).toNatClampNeg v5) Mvf_12 Mdn_13 Mlf_14 Mar_15) ∧
          ((¬ v2 < r_17) →
            r36 v5 (v5 + 1) (upd Mst ((11 : Int32) + x1).toNatClampNeg v5) Mvf_12 Mdn_13 Mlf_14 Mar_15)) (upd Mst ((11 : Int32) + x1).toNatClampNeg v5) Mvf_12)) (upd Mst ((11 : Int32) + x1).toNatClampNeg v5) Mvf Mdn Mlf Mar)
def wp_X6_mostDelay_36 (P : Int32 → (Nat → Int32) → (Nat → Int32) → (Nat → Int32) → (Nat → Int32) → (Nat → Int32) → Prop) (x1 : Int32) (v2 : Int32) (v3 : Int32) : Nat → Int32 → Int32 → (Nat → Int32) → (Nat → Int32) → (Nat → Int32) → (Nat → Int32) → (Nat → Int32) → Prop
  | 0 => fun _ _ _ _ _ _ _ => False
  | n + 1 => wp_X6_mostDelay_36F P x1 v2 v3 (wp_X6_mostDelay_36 P x1 v2 v3 n)
def wp_X6_mostDelay (P : Int32 → (Nat → Int32) → (Nat → Int32) → (Nat → Int32) → (Nat → Int32) → (Nat → Int32) → Prop) (Mst : Nat → Int32) (Mvf : Nat → Int32) (Mdn : Nat → Int32) (Mlf : Nat → Int32) (Mar : Nat → Int32) (x1 : Int32) : Prop :=
  wp_X6_isFlight (fun r_1 =>
    ((¬ r_1 = 0) →
      wp_X6_lay (fun Mvf_3 Mdn_4 Mlf_5 Mar_6 =>
        wp_X6_strandedPeople (fun r_7 =>
          vp_in ((11 : Int32) + x1) 130 ∧
          ∃ n : Nat, wp_X6_mostDelay_36 P x1 r_7 (Mst ((11 : Int32) + x1).toNatClampNeg) n (Mst ((11 : Int32) + x1).toNatClampNeg) (-30 : Int32) Mst Mvf_3 Mdn_4 Mlf_5 Mar_6) Mst Mvf_3) Mst Mvf Mdn Mlf Mar) ∧
    ((r_1 = 0) →
      P (-101 : Int32) Mst Mvf Mdn Mlf Mar)) x1
def wp_X6_bestMinute_31F (P : Int32 → (Nat → Int32) → (Nat → Int32) → (Nat → Int32) → (Nat → Int32) → (Nat → Int32) → Prop) (x1 : Int32) (v2 : Int32) (r31 : Int32 → Int32 → Int32 → Int32 → (Nat → Int32) → (Nat → Int32) → (Nat → Int32) → (Nat → Int32) → (Nat → Int32) → Prop) (v3 : Int32) (v4 : Int32) (v5 : Int32) (v6 : Int32) (Mst : Nat → Int32) (Mvf : Nat → Int32) (Mdn : Nat → Int32) (Mlf : Nat → Int32) (Mar : Nat → Int32) : Prop :=
  (((1500 : Int32) < v6) →
    vp_in ((17 : Int32) + x1) 130 ∧
    P v3 (upd Mst ((17 : Int32) + x1).toNatClampNeg v2) Mvf Mdn Mlf Mar) ∧
  ((¬ (1500 : Int32) < v6) →
    vp_in ((17 : Int32) + x1) 130 ∧
    wp_X6_lay (fun Mvf_7 Mdn_8 Mlf_9 Mar_10 =>
      wp_X6_strandedPeople (fun r_11 =>
        wp_X6_waiting (fun r_12 =>
          ((v6 = 0) →
            r31 v6 r_11 r_12 (v6 + 5) (upd Mst ((17 : Int32) + x1).toNatClampNeg v6) Mvf_7 Mdn_8 Mlf_9 Mar_10) ∧
          ((¬ v6 = 0) →
            ((r_11 < v4) →
              r31 v6 r_11 r_12 (v6 + 5) (upd Mst ((17 : Int32) + x1).toNatClampNeg v6) Mvf_7 Mdn_8 Mlf_9 Mar_10) ∧
            ((¬ r_11 < v4) →
              ((¬ r_11 = v4) →
                r31 v3 v4 v5 (v6 + 5) (upd Mst ((17 : Int32) + x1).toNatClampNeg v6) Mvf_7 Mdn_8 Mlf_9 Mar_10) ∧
              ((r_11 = v4) →
                ((v5 ≤ r_12) →
                  r31 v3 v4 v5 (v6 + 5) (upd Mst ((17 : Int32) + x1).toNatClampNeg v6) Mvf_7 Mdn_8 Mlf_9 Mar_10) ∧
                ((¬ v5 ≤ r_12) →
                  r31 v6 r_11 r_12 (v6 + 5) (upd Mst ((17 : Int32) + x1).toNatClampNeg v6) Mvf_7 Mdn_8 Mlf_9 Mar_10))))) (upd Mst ((17 : Int32) + x1).toNatClampNeg v6) Mvf_7) (upd Mst ((17 : Int32) + x1).toNatClampNeg v6) Mvf_7) (upd Mst ((17 : Int32) + x1).toNatClampNeg v6) Mvf Mdn Mlf Mar)
def wp_X6_bestMinute_31 (P : Int32 → (Nat → Int32) → (Nat → Int32) → (Nat → Int32) → (Nat → Int32) → (Nat → Int32) → Prop) (x1 : Int32) (v2 : Int32) : Nat → Int32 → Int32 → Int32 → Int32 → (Nat → Int32) → (Nat → Int32) → (Nat → Int32) → (Nat → Int32) → (Nat → Int32) → Prop
  | 0 => fun _ _ _ _ _ _ _ _ _ => False
  | n + 1 => wp_X6_bestMinute_31F P x1 v2 (wp_X6_bestMinute_31 P x1 v2 n)
def wp_X6_bestMinute (P : Int32 → (Nat → Int32) → (Nat → Int32) → (Nat → Int32) → (Nat → Int32) → (Nat → Int32) → Prop) (Mst : Nat → Int32) (Mvf : Nat → Int32) (Mdn : Nat → Int32) (Mlf : Nat → Int32) (Mar : Nat → Int32) (x1 : Int32) : Prop :=
  wp_X6_isVan (fun r_1 =>
    ((¬ r_1 = 0) →
      vp_in ((17 : Int32) + x1) 130 ∧
      ∃ n : Nat, wp_X6_bestMinute_31 P x1 (Mst ((17 : Int32) + x1).toNatClampNeg) n (0 : Int32) (0 : Int32) (0 : Int32) (0 : Int32) Mst Mvf Mdn Mlf Mar) ∧
    ((r_1 = 0) →
      P (-101 : Int32) Mst Mvf Mdn Mlf Mar)) x1
def wp_X6_fullest_47 (P : Int32 → (Nat → Int32) → (Nat → Int32) → (Nat → Int32) → (Nat → Int32) → Prop) (Mst : Nat → Int32) (r9 : Int32 → Int32 → Prop) (v1 : Int32) (v2 : Int32) (w0 : Int32) (Mvf : Nat → Int32) (Mdn : Nat → Int32) (Mlf : Nat → Int32) (Mar : Nat → Int32) : Prop :=
  ((w0 = 0) →
    r9 v1 (v2 + 1)) ∧
  ((¬ w0 = 0) →
    r9 v2 (v2 + 1))
def wp_X6_fullest_9F (P : Int32 → (Nat → Int32) → (Nat → Int32) → (Nat → Int32) → (Nat → Int32) → Prop) (Mst : Nat → Int32) (Mvf : Nat → Int32) (Mdn : Nat → Int32) (Mlf : Nat → Int32) (Mar : Nat → Int32) (r9 : Int32 → Int32 → Prop) (v1 : Int32) (v2 : Int32) : Prop :=
  (((8 : Int32) ≤ v2) →
    P v1 Mvf Mdn Mlf Mar) ∧
  ((¬ (8 : Int32) ≤ v2) →
    wp_X6_peopleIn (fun r_6 =>
      ((r_6 ≤ 0) →
        wp_X6_fullest_47 P Mst r9 v1 v2 (0 : Int32) Mvf Mdn Mlf Mar) ∧
      ((¬ r_6 ≤ 0) →
        ((v1 = (-106 : Int32)) →
          wp_X6_fullest_47 P Mst r9 v1 v2 (1 : Int32) Mvf Mdn Mlf Mar) ∧
        ((¬ v1 = (-106 : Int32)) →
          wp_X6_peopleIn (fun r_9 =>
            wp_X6_peopleIn (fun r_10 =>
              ((r_9 ≤ r_10) →
                wp_X6_fullest_47 P Mst r9 v1 v2 (0 : Int32) Mvf Mdn Mlf Mar) ∧
              ((¬ r_9 ≤ r_10) →
                wp_X6_fullest_47 P Mst r9 v1 v2 (1 : Int32) Mvf Mdn Mlf Mar)) Mst Mlf v1) Mst Mlf v2))) Mst Mlf v2)
def wp_X6_fullest_9 (P : Int32 → (Nat → Int32) → (Nat → Int32) → (Nat → Int32) → (Nat → Int32) → Prop) (Mst : Nat → Int32) (Mvf : Nat → Int32) (Mdn : Nat → Int32) (Mlf : Nat → Int32) (Mar : Nat → Int32) : Nat → Int32 → Int32 → Prop
  | 0 => fun _ _ => False
  | n + 1 => wp_X6_fullest_9F P Mst Mvf Mdn Mlf Mar (wp_X6_fullest_9 P Mst Mvf Mdn Mlf Mar n)
def wp_X6_fullest (P : Int32 → (Nat → Int32) → (Nat → Int32) → (Nat → Int32) → (Nat → Int32) → Prop) (Mst : Nat → Int32) (Mvf : Nat → Int32) (Mdn : Nat → Int32) (Mlf : Nat → Int32) (Mar : Nat → Int32) : Prop :=
  wp_X6_lay (fun Mvf_1 Mdn_2 Mlf_3 Mar_4 =>
    ∃ n : Nat, wp_X6_fullest_9 P Mst Mvf_1 Mdn_2 Mlf_3 Mar_4 n (-106 : Int32) (0 : Int32)) Mst Mvf Mdn Mlf Mar
def wp_X6_codeAt (P : Int32 → Prop) (x0 : Int64) (x2 : Int32) : Prop :=
  P (((((x0).toUInt64 >>> ((((8 : Int32) * x2)).toInt64.toUInt64 &&& Int64.toUInt64 63)).toInt64 &&& (255 : Int64))).toInt32)
def wp_X6_charactersIn_48F (P : Int32 → Prop) (x0 : Int64) (v2 : Int32) (r48 : Int32 → Int32 → Prop) (v3 : Int32) (v4 : Int32) : Prop :=
  ((v2 ≤ v4) →
    ((v3 = 0) →
      P (0 : Int32)) ∧
    ((¬ v3 = 0) →
      P v2)) ∧
  ((¬ v2 ≤ v4) →
    ((v3 = 0) →
      r48 (0 : Int32) (v4 + 1)) ∧
    ((¬ v3 = 0) →
      wp_X6_codeAt (fun r_9 =>
        wp_X6_within (fun r_10 =>
          ((r_10 = 0) →
            r48 (0 : Int32) (v4 + 1)) ∧
          ((¬ r_10 = 0) →
            r48 (1 : Int32) (v4 + 1))) r_9 (33 : Int32) (126 : Int32)) x0 v4))
def wp_X6_charactersIn_48 (P : Int32 → Prop) (x0 : Int64) (v2 : Int32) : Nat → Int32 → Int32 → Prop
  | 0 => fun _ _ => False
  | n + 1 => wp_X6_charactersIn_48F P x0 v2 (wp_X6_charactersIn_48 P x0 v2 n)
def wp_X6_charactersIn_22 (P : Int32 → Prop) (x0 : Int64) (v2 : Int32) : Prop :=
  ((v2 = (8 : Int32)) →
    ∃ n : Nat, wp_X6_charactersIn_48 P x0 v2 n (1 : Int32) (0 : Int32)) ∧
  ((¬ v2 = (8 : Int32)) →
    ((¬ (lg_cmp (((x0).toUInt64 >>> ((((8 : Int32) * v2)).toInt64.toUInt64 &&& Int64.toUInt64 63)).toInt64) (0 : Int64)) = 0) →
      ∃ n : Nat, wp_X6_charactersIn_48 P x0 v2 n (0 : Int32) (0 : Int32)) ∧
    (((lg_cmp (((x0).toUInt64 >>> ((((8 : Int32) * v2)).toInt64.toUInt64 &&& Int64.toUInt64 63)).toInt64) (0 : Int64)) = 0) →
      ∃ n : Nat, wp_X6_charactersIn_48 P x0 v2 n (1 : Int32) (0 : Int32)))
def wp_X6_charactersIn_2F (P : Int32 → Prop) (x0 : Int64) (r2 : Int32 → Prop) (v2 : Int32) : Prop :=
  (((8 : Int32) ≤ v2) →
    wp_X6_charactersIn_22 P x0 v2) ∧
  ((¬ (8 : Int32) ≤ v2) →
    wp_X6_codeAt (fun r_2 =>
      ((r_2 = 0) →
        wp_X6_charactersIn_22 P x0 v2) ∧
      ((¬ r_2 = 0) →
        r2 (v2 + 1))) x0 v2)
def wp_X6_charactersIn_2 (P : Int32 → Prop) (x0 : Int64) : Nat → Int32 → Prop
  | 0 => fun _ => False
  | n + 1 => wp_X6_charactersIn_2F P x0 (wp_X6_charactersIn_2 P x0 n)
def wp_X6_charactersIn (P : Int32 → Prop) (x0 : Int64) : Prop :=
  ∃ n : Nat, wp_X6_charactersIn_2 P x0 n (0 : Int32)
def wp_X6_put_31F (P : Int32 → (Nat → Int32) → Int32 → Prop) (x1 : Int64) (r31 : Int32 → (Nat → Int32) → Int32 → Prop) (v4 : Int32) (Mpd : Nat → Int32) (Mln : Int32) : Prop :=
  ((v4 < 0) →
    P Mln Mpd Mln) ∧
  ((¬ v4 < 0) →
    wp_X6_codeAt (fun r_5 =>
      vp_in Mln 60 ∧
      r31 (v4 + (-1)) (upd Mpd Mln.toNatClampNeg r_5) (Mln + (1 : Int32))) x1 v4)
def wp_X6_put_31 (P : Int32 → (Nat → Int32) → Int32 → Prop) (x1 : Int64) : Nat → Int32 → (Nat → Int32) → Int32 → Prop
  | 0 => fun _ _ _ => False
  | n + 1 => wp_X6_put_31F P x1 (wp_X6_put_31 P x1 n)
def wp_X6_put (P : Int32 → (Nat → Int32) → Int32 → Prop) (Mpd : Nat → Int32) (Mln : Int32) (x1 : Int64) : Prop :=
  wp_X6_charactersIn (fun r_1 =>
    ((¬ r_1 = 0) →
      (((Mln + r_1) ≤ (60 : Int32)) →
        ∃ n : Nat, wp_X6_put_31 P x1 n (r_1 - (1 : Int32)) Mpd Mln) ∧
      ((¬ (Mln + r_1) ≤ (60 : Int32)) →
        P (-104 : Int32) Mpd Mln)) ∧
    ((r_1 = 0) →
      P (-102 : Int32) Mpd Mln)) x1
def wp_X6_wipe (P : Int32 → Int32 → Prop) (Mln : Int32) : Prop :=
  P Mln (0 : Int32)
def wp_X6_next (P : Int32 → Prop) (Mpd : Nat → Int32) (Mln : Int32) (Mat : Int32) : Prop :=
  ((Mln ≤ Mat) →
    P (0 : Int32)) ∧
  ((¬ Mln ≤ Mat) →
    vp_in Mat 60 ∧
    P (Mpd Mat.toNatClampNeg))
def wp_X6_readsSign_36 (P : Int32 → Int32 → (Nat → Int32) → Prop) (Mpd : Nat → Int32) (Mln : Int32) (x1 : Int32) (x2 : Int32) (x3 : Int32) (v4 : Int32) (w0 : Int32) (w1 : Int32) (Mat : Int32) (Mit : Nat → Int32) : Prop :=
  vp_in w0 4 ∧
  ((v4 = 0) →
    g_b v4 ∧ P v4 (Mat + (0 : Int32)) (upd Mit w0.toNatClampNeg w1)) ∧
  ((¬ v4 = 0) →
    g_b v4 ∧ P v4 (Mat + (1 : Int32)) (upd Mit w0.toNatClampNeg w1))
def wp_X6_readsSign (P : Int32 → Int32 → (Nat → Int32) → Prop) (Mpd : Nat → Int32) (Mln : Int32) (Mat : Int32) (Mit : Nat → Int32) (x1 : Int32) (x2 : Int32) (x3 : Int32) : Prop :=
  wp_X6_next (fun r_1 =>
    wp_X6_within (fun r_2 =>
      ((r_2 = 0) →
        vp_in x1 4 ∧
        wp_X6_readsSign_36 P Mpd Mln x1 x2 x3 r_2 x1 (Mit x1.toNatClampNeg) Mat Mit) ∧
      ((¬ r_2 = 0) →
        wp_X6_next (fun r_5 =>
          wp_X6_readsSign_36 P Mpd Mln x1 x2 x3 r_2 x1 (r_5 - x2) Mat Mit) Mpd Mln Mat)) r_1 x2 x3) Mpd Mln Mat
def wp_X6_readsRider_94 (P : Int32 → Int32 → (Nat → Int32) → Prop) (Mpd : Nat → Int32) (Mln : Int32) (Mat : Int32) (Mit : Nat → Int32) : Prop :=
  wp_X6_next (fun r_22 =>
    ((r_22 = (120 : Int32)) →
      wp_X6_readsSign (fun r_26 Mat_24 Mit_25 =>
        g_b r_26 ∧ P r_26 Mat_24 (upd Mit_25 (3 : Int32).toNatClampNeg ((Mit_25 (3 : Int32).toNatClampNeg) + (1 : Int32)))) Mpd Mln (Mat + (1 : Int32)) (upd Mit (3 : Int32).toNatClampNeg (1 : Int32)) (3 : Int32) (49 : Int32) (52 : Int32)) ∧
    ((¬ r_22 = (120 : Int32)) →
      P (1 : Int32) Mat (upd Mit (3 : Int32).toNatClampNeg (1 : Int32)))) Mpd Mln Mat
def wp_X6_readsRider (P : Int32 → Int32 → (Nat → Int32) → Prop) (Mpd : Nat → Int32) (Mln : Int32) (Mat : Int32) (Mit : Nat → Int32) : Prop :=
  wp_X6_readsSign (fun r_3 Mat_1 Mit_2 =>
    ((r_3 = 0) →
      P (0 : Int32) Mat_1 Mit_2) ∧
    ((¬ r_3 = 0) →
      wp_X6_readsSign (fun r_7 Mat_5 Mit_6 =>
        ((r_7 = 0) →
          P (0 : Int32) Mat_5 Mit_6) ∧
        ((¬ r_7 = 0) →
          wp_X6_readsSign (fun r_11 Mat_9 Mit_10 =>
            ((¬ r_11 = 0) →
              (((Mit_10 (2 : Int32).toNatClampNeg) ≤ 0) →
                wp_X6_readsRider_94 P Mpd Mln Mat_9 Mit_10) ∧
              ((¬ (Mit_10 (2 : Int32).toNatClampNeg) ≤ 0) →
                wp_X6_next (fun r_15 =>
                  wp_X6_within (fun r_16 =>
                    ((r_16 = 0) →
                      wp_X6_readsRider_94 P Mpd Mln Mat_9 Mit_10) ∧
                    ((¬ r_16 = 0) →
                      wp_X6_next (fun r_19 =>
                        wp_X6_readsRider_94 P Mpd Mln (Mat_9 + (1 : Int32)) (upd Mit_10 (2 : Int32).toNatClampNeg ((((10 : Int32) * (Mit_10 (2 : Int32).toNatClampNeg)) + r_19) - (48 : Int32)))) Mpd Mln Mat_9)) r_15 (48 : Int32) (57 : Int32)) Mpd Mln Mat_9)) ∧
            ((r_11 = 0) →
              P (0 : Int32) Mat_9 Mit_10)) Mpd Mln Mat_5 Mit_6 (2 : Int32) (48 : Int32) (57 : Int32))) Mpd Mln Mat_1 Mit_2 (1 : Int32) (97 : Int32) (102 : Int32))) Mpd Mln Mat Mit (0 : Int32) (48 : Int32) (53 : Int32)
def wp_X6_findFault_5F (P : Int32 → Int32 → (Nat → Int32) → Prop) (Mpd : Nat → Int32) (Mln : Int32) (r5 : Int32 → (Nat → Int32) → Prop) (Mat : Int32) (Mit : Nat → Int32) : Prop :=
  wp_X6_readsRider (fun r_3 Mat_1 Mit_2 =>
    ((r_3 = 0) →
      P Mat_1 Mat_1 Mit_2) ∧
    ((¬ r_3 = 0) →
      ((¬ Mat_1 = Mln) →
        wp_X6_next (fun r_6 =>
          ((r_6 = (44 : Int32)) →
            r5 (Mat_1 + (1 : Int32)) Mit_2) ∧
          ((¬ r_6 = (44 : Int32)) →
            P Mat_1 Mat_1 Mit_2)) Mpd Mln Mat_1) ∧
      ((Mat_1 = Mln) →
        P (-106 : Int32) Mat_1 Mit_2))) Mpd Mln Mat Mit
def wp_X6_findFault_5 (P : Int32 → Int32 → (Nat → Int32) → Prop) (Mpd : Nat → Int32) (Mln : Int32) : Nat → Int32 → (Nat → Int32) → Prop
  | 0 => fun _ _ => False
  | n + 1 => wp_X6_findFault_5F P Mpd Mln (wp_X6_findFault_5 P Mpd Mln n)
def wp_X6_findFault (P : Int32 → Int32 → (Nat → Int32) → Prop) (Mpd : Nat → Int32) (Mln : Int32) (Mat : Int32) (Mit : Nat → Int32) : Prop :=
  ∃ n : Nat, wp_X6_findFault_5 P Mpd Mln n (0 : Int32) Mit
def wp_X6_ridersOfPad_4F (P : Int32 → Prop) (Mpd : Nat → Int32) (Mln : Int32) (r4 : Int32 → Int32 → Prop) (v1 : Int32) (v2 : Int32) : Prop :=
  ((Mln ≤ v2) →
    P v1) ∧
  ((¬ Mln ≤ v2) →
    vp_in v2 60 ∧
    ((¬ (Mpd v2.toNatClampNeg) = (44 : Int32)) →
      r4 (v1 + (0 : Int32)) (v2 + 1)) ∧
    (((Mpd v2.toNatClampNeg) = (44 : Int32)) →
      r4 (v1 + (1 : Int32)) (v2 + 1)))
def wp_X6_ridersOfPad_4 (P : Int32 → Prop) (Mpd : Nat → Int32) (Mln : Int32) : Nat → Int32 → Int32 → Prop
  | 0 => fun _ _ => False
  | n + 1 => wp_X6_ridersOfPad_4F P Mpd Mln (wp_X6_ridersOfPad_4 P Mpd Mln n)
def wp_X6_ridersOfPad (P : Int32 → Prop) (Mpd : Nat → Int32) (Mln : Int32) : Prop :=
  ∃ n : Nat, wp_X6_ridersOfPad_4 P Mpd Mln n (1 : Int32) (0 : Int32)
def wp_X6_read_100 (P : Int32 → (Nat → Int32) → (Nat → Int32) → Int32 → Int32 → Int32 → (Nat → Int32) → Prop) (Mpd : Nat → Int32) (Mst : Nat → Int32) (Mhi : Nat → Int32) (Mhn : Int32) (Mln : Int32) (Mat : Int32) (Mit : Nat → Int32) : Prop :=
  P (Mst (33 : Int32).toNatClampNeg) Mst Mhi Mhn (0 : Int32) Mat Mit
def wp_X6_read_41F (P : Int32 → (Nat → Int32) → (Nat → Int32) → Int32 → Int32 → Int32 → (Nat → Int32) → Prop) (Mpd : Nat → Int32) (Mhi : Nat → Int32) (Mhn : Int32) (Mln : Int32) (r41 : (Nat → Int32) → Int32 → (Nat → Int32) → Prop) (Mst : Nat → Int32) (Mat : Int32) (Mit : Nat → Int32) : Prop :=
  ((Mln ≤ Mat) →
    wp_X6_read_100 P Mpd Mst Mhi Mhn Mln Mat Mit) ∧
  ((¬ Mln ≤ Mat) →
    wp_X6_readsRider (fun r_13 Mat_11 Mit_12 =>
      ((r_13 = 0) →
        wp_X6_read_100 P Mpd Mst Mhi Mhn Mln Mat_11 Mit_12) ∧
      ((¬ r_13 = 0) →
        wp_X6_add (fun Mst_19 =>
          r41 Mst_19 (Mat_11 + (1 : Int32)) Mit_12) Mst (Mit_12 (0 : Int32).toNatClampNeg) (Mit_12 (1 : Int32).toNatClampNeg) (Mit_12 (2 : Int32).toNatClampNeg) (Mit_12 (3 : Int32).toNatClampNeg))) Mpd Mln Mat Mit)
def wp_X6_read_41 (P : Int32 → (Nat → Int32) → (Nat → Int32) → Int32 → Int32 → Int32 → (Nat → Int32) → Prop) (Mpd : Nat → Int32) (Mhi : Nat → Int32) (Mhn : Int32) (Mln : Int32) : Nat → (Nat → Int32) → Int32 → (Nat → Int32) → Prop
  | 0 => fun _ _ _ => False
  | n + 1 => wp_X6_read_41F P Mpd Mhi Mhn Mln (wp_X6_read_41 P Mpd Mhi Mhn Mln n)
def wp_X6_read (P : Int32 → (Nat → Int32) → (Nat → Int32) → Int32 → Int32 → Int32 → (Nat → Int32) → Prop) (Mst : Nat → Int32) (Mhi : Nat → Int32) (Mhn : Int32) (Mpd : Nat → Int32) (Mln : Int32) (Mat : Int32) (Mit : Nat → Int32) : Prop :=
  wp_X6_findFault (fun r_3 Mat_1 Mit_2 =>
    ((r_3 = (-106 : Int32)) →
      wp_X6_ridersOfPad (fun r_6 =>
        ((((Mst (33 : Int32).toNatClampNeg) + r_6) ≤ (24 : Int32)) →
          wp_X6_record (fun Mhi_8 Mhn_9 =>
            ∃ n : Nat, wp_X6_read_41 P Mpd Mhi_8 Mhn_9 Mln n Mst (0 : Int32) Mit_2) Mst Mhi Mhn) ∧
        ((¬ ((Mst (33 : Int32).toNatClampNeg) + r_6) ≤ (24 : Int32)) →
          P (-104 : Int32) Mst Mhi Mhn Mln Mat_1 Mit_2)) Mpd Mln) ∧
    ((¬ r_3 = (-106 : Int32)) →
      P (-103 : Int32) Mst Mhi Mhn Mln Mat_1 Mit_2)) Mpd Mln Mat Mit
def wp_X6_fault (P : Int32 → Int32 → (Nat → Int32) → Prop) (Mpd : Nat → Int32) (Mln : Int32) (Mat : Int32) (Mit : Nat → Int32) : Prop :=
  wp_X6_findFault (fun r_3 Mat_1 Mit_2 =>
    P r_3 Mat_1 Mit_2) Mpd Mln Mat Mit
