/-! ===== what the cells hold: State, Plan, Way, Pad, History; the reference ===== -/

def StT : Type := (Nat → Int32) × (Nat → Int32) × (Nat → Int32) × (Nat → Int32) × (Nat → Int32) × (Nat → Int32) × (Nat → Int32) × (Nat → Int32) × (Nat → Int32) × Int32
def mkSt (se : Nat → Int32) (la : Nat → Int32) (de : Nat → Int32) (le : Nat → Int32) (sa : Nat → Int32) (fl : Nat → Int32) (ar : Nat → Int32) (dr : Nat → Int32) (pe : Nat → Int32) (ri : Int32) : StT := (se, la, de, le, sa, fl, ar, dr, pe, ri)
def StT.se (x : StT) : Nat → Int32 := x.1
def StT.la (x : StT) : Nat → Int32 := x.2.1
def StT.de (x : StT) : Nat → Int32 := x.2.2.1
def StT.le (x : StT) : Nat → Int32 := x.2.2.2.1
def StT.sa (x : StT) : Nat → Int32 := x.2.2.2.2.1
def StT.fl (x : StT) : Nat → Int32 := x.2.2.2.2.2.1
def StT.ar (x : StT) : Nat → Int32 := x.2.2.2.2.2.2.1
def StT.dr (x : StT) : Nat → Int32 := x.2.2.2.2.2.2.2.1
def StT.pe (x : StT) : Nat → Int32 := x.2.2.2.2.2.2.2.2.1
def StT.ri (x : StT) : Int32 := x.2.2.2.2.2.2.2.2.2
def PlT : Type := (Nat → Int32) × (Nat → Int32) × (Nat → Int32) × (Nat → Int32) × (Nat → Int32) × Int32 × Int32 × Int32
def mkPl (od : Nat → Int32) (rd : Nat → Int32) (vn : Nat → Int32) (pn : Nat → Int32) (ao : Nat → Int32) (sr : Int32) (sp : Int32) (wt : Int32) : PlT := (od, rd, vn, pn, ao, sr, sp, wt)
def PlT.od (x : PlT) : Nat → Int32 := x.1
def PlT.rd (x : PlT) : Nat → Int32 := x.2.1
def PlT.vn (x : PlT) : Nat → Int32 := x.2.2.1
def PlT.pn (x : PlT) : Nat → Int32 := x.2.2.2.1
def PlT.ao (x : PlT) : Nat → Int32 := x.2.2.2.2.1
def PlT.sr (x : PlT) : Int32 := x.2.2.2.2.2.1
def PlT.sp (x : PlT) : Int32 := x.2.2.2.2.2.2.1
def PlT.wt (x : PlT) : Int32 := x.2.2.2.2.2.2.2
def WyT : Type := (Nat → Int32) × (Nat → Int32) × (Nat → Int32) × Int32
def mkWy (ky : Nat → Int32) (wp : Nat → Int32) (mi : Nat → Int32) (so : Int32) : WyT := (ky, wp, mi, so)
def WyT.ky (x : WyT) : Nat → Int32 := x.1
def WyT.wp (x : WyT) : Nat → Int32 := x.2.1
def WyT.mi (x : WyT) : Nat → Int32 := x.2.2.1
def WyT.so (x : WyT) : Int32 := x.2.2.2
def PdT : Type := (Nat → Int32) × Int32
def mkPd (co : Nat → Int32) (ln : Int32) : PdT := (co, ln)
def PdT.co (x : PdT) : Nat → Int32 := x.1
def PdT.ln (x : PdT) : Int32 := x.2
def updS (f : Nat → StT) (k : Nat) (x : StT) : Nat → StT := fun j => if j = k then x else f j
def HiT : Type := (Nat → StT) × Int32 × Int32
def mkHi (hs : Nat → StT) (ol sz : Int32) : HiT := (hs, ol, sz)
def HiT.hs (x : HiT) : Nat → StT := x.1
def HiT.ol (x : HiT) : Int32 := x.2.1
def HiT.sz (x : HiT) : Int32 := x.2.2
def cA34 (q : Nat → Nat) (cI : ClassId) (f : Nat → Int32) : va_W := [(q 0, .inl (cI, 34, .inl f))]
def cA24 (q : Nat → Nat) (cI : ClassId) (f : Nat → Int32) : va_W := [(q 0, .inl (cI, 24, .inl f))]
def cA16 (q : Nat → Nat) (cI : ClassId) (f : Nat → Int32) : va_W := [(q 0, .inl (cI, 16, .inl f))]
def cSt (q : Nat → Nat) (cI : ClassId) (se : Nat → Int32) (la : Nat → Int32) (de : Nat → Int32) (le : Nat → Int32) (sa : Nat → Int32) (fl : Nat → Int32) (ar : Nat → Int32) (dr : Nat → Int32) (pe : Nat → Int32) (ri : Int32) : va_W := [(q 0, .inr (3, [.ref (q 1), .ref (q 2), .ref (q 3), .ref (q 4), .ref (q 5), .ref (q 6), .ref (q 7), .ref (q 8), .ref (q 9), .int ri])), (q 1, .inl (cI, 5, .inl se)), (q 2, .inl (cI, 6, .inl la)), (q 3, .inl (cI, 6, .inl de)), (q 4, .inl (cI, 8, .inl le)), (q 5, .inl (cI, 8, .inl sa)), (q 6, .inl (cI, 24, .inl fl)), (q 7, .inl (cI, 24, .inl ar)), (q 8, .inl (cI, 24, .inl dr)), (q 9, .inl (cI, 24, .inl pe))]
def cPl (q : Nat → Nat) (cI : ClassId) (od : Nat → Int32) (rd : Nat → Int32) (vn : Nat → Int32) (pn : Nat → Int32) (ao : Nat → Int32) (sr : Int32) (sp : Int32) (wt : Int32) : va_W := [(q 0, .inr (2, [.ref (q 1), .ref (q 2), .ref (q 3), .ref (q 4), .ref (q 5), .int sr, .int sp, .int wt])), (q 1, .inl (cI, 24, .inl od)), (q 2, .inl (cI, 24, .inl rd)), (q 3, .inl (cI, 24, .inl vn)), (q 4, .inl (cI, 8, .inl pn)), (q 5, .inl (cI, 8, .inl ao))]
def cWy (q : Nat → Nat) (cI : ClassId) (ky : Nat → Int32) (wp : Nat → Int32) (mi : Nat → Int32) (so : Int32) : va_W := [(q 0, .inr (4, [.ref (q 1), .ref (q 2), .ref (q 3), .int so])), (q 1, .inl (cI, 24, .inl ky)), (q 2, .inl (cI, 24, .inl wp)), (q 3, .inl (cI, 24, .inl mi))]
def cPd (q : Nat → Nat) (cI : ClassId) (co : Nat → Int32) (ln : Int32) : va_W := [(q 0, .inr (1, [.ref (q 1), .int ln])), (q 1, .inl (cI, 60, .inl co))]
def cHi (qa : Nat → Nat) (qas : Nat → Nat → Nat) (cR : ClassId) (ol sz : Int32) : va_W := [(qa 0, .inr (0, [.ref (qa 1), .int ol, .int sz])), (qa 1, .inl (cR, 6, .inr (.inr (.inr (.inr (fun j => some (qas j 0))))))) ]
def cX (qx qn qp qw qt qu qd qh ql : Nat → Nat) : va_W := [(qx 0, .inr (5, [.ref (qn 0), .ref (qp 0), .ref (qw 0), .ref (qt 0), .ref (qu 0), .ref (qd 0), .ref (qh 0), .ref (ql 0)]))]
def wp_X5_isIn (P : Int32 → Prop) (x0 : Int32) (x1 : Int32) (x2 : Int32) : Prop :=
  ((x0 < x1) →
    P (0 : Int32)) ∧
  ((¬ x0 < x1) →
    ((x2 < x0) →
      P (0 : Int32)) ∧
    ((¬ x2 < x0) →
      P (1 : Int32)))
def wp_X3_copyFrom (P : (Nat → Int32) → (Nat → Int32) → (Nat → Int32) → (Nat → Int32) → (Nat → Int32) → (Nat → Int32) → (Nat → Int32) → (Nat → Int32) → (Nat → Int32) → Int32 → Prop) (o0 : StT) (o1 : StT) : Prop :=
  P o1.se o1.la o1.de o1.le o1.sa o1.fl o1.ar o1.dr o1.pe o1.ri
def wp_X0_record_32 (P : (Nat → StT) → Int32 → Int32 → Prop) (o0 : HiT) (o1 : StT) (hs : Nat → StT) (ol : Int32) (sz : Int32) : Prop :=
  vp_in ((ol + sz) - (ol + sz) / (6 : Int32) * (6 : Int32)) 6 ∧
  ∀ j_4 : Nat, j_4 < 6 → ((ol + sz) - (ol + sz) / (6 : Int32) * (6 : Int32)) = nI j_4 →
  wp_X3_copyFrom (fun se_25 la_26 de_27 le_28 sa_29 fl_30 ar_31 dr_32 pe_33 ri_34 =>
    P (updS hs j_4 (mkSt se_25 la_26 de_27 le_28 sa_29 fl_30 ar_31 dr_32 pe_33 ri_34)) ol (sz + (1 : Int32))) (hs j_4) o1
def wp_X0_record (P : (Nat → StT) → Int32 → Int32 → Prop) (o0 : HiT) (o1 : StT) : Prop :=
  ((o0.sz < (6 : Int32)) →
    wp_X0_record_32 P o0 o1 o0.hs o0.ol o0.sz) ∧
  ((¬ o0.sz < (6 : Int32)) →
    wp_X0_record_32 P o0 o1 o0.hs ((o0.ol + (1 : Int32)) - (o0.ol + (1 : Int32)) / (6 : Int32) * (6 : Int32)) (o0.sz - (1 : Int32)))
def wp_X3_flightReady (P : Int32 → Prop) (o0 : StT) (x1 : Int32) : Prop :=
  vp_in x1 6 ∧
  vp_in x1 6 ∧
  P (((o0.la x1.toNatClampNeg) + (o0.de x1.toNatClampNeg)) + (o0.se (0 : Int32).toNatClampNeg))
def wp_X3_riderReady (P : Int32 → Prop) (o0 : StT) (x1 : Int32) : Prop :=
  vp_in x1 24 ∧
  wp_X3_flightReady (fun r_2 =>
    P r_2) o0 (o0.fl x1.toNatClampNeg)
def wp_X2_lineUp_69 (P : (Nat → Int32) → (Nat → Int32) → Prop) (o0 : PlT) (o1 : StT) (r2 : Int32 → (Nat → Int32) → (Nat → Int32) → Prop) (v2 : Int32) (v3 : Int32) (od : Nat → Int32) (rd : Nat → Int32) : Prop :=
  vp_in v3 24 ∧
  r2 (v2 + 1) (upd od v3.toNatClampNeg v2) rd
def wp_X2_lineUp_23F (P : (Nat → Int32) → (Nat → Int32) → Prop) (o0 : PlT) (o1 : StT) (r2 : Int32 → (Nat → Int32) → (Nat → Int32) → Prop) (v2 : Int32) (rd : Nat → Int32) (r23 : Int32 → (Nat → Int32) → Prop) (v3 : Int32) (od : Nat → Int32) : Prop :=
  ((v3 ≤ 0) →
    wp_X2_lineUp_69 P o0 o1 r2 v2 v3 od rd) ∧
  ((¬ v3 ≤ 0) →
    vp_in (v3 - (1 : Int32)) 24 ∧
    vp_in (od (v3 - (1 : Int32)).toNatClampNeg) 24 ∧
    vp_in v2 24 ∧
    (((rd (od (v3 - (1 : Int32)).toNatClampNeg).toNatClampNeg) ≤ (rd v2.toNatClampNeg)) →
      wp_X2_lineUp_69 P o0 o1 r2 v2 v3 od rd) ∧
    ((¬ (rd (od (v3 - (1 : Int32)).toNatClampNeg).toNatClampNeg) ≤ (rd v2.toNatClampNeg)) →
      vp_in (v3 - (1 : Int32)) 24 ∧
      vp_in v3 24 ∧
      r23 (v3 + (-1)) (upd od v3.toNatClampNeg (od (v3 - (1 : Int32)).toNatClampNeg))))
def wp_X2_lineUp_23 (P : (Nat → Int32) → (Nat → Int32) → Prop) (o0 : PlT) (o1 : StT) (r2 : Int32 → (Nat → Int32) → (Nat → Int32) → Prop) (v2 : Int32) (rd : Nat → Int32) : Nat → Int32 → (Nat → Int32) → Prop
  | 0 => fun _ _ => False
  | n + 1 => wp_X2_lineUp_23F P o0 o1 r2 v2 rd (wp_X2_lineUp_23 P o0 o1 r2 v2 rd n)
def wp_X2_lineUp_2F (P : (Nat → Int32) → (Nat → Int32) → Prop) (o0 : PlT) (o1 : StT) (r2 : Int32 → (Nat → Int32) → (Nat → Int32) → Prop) (v2 : Int32) (od : Nat → Int32) (rd : Nat → Int32) : Prop :=
  ((o1.ri ≤ v2) →
    P od rd) ∧
  ((¬ o1.ri ≤ v2) →
    wp_X3_riderReady (fun r_2 =>
      vp_in v2 24 ∧
      ∃ n : Nat, wp_X2_lineUp_23 P o0 o1 r2 v2 (upd rd v2.toNatClampNeg r_2) n v2 od) o1 v2)
def wp_X2_lineUp_2 (P : (Nat → Int32) → (Nat → Int32) → Prop) (o0 : PlT) (o1 : StT) : Nat → Int32 → (Nat → Int32) → (Nat → Int32) → Prop
  | 0 => fun _ _ _ => False
  | n + 1 => wp_X2_lineUp_2F P o0 o1 (wp_X2_lineUp_2 P o0 o1 n)
def wp_X2_lineUp (P : (Nat → Int32) → (Nat → Int32) → Prop) (o0 : PlT) (o1 : StT) : Prop :=
  ∃ n : Nat, wp_X2_lineUp_2 P o0 o1 n (0 : Int32) o0.od o0.rd
def wp_J6_bitCount_0f7a4 (P : Int32 → Prop) (x0 : Int32) : Prop :=
  ∀ y_1 : Int32, y_1 = (x0 - (((x0).toUInt32 >>> (((1 : Int32)).toUInt32 &&& Int32.toUInt32 31)).toInt32 &&& (1431655765 : Int32))) →
  ∀ y_2 : Int32, y_2 = ((y_1 &&& (858993459 : Int32)) + (((y_1).toUInt32 >>> (((2 : Int32)).toUInt32 &&& Int32.toUInt32 31)).toInt32 &&& (858993459 : Int32))) →
  ∀ y_3 : Int32, y_3 = ((y_2 + ((y_2).toUInt32 >>> (((4 : Int32)).toUInt32 &&& Int32.toUInt32 31)).toInt32) &&& (252645135 : Int32)) →
  ∀ y_4 : Int32, y_4 = (y_3 + ((y_3).toUInt32 >>> (((8 : Int32)).toUInt32 &&& Int32.toUInt32 31)).toInt32) →
  ∀ y_5 : Int32, y_5 = (y_4 + ((y_4).toUInt32 >>> (((16 : Int32)).toUInt32 &&& Int32.toUInt32 31)).toInt32) →
  P (y_5 &&& (63 : Int32))
def wp_X2_takes (P : Int32 → Prop) (o0 : PlT) (o1 : StT) (x2 : Int32) (x3 : Int32) : Prop :=
  vp_in x2 8 ∧
  vp_in x3 24 ∧
  ∀ y_3 : Int32, y_3 = ((o1.le x2.toNatClampNeg) - (o0.rd x3.toNatClampNeg)) →
  wp_X5_isIn (fun r_5 =>
    ((¬ r_5 = 0) →
      vp_in x2 8 ∧
      vp_in x3 24 ∧
      vp_in x2 8 ∧
      ((((o0.pn x2.toNatClampNeg) + (o1.pe x3.toNatClampNeg)) ≤ (o1.sa x2.toNatClampNeg)) →
        vp_in x2 8 ∧
        vp_in x3 24 ∧
        ∀ y_13 : Int32, y_13 = ((o0.ao x2.toNatClampNeg) ||| ((1 : Int32) <<< ((o1.ar x3.toNatClampNeg) &&& 31))) →
        wp_J6_bitCount_0f7a4 (fun r_14 =>
          (((o1.se (2 : Int32).toNatClampNeg) < r_14) →
            P (0 : Int32)) ∧
          ((¬ (o1.se (2 : Int32).toNatClampNeg) < r_14) →
            P (1 : Int32))) y_13) ∧
      ((¬ ((o0.pn x2.toNatClampNeg) + (o1.pe x3.toNatClampNeg)) ≤ (o1.sa x2.toNatClampNeg)) →
        P (0 : Int32))) ∧
    ((r_5 = 0) →
      P (0 : Int32))) y_3 (0 : Int32) (o1.se (1 : Int32).toNatClampNeg)
def wp_X2_firstVanFor_39 (P : Int32 → Prop) (o0 : PlT) (o1 : StT) (x2 : Int32) (r9 : Int32 → Int32 → Int32 → Prop) (v3 : Int32) (v4 : Int32) (v5 : Int32) (w0 : Int32) : Prop :=
  ((w0 = 0) →
    r9 v3 v4 (v5 + 1)) ∧
  ((¬ w0 = 0) →
    wp_X2_takes (fun r_6 =>
      ((r_6 = 0) →
        r9 v3 v4 (v5 + 1)) ∧
      ((¬ r_6 = 0) →
        vp_in v5 8 ∧
        r9 v5 (o1.le v5.toNatClampNeg) (v5 + 1))) o0 o1 v5 x2)
def wp_X2_firstVanFor_9F (P : Int32 → Prop) (o0 : PlT) (o1 : StT) (x2 : Int32) (r9 : Int32 → Int32 → Int32 → Prop) (v3 : Int32) (v4 : Int32) (v5 : Int32) : Prop :=
  (((8 : Int32) ≤ v5) →
    P v3) ∧
  ((¬ (8 : Int32) ≤ v5) →
    ((v3 = (-106 : Int32)) →
      wp_X2_firstVanFor_39 P o0 o1 x2 r9 v3 v4 v5 (1 : Int32)) ∧
    ((¬ v3 = (-106 : Int32)) →
      vp_in v5 8 ∧
      ((v4 ≤ (o1.le v5.toNatClampNeg)) →
        wp_X2_firstVanFor_39 P o0 o1 x2 r9 v3 v4 v5 (0 : Int32)) ∧
      ((¬ v4 ≤ (o1.le v5.toNatClampNeg)) →
        wp_X2_firstVanFor_39 P o0 o1 x2 r9 v3 v4 v5 (1 : Int32))))
def wp_X2_firstVanFor_9 (P : Int32 → Prop) (o0 : PlT) (o1 : StT) (x2 : Int32) : Nat → Int32 → Int32 → Int32 → Prop
  | 0 => fun _ _ _ => False
  | n + 1 => wp_X2_firstVanFor_9F P o0 o1 x2 (wp_X2_firstVanFor_9 P o0 o1 x2 n)
def wp_X2_firstVanFor (P : Int32 → Prop) (o0 : PlT) (o1 : StT) (x2 : Int32) : Prop :=
  ∃ n : Nat, wp_X2_firstVanFor_9 P o0 o1 x2 n (-106 : Int32) (0 : Int32) (0 : Int32)
def wp_X5_isVan (P : Int32 → Prop) (x0 : Int32) : Prop :=
  wp_X5_isIn (fun r_1 =>
    g_b r_1 ∧ P r_1) x0 (0 : Int32) (7 : Int32)
def wp_X2_boardOne (P : (Nat → Int32) → (Nat → Int32) → (Nat → Int32) → Int32 → Int32 → Int32 → Prop) (o0 : PlT) (o1 : StT) (x2 : Int32) : Prop :=
  vp_in x2 24 ∧
  wp_X2_firstVanFor (fun r_2 =>
    vp_in x2 24 ∧
    wp_X5_isVan (fun r_4 =>
      ((¬ r_4 = 0) →
        vp_in r_2 8 ∧
        vp_in r_2 8 ∧
        vp_in r_2 8 ∧
        vp_in x2 24 ∧
        vp_in r_2 8 ∧
        vp_in r_2 8 ∧
        vp_in x2 24 ∧
        P (upd o0.vn x2.toNatClampNeg r_2) (upd o0.pn r_2.toNatClampNeg ((o0.pn r_2.toNatClampNeg) + (o1.pe x2.toNatClampNeg))) (upd o0.ao r_2.toNatClampNeg ((o0.ao r_2.toNatClampNeg) ||| ((1 : Int32) <<< ((o1.ar x2.toNatClampNeg) &&& 31)))) o0.sr o0.sp (o0.wt + ((o1.pe x2.toNatClampNeg) * ((o1.le r_2.toNatClampNeg) - (o0.rd x2.toNatClampNeg))))) ∧
      ((r_4 = 0) →
        P (upd o0.vn x2.toNatClampNeg r_2) o0.pn o0.ao (o0.sr + (1 : Int32)) (o0.sp + (o1.pe x2.toNatClampNeg)) o0.wt)) r_2) o0 o1 x2
def wp_X2_board_45F (P : (Nat → Int32) → (Nat → Int32) → (Nat → Int32) → Int32 → Int32 → Int32 → Prop) (o0 : PlT) (o1 : StT) (r45 : Int32 → (Nat → Int32) → (Nat → Int32) → (Nat → Int32) → Int32 → Int32 → Int32 → Prop) (v2 : Int32) (vn : Nat → Int32) (pn : Nat → Int32) (ao : Nat → Int32) (sr : Int32) (sp : Int32) (wt : Int32) : Prop :=
  ((o1.ri ≤ v2) →
    P vn pn ao sr sp wt) ∧
  ((¬ o1.ri ≤ v2) →
    vp_in v2 24 ∧
    wp_X2_boardOne (fun vn_6 pn_7 ao_8 sr_9 sp_10 wt_11 =>
      r45 (v2 + 1) vn_6 pn_7 ao_8 sr_9 sp_10 wt_11) (mkPl o0.od o0.rd vn pn ao sr sp wt) o1 (o0.od v2.toNatClampNeg))
def wp_X2_board_45 (P : (Nat → Int32) → (Nat → Int32) → (Nat → Int32) → Int32 → Int32 → Int32 → Prop) (o0 : PlT) (o1 : StT) : Nat → Int32 → (Nat → Int32) → (Nat → Int32) → (Nat → Int32) → Int32 → Int32 → Int32 → Prop
  | 0 => fun _ _ _ _ _ _ _ => False
  | n + 1 => wp_X2_board_45F P o0 o1 (wp_X2_board_45 P o0 o1 n)
def wp_X2_board_2F (P : (Nat → Int32) → (Nat → Int32) → (Nat → Int32) → Int32 → Int32 → Int32 → Prop) (o0 : PlT) (o1 : StT) (vn : Nat → Int32) (sr : Int32) (sp : Int32) (wt : Int32) (r2 : Int32 → (Nat → Int32) → (Nat → Int32) → Prop) (v2 : Int32) (pn : Nat → Int32) (ao : Nat → Int32) : Prop :=
  (((8 : Int32) ≤ v2) →
    ∃ n : Nat, wp_X2_board_45 P o0 o1 n (0 : Int32) vn pn ao (0 : Int32) (0 : Int32) (0 : Int32)) ∧
  ((¬ (8 : Int32) ≤ v2) →
    vp_in v2 8 ∧
    vp_in v2 8 ∧
    r2 (v2 + 1) (upd pn v2.toNatClampNeg (0 : Int32)) (upd ao v2.toNatClampNeg (0 : Int32)))
def wp_X2_board_2 (P : (Nat → Int32) → (Nat → Int32) → (Nat → Int32) → Int32 → Int32 → Int32 → Prop) (o0 : PlT) (o1 : StT) (vn : Nat → Int32) (sr : Int32) (sp : Int32) (wt : Int32) : Nat → Int32 → (Nat → Int32) → (Nat → Int32) → Prop
  | 0 => fun _ _ _ => False
  | n + 1 => wp_X2_board_2F P o0 o1 vn sr sp wt (wp_X2_board_2 P o0 o1 vn sr sp wt n)
def wp_X2_board (P : (Nat → Int32) → (Nat → Int32) → (Nat → Int32) → Int32 → Int32 → Int32 → Prop) (o0 : PlT) (o1 : StT) : Prop :=
  ∃ n : Nat, wp_X2_board_2 P o0 o1 o0.vn o0.sr o0.sp o0.wt n (0 : Int32) o0.pn o0.ao
def wp_X2_make (P : (Nat → Int32) → (Nat → Int32) → (Nat → Int32) → (Nat → Int32) → (Nat → Int32) → Int32 → Int32 → Int32 → Prop) (o0 : PlT) (o1 : StT) : Prop :=
  wp_X2_lineUp (fun od_1 rd_2 =>
    wp_X2_board (fun vn_3 pn_4 ao_5 sr_6 sp_7 wt_8 =>
      P od_1 rd_2 vn_3 pn_4 ao_5 sr_6 sp_7 wt_8) (mkPl od_1 rd_2 o0.vn o0.pn o0.ao o0.sr o0.sp o0.wt) o1) o0 o1
def wp_X5_set (P : Int32 → (Nat → Int32) → (Nat → Int32) → (Nat → Int32) → (Nat → Int32) → (Nat → Int32) → (Nat → Int32) → Int32 → Int32 → Int32 → (Nat → StT) → Int32 → Int32 → Prop) (now : StT) (pln : PlT) (his : HiT) (x1 : Int32) (x2 : Int32) : Prop :=
  wp_X5_isIn (fun r_1 =>
    ((¬ r_1 = 0) →
      vp_in x1 5 ∧
      vp_in x1 5 ∧
      wp_X5_isIn (fun r_9 =>
        ((¬ r_9 = 0) →
          vp_in x1 5 ∧
          wp_X0_record (fun hs_12 ol_13 sz_14 =>
            vp_in x1 5 ∧
            wp_X2_make (fun od_16 rd_17 vn_18 pn_19 ao_20 sr_21 sp_22 wt_23 =>
              P (now.se x1.toNatClampNeg) (upd now.se x1.toNatClampNeg x2) od_16 rd_17 vn_18 pn_19 ao_20 sr_21 sp_22 wt_23 hs_12 ol_13 sz_14) pln (mkSt (upd now.se x1.toNatClampNeg x2) now.la now.de now.le now.sa now.fl now.ar now.dr now.pe now.ri)) his now) ∧
        ((r_9 = 0) →
          P (-102 : Int32) now.se pln.od pln.rd pln.vn pln.pn pln.ao pln.sr pln.sp pln.wt his.hs his.ol his.sz)) x2 (g_least x1.toNatClampNeg) (g_most x1.toNatClampNeg)) ∧
    ((r_1 = 0) →
      P (-102 : Int32) now.se pln.od pln.rd pln.vn pln.pn pln.ao pln.sr pln.sp pln.wt his.hs his.ol his.sz)) x1 (0 : Int32) (4 : Int32)
def wp_X5_isFlight (P : Int32 → Prop) (x0 : Int32) : Prop :=
  wp_X5_isIn (fun r_1 =>
    g_b r_1 ∧ P r_1) x0 (0 : Int32) (5 : Int32)
def wp_X5_land (P : Int32 → (Nat → Int32) → (Nat → Int32) → (Nat → Int32) → (Nat → Int32) → (Nat → Int32) → (Nat → Int32) → Int32 → Int32 → Int32 → (Nat → StT) → Int32 → Int32 → Prop) (now : StT) (pln : PlT) (his : HiT) (x1 : Int32) (x2 : Int32) : Prop :=
  wp_X5_isFlight (fun r_1 =>
    ((¬ r_1 = 0) →
      wp_X5_isIn (fun r_3 =>
        ((¬ r_3 = 0) →
          vp_in x1 6 ∧
          wp_X0_record (fun hs_6 ol_7 sz_8 =>
            vp_in x1 6 ∧
            wp_X2_make (fun od_10 rd_11 vn_12 pn_13 ao_14 sr_15 sp_16 wt_17 =>
              P (now.la x1.toNatClampNeg) (upd now.la x1.toNatClampNeg x2) od_10 rd_11 vn_12 pn_13 ao_14 sr_15 sp_16 wt_17 hs_6 ol_7 sz_8) pln (mkSt now.se (upd now.la x1.toNatClampNeg x2) now.de now.le now.sa now.fl now.ar now.dr now.pe now.ri)) his now) ∧
        ((r_3 = 0) →
          P (-102 : Int32) now.la pln.od pln.rd pln.vn pln.pn pln.ao pln.sr pln.sp pln.wt his.hs his.ol his.sz)) x2 (0 : Int32) (1200 : Int32)) ∧
    ((r_1 = 0) →
      P (-101 : Int32) now.la pln.od pln.rd pln.vn pln.pn pln.ao pln.sr pln.sp pln.wt his.hs his.ol his.sz)) x1
def wp_X5_isDelay (P : Int32 → Prop) (x0 : Int32) : Prop :=
  wp_X5_isIn (fun r_1 =>
    g_b r_1 ∧ P r_1) x0 (-30 : Int32) (300 : Int32)
def wp_X5_delay (P : Int32 → (Nat → Int32) → (Nat → Int32) → (Nat → Int32) → (Nat → Int32) → (Nat → Int32) → (Nat → Int32) → Int32 → Int32 → Int32 → (Nat → StT) → Int32 → Int32 → Prop) (now : StT) (pln : PlT) (his : HiT) (x1 : Int32) (x2 : Int32) : Prop :=
  wp_X5_isFlight (fun r_1 =>
    ((¬ r_1 = 0) →
      wp_X5_isDelay (fun r_3 =>
        ((¬ r_3 = 0) →
          wp_X0_record (fun hs_5 ol_6 sz_7 =>
            vp_in x1 6 ∧
            wp_X2_make (fun od_9 rd_10 vn_11 pn_12 ao_13 sr_14 sp_15 wt_16 =>
              wp_X3_flightReady (fun r_17 =>
                P r_17 (upd now.de x1.toNatClampNeg x2) od_9 rd_10 vn_11 pn_12 ao_13 sr_14 sp_15 wt_16 hs_5 ol_6 sz_7) (mkSt now.se now.la (upd now.de x1.toNatClampNeg x2) now.le now.sa now.fl now.ar now.dr now.pe now.ri) x1) pln (mkSt now.se now.la (upd now.de x1.toNatClampNeg x2) now.le now.sa now.fl now.ar now.dr now.pe now.ri)) his now) ∧
        ((r_3 = 0) →
          P (-102 : Int32) now.de pln.od pln.rd pln.vn pln.pn pln.ao pln.sr pln.sp pln.wt his.hs his.ol his.sz)) x2) ∧
    ((r_1 = 0) →
      P (-101 : Int32) now.de pln.od pln.rd pln.vn pln.pn pln.ao pln.sr pln.sp pln.wt his.hs his.ol his.sz)) x1
def wp_X5_van (P : Int32 → (Nat → Int32) → (Nat → Int32) → (Nat → Int32) → (Nat → Int32) → (Nat → Int32) → (Nat → Int32) → (Nat → Int32) → Int32 → Int32 → Int32 → (Nat → StT) → Int32 → Int32 → Prop) (now : StT) (pln : PlT) (his : HiT) (x1 : Int32) (x2 : Int32) (x3 : Int32) : Prop :=
  wp_X5_isVan (fun r_1 =>
    ((¬ r_1 = 0) →
      wp_X5_isIn (fun r_3 =>
        ((r_3 = 0) →
          P (-102 : Int32) now.le now.sa pln.od pln.rd pln.vn pln.pn pln.ao pln.sr pln.sp pln.wt his.hs his.ol his.sz) ∧
        ((¬ r_3 = 0) →
          wp_X5_isIn (fun r_5 =>
            ((¬ r_5 = 0) →
              wp_X0_record (fun hs_7 ol_8 sz_9 =>
                vp_in x1 8 ∧
                vp_in x1 8 ∧
                wp_X2_make (fun od_12 rd_13 vn_14 pn_15 ao_16 sr_17 sp_18 wt_19 =>
                  P sp_18 (upd now.le x1.toNatClampNeg x2) (upd now.sa x1.toNatClampNeg x3) od_12 rd_13 vn_14 pn_15 ao_16 sr_17 sp_18 wt_19 hs_7 ol_8 sz_9) pln (mkSt now.se now.la now.de (upd now.le x1.toNatClampNeg x2) (upd now.sa x1.toNatClampNeg x3) now.fl now.ar now.dr now.pe now.ri)) his now) ∧
            ((r_5 = 0) →
              P (-102 : Int32) now.le now.sa pln.od pln.rd pln.vn pln.pn pln.ao pln.sr pln.sp pln.wt his.hs his.ol his.sz)) x3 (0 : Int32) (12 : Int32))) x2 (0 : Int32) (1500 : Int32)) ∧
    ((r_1 = 0) →
      P (-101 : Int32) now.le now.sa pln.od pln.rd pln.vn pln.pn pln.ao pln.sr pln.sp pln.wt his.hs his.ol his.sz)) x1
def wp_X3_addRider (P : (Nat → Int32) → (Nat → Int32) → (Nat → Int32) → (Nat → Int32) → Int32 → Prop) (o0 : StT) (x1 : Int32) (x2 : Int32) (x3 : Int32) (x4 : Int32) : Prop :=
  ((o0.ri < (24 : Int32)) →
    vp_in o0.ri 24 ∧
    vp_in o0.ri 24 ∧
    vp_in o0.ri 24 ∧
    vp_in o0.ri 24 ∧
    P (upd o0.fl o0.ri.toNatClampNeg x1) (upd o0.ar o0.ri.toNatClampNeg x2) (upd o0.dr o0.ri.toNatClampNeg x3) (upd o0.pe o0.ri.toNatClampNeg x4) (o0.ri + (1 : Int32))) ∧
  ((¬ o0.ri < (24 : Int32)) →
    P o0.fl o0.ar o0.dr o0.pe o0.ri)
def wp_X5_ride (P : Int32 → (Nat → Int32) → (Nat → Int32) → (Nat → Int32) → (Nat → Int32) → Int32 → (Nat → Int32) → (Nat → Int32) → (Nat → Int32) → (Nat → Int32) → (Nat → Int32) → Int32 → Int32 → Int32 → (Nat → StT) → Int32 → Int32 → Prop) (now : StT) (pln : PlT) (his : HiT) (x1 : Int32) (x2 : Int32) (x3 : Int32) (x4 : Int32) : Prop :=
  wp_X5_isFlight (fun r_1 =>
    ((r_1 = 0) →
      P (-101 : Int32) now.fl now.ar now.dr now.pe now.ri pln.od pln.rd pln.vn pln.pn pln.ao pln.sr pln.sp pln.wt his.hs his.ol his.sz) ∧
    ((¬ r_1 = 0) →
      wp_X5_isIn (fun r_3 =>
        ((¬ r_3 = 0) →
          wp_X5_isIn (fun r_5 =>
            ((r_5 = 0) →
              P (-102 : Int32) now.fl now.ar now.dr now.pe now.ri pln.od pln.rd pln.vn pln.pn pln.ao pln.sr pln.sp pln.wt his.hs his.ol his.sz) ∧
            ((¬ r_5 = 0) →
              wp_X5_isIn (fun r_7 =>
                ((¬ r_7 = 0) →
                  ((now.ri < (24 : Int32)) →
                    wp_X0_record (fun hs_10 ol_11 sz_12 =>
                      wp_X3_addRider (fun fl_13 ar_14 dr_15 pe_16 ri_17 =>
                        wp_X2_make (fun od_18 rd_19 vn_20 pn_21 ao_22 sr_23 sp_24 wt_25 =>
                          P (ri_17 - (1 : Int32)) fl_13 ar_14 dr_15 pe_16 ri_17 od_18 rd_19 vn_20 pn_21 ao_22 sr_23 sp_24 wt_25 hs_10 ol_11 sz_12) pln (mkSt now.se now.la now.de now.le now.sa fl_13 ar_14 dr_15 pe_16 ri_17)) now x1 x2 x3 x4) his now) ∧
                  ((¬ now.ri < (24 : Int32)) →
                    P (-104 : Int32) now.fl now.ar now.dr now.pe now.ri pln.od pln.rd pln.vn pln.pn pln.ao pln.sr pln.sp pln.wt his.hs his.ol his.sz)) ∧
                ((r_7 = 0) →
                  P (-102 : Int32) now.fl now.ar now.dr now.pe now.ri pln.od pln.rd pln.vn pln.pn pln.ao pln.sr pln.sp pln.wt his.hs his.ol his.sz)) x4 (1 : Int32) (4 : Int32))) x3 (0 : Int32) (99 : Int32)) ∧
        ((r_3 = 0) →
          P (-101 : Int32) now.fl now.ar now.dr now.pe now.ri pln.od pln.rd pln.vn pln.pn pln.ao pln.sr pln.sp pln.wt his.hs his.ol his.sz)) x2 (0 : Int32) (5 : Int32))) x1
def wp_X5_isRider (P : Int32 → Prop) (now : StT) (x1 : Int32) : Prop :=
  wp_X5_isIn (fun r_1 =>
    g_b r_1 ∧ P r_1) x1 (0 : Int32) (now.ri - (1 : Int32))
def wp_X3_stopKey (P : Int32 → Prop) (o0 : StT) (x1 : Int32) : Prop :=
  vp_in x1 24 ∧
  vp_in x1 24 ∧
  P (((o0.ar x1.toNatClampNeg) * (100 : Int32)) + (o0.dr x1.toNatClampNeg))
def wp_X2_shares (P : Int32 → Prop) (o0 : PlT) (o1 : StT) (x2 : Int32) (x3 : Int32) (x4 : Int32) : Prop :=
  vp_in x2 24 ∧
  vp_in x3 24 ∧
  ((¬ (o0.vn x2.toNatClampNeg) = (o0.vn x3.toNatClampNeg)) →
    P (0 : Int32)) ∧
  (((o0.vn x2.toNatClampNeg) = (o0.vn x3.toNatClampNeg)) →
    ((x4 = 0) →
      P (1 : Int32)) ∧
    ((¬ x4 = 0) →
      wp_X3_stopKey (fun r_5 =>
        wp_X3_stopKey (fun r_6 =>
          ((¬ r_5 = r_6) →
            P (0 : Int32)) ∧
          ((r_5 = r_6) →
            P (1 : Int32))) o1 x3) o1 x2))
def wp_X2_share_71F (P : Int32 → Prop) (o0 : PlT) (o1 : StT) (x2 : Int32) (x3 : Int32) (x4 : Int32) (v5 : Int32) (v6 : Int32) (r71 : Int32 → Int32 → Int32 → Prop) (v7 : Int32) (v8 : Int32) (v9 : Int32) : Prop :=
  ((o1.ri ≤ v9) →
    vp_in x2 24 ∧
    ¬ v6 = 0 ∧
    ((v7 ≤ v8) →
      P ((v5 * (o1.pe x2.toNatClampNeg)) / v6)) ∧
    ((¬ v7 ≤ v8) →
      P (((v5 * (o1.pe x2.toNatClampNeg)) / v6) + (1 : Int32)))) ∧
  ((¬ o1.ri ≤ v9) →
    wp_X2_shares (fun r_11 =>
      ((r_11 = 0) →
        r71 v7 v8 (v9 + 1)) ∧
      ((¬ r_11 = 0) →
        vp_in v9 24 ∧
        ¬ v6 = 0 ∧
        ((x2 ≤ v9) →
          r71 (v7 - ((v5 * (o1.pe v9.toNatClampNeg)) / v6)) (v8 + (0 : Int32)) (v9 + 1)) ∧
        ((¬ x2 ≤ v9) →
          r71 (v7 - ((v5 * (o1.pe v9.toNatClampNeg)) / v6)) (v8 + (1 : Int32)) (v9 + 1)))) o0 o1 x2 v9 x4)
def wp_X2_share_71 (P : Int32 → Prop) (o0 : PlT) (o1 : StT) (x2 : Int32) (x3 : Int32) (x4 : Int32) (v5 : Int32) (v6 : Int32) : Nat → Int32 → Int32 → Int32 → Prop
  | 0 => fun _ _ _ => False
  | n + 1 => wp_X2_share_71F P o0 o1 x2 x3 x4 v5 v6 (wp_X2_share_71 P o0 o1 x2 x3 x4 v5 v6 n)
def wp_X2_share_14F (P : Int32 → Prop) (o0 : PlT) (o1 : StT) (x2 : Int32) (x3 : Int32) (x4 : Int32) (v5 : Int32) (r14 : Int32 → Int32 → Prop) (v6 : Int32) (v7 : Int32) : Prop :=
  ((o1.ri ≤ v7) →
    ((0 < v6) →
      ∃ n : Nat, wp_X2_share_71 P o0 o1 x2 x3 x4 v5 v6 n v5 (0 : Int32) (0 : Int32)) ∧
    ((¬ 0 < v6) →
      P (0 : Int32))) ∧
  ((¬ o1.ri ≤ v7) →
    wp_X2_shares (fun r_4 =>
      ((r_4 = 0) →
        r14 v6 (v7 + 1)) ∧
      ((¬ r_4 = 0) →
        vp_in v7 24 ∧
        r14 (v6 + (o1.pe v7.toNatClampNeg)) (v7 + 1))) o0 o1 x2 v7 x4)
def wp_X2_share_14 (P : Int32 → Prop) (o0 : PlT) (o1 : StT) (x2 : Int32) (x3 : Int32) (x4 : Int32) (v5 : Int32) : Nat → Int32 → Int32 → Prop
  | 0 => fun _ _ => False
  | n + 1 => wp_X2_share_14F P o0 o1 x2 x3 x4 v5 (wp_X2_share_14 P o0 o1 x2 x3 x4 v5 n)
def wp_X2_share (P : Int32 → Prop) (o0 : PlT) (o1 : StT) (x2 : Int32) (x3 : Int32) (x4 : Int32) : Prop :=
  vp_in x3 5 ∧
  ∃ n : Nat, wp_X2_share_14 P o0 o1 x2 x3 x4 (o1.se x3.toNatClampNeg) n (0 : Int32) (0 : Int32)
def wp_X2_fare (P : Int32 → Prop) (o0 : PlT) (o1 : StT) (x2 : Int32) : Prop :=
  vp_in x2 24 ∧
  ((¬ (o0.vn x2.toNatClampNeg) = (-106 : Int32)) →
    wp_X2_share (fun r_3 =>
      wp_X2_share (fun r_4 =>
        P (r_3 + r_4)) o0 o1 x2 (4 : Int32) (1 : Int32)) o0 o1 x2 (3 : Int32) (0 : Int32)) ∧
  (((o0.vn x2.toNatClampNeg) = (-106 : Int32)) →
    P (0 : Int32))
def wp_X3_removeRider_2F (P : (Nat → Int32) → (Nat → Int32) → (Nat → Int32) → (Nat → Int32) → Int32 → Prop) (o0 : StT) (x1 : Int32) (ri : Int32) (r2 : Int32 → (Nat → Int32) → (Nat → Int32) → (Nat → Int32) → (Nat → Int32) → Prop) (v2 : Int32) (fl : Nat → Int32) (ar : Nat → Int32) (dr : Nat → Int32) (pe : Nat → Int32) : Prop :=
  (((ri - (1 : Int32)) ≤ v2) →
    P fl ar dr pe (ri - (1 : Int32))) ∧
  ((¬ (ri - (1 : Int32)) ≤ v2) →
    vp_in (v2 + (1 : Int32)) 24 ∧
    vp_in v2 24 ∧
    vp_in (v2 + (1 : Int32)) 24 ∧
    vp_in v2 24 ∧
    vp_in (v2 + (1 : Int32)) 24 ∧
    vp_in v2 24 ∧
    vp_in (v2 + (1 : Int32)) 24 ∧
    vp_in v2 24 ∧
    r2 (v2 + 1) (upd fl v2.toNatClampNeg (fl (v2 + (1 : Int32)).toNatClampNeg)) (upd ar v2.toNatClampNeg (ar (v2 + (1 : Int32)).toNatClampNeg)) (upd dr v2.toNatClampNeg (dr (v2 + (1 : Int32)).toNatClampNeg)) (upd pe v2.toNatClampNeg (pe (v2 + (1 : Int32)).toNatClampNeg)))
def wp_X3_removeRider_2 (P : (Nat → Int32) → (Nat → Int32) → (Nat → Int32) → (Nat → Int32) → Int32 → Prop) (o0 : StT) (x1 : Int32) (ri : Int32) : Nat → Int32 → (Nat → Int32) → (Nat → Int32) → (Nat → Int32) → (Nat → Int32) → Prop
  | 0 => fun _ _ _ _ _ => False
  | n + 1 => wp_X3_removeRider_2F P o0 x1 ri (wp_X3_removeRider_2 P o0 x1 ri n)
def wp_X3_removeRider (P : (Nat → Int32) → (Nat → Int32) → (Nat → Int32) → (Nat → Int32) → Int32 → Prop) (o0 : StT) (x1 : Int32) : Prop :=
  ∃ n : Nat, wp_X3_removeRider_2 P o0 x1 o0.ri n x1 o0.fl o0.ar o0.dr o0.pe
def wp_X5_cancel (P : Int32 → (Nat → Int32) → (Nat → Int32) → (Nat → Int32) → (Nat → Int32) → Int32 → (Nat → Int32) → (Nat → Int32) → (Nat → Int32) → (Nat → Int32) → (Nat → Int32) → Int32 → Int32 → Int32 → (Nat → StT) → Int32 → Int32 → Prop) (now : StT) (pln : PlT) (his : HiT) (x1 : Int32) : Prop :=
  wp_X5_isRider (fun r_1 =>
    ((¬ r_1 = 0) →
      wp_X2_fare (fun r_3 =>
        wp_X0_record (fun hs_4 ol_5 sz_6 =>
          wp_X3_removeRider (fun fl_7 ar_8 dr_9 pe_10 ri_11 =>
            wp_X2_make (fun od_12 rd_13 vn_14 pn_15 ao_16 sr_17 sp_18 wt_19 =>
              P r_3 fl_7 ar_8 dr_9 pe_10 ri_11 od_12 rd_13 vn_14 pn_15 ao_16 sr_17 sp_18 wt_19 hs_4 ol_5 sz_6) pln (mkSt now.se now.la now.de now.le now.sa fl_7 ar_8 dr_9 pe_10 ri_11)) now x1) his now) pln now x1) ∧
    ((r_1 = 0) →
      P (-101 : Int32) now.fl now.ar now.dr now.pe now.ri pln.od pln.rd pln.vn pln.pn pln.ao pln.sr pln.sp pln.wt his.hs his.ol his.sz)) now x1
def wp_X5_rebook (P : Int32 → (Nat → Int32) → (Nat → Int32) → (Nat → Int32) → (Nat → Int32) → (Nat → Int32) → (Nat → Int32) → Int32 → Int32 → Int32 → (Nat → StT) → Int32 → Int32 → Prop) (now : StT) (pln : PlT) (his : HiT) (x1 : Int32) (x2 : Int32) : Prop :=
  wp_X5_isRider (fun r_1 =>
    ((r_1 = 0) →
      P (-101 : Int32) now.fl pln.od pln.rd pln.vn pln.pn pln.ao pln.sr pln.sp pln.wt his.hs his.ol his.sz) ∧
    ((¬ r_1 = 0) →
      wp_X5_isFlight (fun r_3 =>
        ((¬ r_3 = 0) →
          vp_in x1 24 ∧
          ((¬ (now.fl x1.toNatClampNeg) = x2) →
            wp_X0_record (fun hs_7 ol_8 sz_9 =>
              vp_in x1 24 ∧
              wp_X2_make (fun od_11 rd_12 vn_13 pn_14 ao_15 sr_16 sp_17 wt_18 =>
                vp_in x1 24 ∧
                P (vn_13 x1.toNatClampNeg) (upd now.fl x1.toNatClampNeg x2) od_11 rd_12 vn_13 pn_14 ao_15 sr_16 sp_17 wt_18 hs_7 ol_8 sz_9) pln (mkSt now.se now.la now.de now.le now.sa (upd now.fl x1.toNatClampNeg x2) now.ar now.dr now.pe now.ri)) his now) ∧
          (((now.fl x1.toNatClampNeg) = x2) →
            P (-105 : Int32) now.fl pln.od pln.rd pln.vn pln.pn pln.ao pln.sr pln.sp pln.wt his.hs his.ol his.sz)) ∧
        ((r_3 = 0) →
          P (-101 : Int32) now.fl pln.od pln.rd pln.vn pln.pn pln.ao pln.sr pln.sp pln.wt his.hs his.ol his.sz)) x2)) now x1
def wp_X2_waitOf (P : Int32 → Prop) (o0 : PlT) (o1 : StT) (x2 : Int32) : Prop :=
  vp_in x2 24 ∧
  wp_X5_isVan (fun r_2 =>
    ((r_2 = 0) →
      P (-106 : Int32)) ∧
    ((¬ r_2 = 0) →
      vp_in (o0.vn x2.toNatClampNeg) 8 ∧
      vp_in x2 24 ∧
      P ((o1.le (o0.vn x2.toNatClampNeg).toNatClampNeg) - (o0.rd x2.toNatClampNeg)))) (o0.vn x2.toNatClampNeg)
def wp_X4_placeFor_2F (P : Int32 → Prop) (o0 : WyT) (x1 : Int32) (r2 : Int32 → Prop) (v2 : Int32) : Prop :=
  ((o0.so ≤ v2) →
    P v2) ∧
  ((¬ o0.so ≤ v2) →
    vp_in v2 24 ∧
    ((x1 ≤ (o0.ky v2.toNatClampNeg)) →
      P v2) ∧
    ((¬ x1 ≤ (o0.ky v2.toNatClampNeg)) →
      r2 (v2 + 1)))
def wp_X4_placeFor_2 (P : Int32 → Prop) (o0 : WyT) (x1 : Int32) : Nat → Int32 → Prop
  | 0 => fun _ => False
  | n + 1 => wp_X4_placeFor_2F P o0 x1 (wp_X4_placeFor_2 P o0 x1 n)
def wp_X4_placeFor (P : Int32 → Prop) (o0 : WyT) (x1 : Int32) : Prop :=
  ∃ n : Nat, wp_X4_placeFor_2 P o0 x1 n (0 : Int32)
def wp_X4_openStop_15F (P : (Nat → Int32) → (Nat → Int32) → Int32 → Prop) (o0 : WyT) (x1 : Int32) (x2 : Int32) (so : Int32) (r15 : Int32 → (Nat → Int32) → (Nat → Int32) → Prop) (v3 : Int32) (ky : Nat → Int32) (wp : Nat → Int32) : Prop :=
  ((v3 ≤ x1) →
    vp_in x1 24 ∧
    vp_in x1 24 ∧
    P (upd ky x1.toNatClampNeg x2) (upd wp x1.toNatClampNeg (0 : Int32)) (so + (1 : Int32))) ∧
  ((¬ v3 ≤ x1) →
    vp_in (v3 - (1 : Int32)) 24 ∧
    vp_in v3 24 ∧
    vp_in (v3 - (1 : Int32)) 24 ∧
    vp_in v3 24 ∧
    r15 (v3 + (-1)) (upd ky v3.toNatClampNeg (ky (v3 - (1 : Int32)).toNatClampNeg)) (upd wp v3.toNatClampNeg (wp (v3 - (1 : Int32)).toNatClampNeg)))
def wp_X4_openStop_15 (P : (Nat → Int32) → (Nat → Int32) → Int32 → Prop) (o0 : WyT) (x1 : Int32) (x2 : Int32) (so : Int32) : Nat → Int32 → (Nat → Int32) → (Nat → Int32) → Prop
  | 0 => fun _ _ _ => False
  | n + 1 => wp_X4_openStop_15F P o0 x1 x2 so (wp_X4_openStop_15 P o0 x1 x2 so n)
def wp_X4_openStop (P : (Nat → Int32) → (Nat → Int32) → Int32 → Prop) (o0 : WyT) (x1 : Int32) (x2 : Int32) : Prop :=
  ((o0.so < (24 : Int32)) →
    ∃ n : Nat, wp_X4_openStop_15 P o0 x1 x2 o0.so n o0.so o0.ky o0.wp) ∧
  ((¬ o0.so < (24 : Int32)) →
    P o0.ky o0.wp o0.so)
def wp_X4_letOut_37 (P : (Nat → Int32) → (Nat → Int32) → Int32 → Prop) (o0 : WyT) (x1 : Int32) (x2 : Int32) (v3 : Int32) (ky : Nat → Int32) (wp : Nat → Int32) (so : Int32) : Prop :=
  vp_in v3 24 ∧
  vp_in v3 24 ∧
  P ky (upd wp v3.toNatClampNeg ((wp v3.toNatClampNeg) + x2)) so
def wp_X4_letOut_31 (P : (Nat → Int32) → (Nat → Int32) → Int32 → Prop) (o0 : WyT) (x1 : Int32) (x2 : Int32) (v3 : Int32) (ky : Nat → Int32) (wp : Nat → Int32) (so : Int32) : Prop :=
  wp_X4_openStop (fun ky_6 wp_7 so_8 =>
    wp_X4_letOut_37 P o0 x1 x2 v3 ky_6 wp_7 so_8) (mkWy ky wp o0.mi so) v3 x1
def wp_X4_letOut (P : (Nat → Int32) → (Nat → Int32) → Int32 → Prop) (o0 : WyT) (x1 : Int32) (x2 : Int32) : Prop :=
  wp_X4_placeFor (fun r_1 =>
    ((r_1 < (24 : Int32)) →
      ((r_1 = o0.so) →
        wp_X4_letOut_31 P o0 x1 x2 r_1 o0.ky o0.wp o0.so) ∧
      ((¬ r_1 = o0.so) →
        vp_in r_1 24 ∧
        (((o0.ky r_1.toNatClampNeg) = x1) →
          wp_X4_letOut_37 P o0 x1 x2 r_1 o0.ky o0.wp o0.so) ∧
        ((¬ (o0.ky r_1.toNatClampNeg) = x1) →
          wp_X4_letOut_31 P o0 x1 x2 r_1 o0.ky o0.wp o0.so))) ∧
    ((¬ r_1 < (24 : Int32)) →
      P o0.ky o0.wp o0.so)) o0 x1
def wp_X3_areaOfStop (P : Int32 → Prop) (x0 : Int32) : Prop :=
  P (x0 / (100 : Int32))
def wp_X4_tellMinutes_82 (P : (Nat → Int32) → Prop) (o0 : WyT) (x1 : Int32) (r2 : Int32 → (Nat → Int32) → Prop) (v2 : Int32) (w0 : Int32) (w1 : Int32) (w2 : Int32) (mi : Nat → Int32) : Prop :=
  vp_in w0 24 ∧
  r2 (v2 + 1) (upd mi w0.toNatClampNeg (w1 + w2))
def wp_X4_tellMinutes_2F (P : (Nat → Int32) → Prop) (o0 : WyT) (x1 : Int32) (r2 : Int32 → (Nat → Int32) → Prop) (v2 : Int32) (mi : Nat → Int32) : Prop :=
  ((o0.so ≤ v2) →
    P mi) ∧
  ((¬ o0.so ≤ v2) →
    vp_in v2 24 ∧
    wp_X3_areaOfStop (fun r_3 =>
      ((¬ v2 = 0) →
        vp_in (v2 - (1 : Int32)) 24 ∧
        wp_X3_areaOfStop (fun r_6 =>
          vp_in (v2 - (1 : Int32)) 24 ∧
          (((r_3 - r_6) ≤ 0) →
            wp_X4_tellMinutes_82 P o0 x1 r2 v2 v2 (mi (v2 - (1 : Int32)).toNatClampNeg) (3 : Int32) mi) ∧
          ((¬ (r_3 - r_6) ≤ 0) →
            wp_X4_tellMinutes_82 P o0 x1 r2 v2 v2 (mi (v2 - (1 : Int32)).toNatClampNeg) ((5 : Int32) * (r_3 - r_6)) mi)) (o0.ky (v2 - (1 : Int32)).toNatClampNeg)) ∧
      ((v2 = 0) →
        vp_in v2 24 ∧
        r2 (v2 + 1) (upd mi v2.toNatClampNeg ((x1 + (10 : Int32)) + ((5 : Int32) * r_3))))) (o0.ky v2.toNatClampNeg))
def wp_X4_tellMinutes_2 (P : (Nat → Int32) → Prop) (o0 : WyT) (x1 : Int32) : Nat → Int32 → (Nat → Int32) → Prop
  | 0 => fun _ _ => False
  | n + 1 => wp_X4_tellMinutes_2F P o0 x1 (wp_X4_tellMinutes_2 P o0 x1 n)
def wp_X4_tellMinutes (P : (Nat → Int32) → Prop) (o0 : WyT) (x1 : Int32) : Prop :=
  ∃ n : Nat, wp_X4_tellMinutes_2 P o0 x1 n (0 : Int32) o0.mi
def wp_X4_follow_8F (P : (Nat → Int32) → (Nat → Int32) → (Nat → Int32) → Int32 → Prop) (o0 : WyT) (o1 : StT) (o2 : PlT) (x3 : Int32) (mi : Nat → Int32) (r8 : Int32 → (Nat → Int32) → (Nat → Int32) → Int32 → Prop) (v4 : Int32) (ky : Nat → Int32) (wp : Nat → Int32) (so : Int32) : Prop :=
  ((o1.ri ≤ v4) →
    vp_in x3 8 ∧
    wp_X4_tellMinutes (fun mi_3 =>
      P ky wp mi_3 so) (mkWy ky wp mi so) (o1.le x3.toNatClampNeg)) ∧
  ((¬ o1.ri ≤ v4) →
    vp_in v4 24 ∧
    ((¬ (o2.vn v4.toNatClampNeg) = x3) →
      r8 (v4 + 1) ky wp so) ∧
    (((o2.vn v4.toNatClampNeg) = x3) →
      wp_X3_stopKey (fun r_6 =>
        vp_in v4 24 ∧
        wp_X4_letOut (fun ky_8 wp_9 so_10 =>
          r8 (v4 + 1) ky_8 wp_9 so_10) (mkWy ky wp mi so) r_6 (o1.pe v4.toNatClampNeg)) o1 v4))
def wp_X4_follow_8 (P : (Nat → Int32) → (Nat → Int32) → (Nat → Int32) → Int32 → Prop) (o0 : WyT) (o1 : StT) (o2 : PlT) (x3 : Int32) (mi : Nat → Int32) : Nat → Int32 → (Nat → Int32) → (Nat → Int32) → Int32 → Prop
  | 0 => fun _ _ _ _ => False
  | n + 1 => wp_X4_follow_8F P o0 o1 o2 x3 mi (wp_X4_follow_8 P o0 o1 o2 x3 mi n)
def wp_X4_follow (P : (Nat → Int32) → (Nat → Int32) → (Nat → Int32) → Int32 → Prop) (o0 : WyT) (o1 : StT) (o2 : PlT) (x3 : Int32) : Prop :=
  ∃ n : Nat, wp_X4_follow_8 P o0 o1 o2 x3 o0.mi n (0 : Int32) o0.ky o0.wp (0 : Int32)
def wp_X4_minuteAt (P : Int32 → Prop) (o0 : WyT) (x1 : Int32) : Prop :=
  wp_X4_placeFor (fun r_1 =>
    ((o0.so ≤ r_1) →
      P (-106 : Int32)) ∧
    ((¬ o0.so ≤ r_1) →
      vp_in r_1 24 ∧
      P (o0.mi r_1.toNatClampNeg))) o0 x1
def wp_X5_minuteAtDoor (P : Int32 → (Nat → Int32) → (Nat → Int32) → (Nat → Int32) → Int32 → Prop) (now : StT) (pln : PlT) (way : WyT) (x1 : Int32) : Prop :=
  vp_in x1 24 ∧
  wp_X5_isVan (fun r_2 =>
    ((¬ r_2 = 0) →
      wp_X4_follow (fun ky_4 wp_5 mi_6 so_7 =>
        wp_X3_stopKey (fun r_8 =>
          wp_X4_minuteAt (fun r_9 =>
            P r_9 ky_4 wp_5 mi_6 so_7) (mkWy ky_4 wp_5 mi_6 so_7) r_8) now x1) way now pln (pln.vn x1.toNatClampNeg)) ∧
    ((r_2 = 0) →
      P (-106 : Int32) way.ky way.wp way.mi way.so)) (pln.vn x1.toNatClampNeg)
def wp_X2_othersAtStop_18F (P : Int32 → Prop) (o0 : PlT) (o1 : StT) (x2 : Int32) (r18 : Int32 → Int32 → Prop) (v3 : Int32) (v4 : Int32) : Prop :=
  ((o1.ri ≤ v4) →
    P v3) ∧
  ((¬ o1.ri ≤ v4) →
    ((v4 = x2) →
      r18 v3 (v4 + 1)) ∧
    ((¬ v4 = x2) →
      wp_X2_shares (fun r_5 =>
        ((r_5 = 0) →
          r18 v3 (v4 + 1)) ∧
        ((¬ r_5 = 0) →
          r18 (v3 + 1) (v4 + 1))) o0 o1 x2 v4 (1 : Int32)))
def wp_X2_othersAtStop_18 (P : Int32 → Prop) (o0 : PlT) (o1 : StT) (x2 : Int32) : Nat → Int32 → Int32 → Prop
  | 0 => fun _ _ => False
  | n + 1 => wp_X2_othersAtStop_18F P o0 o1 x2 (wp_X2_othersAtStop_18 P o0 o1 x2 n)
def wp_X2_othersAtStop (P : Int32 → Prop) (o0 : PlT) (o1 : StT) (x2 : Int32) : Prop :=
  vp_in x2 24 ∧
  ((¬ (o0.vn x2.toNatClampNeg) = (-106 : Int32)) →
    ∃ n : Nat, wp_X2_othersAtStop_18 P o0 o1 x2 n (0 : Int32) (0 : Int32)) ∧
  (((o0.vn x2.toNatClampNeg) = (-106 : Int32)) →
    P (0 : Int32))
def wp_X5_rider (P : Int32 → (Nat → Int32) → (Nat → Int32) → (Nat → Int32) → Int32 → Prop) (now : StT) (pln : PlT) (way : WyT) (x1 : Int32) (x2 : Int32) : Prop :=
  wp_X5_isRider (fun r_1 =>
    ((¬ r_1 = 0) →
      (x2 = 0 →
        vp_in x1 24 ∧
        P (now.fl x1.toNatClampNeg) way.ky way.wp way.mi way.so) ∧
      (x2 = 1 →
        vp_in x1 24 ∧
        P (now.ar x1.toNatClampNeg) way.ky way.wp way.mi way.so) ∧
      (x2 = 2 →
        vp_in x1 24 ∧
        P (now.dr x1.toNatClampNeg) way.ky way.wp way.mi way.so) ∧
      (x2 = 3 →
        vp_in x1 24 ∧
        P (now.pe x1.toNatClampNeg) way.ky way.wp way.mi way.so) ∧
      (x2 = 4 →
        wp_X3_riderReady (fun r_8 =>
          P r_8 way.ky way.wp way.mi way.so) now x1) ∧
      (x2 = 5 →
        vp_in x1 24 ∧
        P (pln.vn x1.toNatClampNeg) way.ky way.wp way.mi way.so) ∧
      (x2 = 6 →
        wp_X2_waitOf (fun r_10 =>
          P r_10 way.ky way.wp way.mi way.so) pln now x1) ∧
      (x2 = 7 →
        wp_X5_minuteAtDoor (fun r_15 ky_11 wp_12 mi_13 so_14 =>
          P r_15 ky_11 wp_12 mi_13 so_14) now pln way x1) ∧
      (x2 = 8 →
        wp_X2_fare (fun r_16 =>
          P r_16 way.ky way.wp way.mi way.so) pln now x1) ∧
      (x2 = 9 →
        wp_X2_othersAtStop (fun r_17 =>
          P r_17 way.ky way.wp way.mi way.so) pln now x1) ∧
      ((¬ x2 = 0 ∧ ¬ x2 = 1 ∧ ¬ x2 = 2 ∧ ¬ x2 = 3 ∧ ¬ x2 = 4 ∧ ¬ x2 = 5 ∧ ¬ x2 = 6 ∧ ¬ x2 = 7 ∧ ¬ x2 = 8 ∧ ¬ x2 = 9) →
        P (-102 : Int32) way.ky way.wp way.mi way.so)) ∧
    ((r_1 = 0) →
      P (-101 : Int32) way.ky way.wp way.mi way.so)) now x1
def wp_X2_ridersIn_5F (P : Int32 → Prop) (o0 : PlT) (o1 : StT) (x2 : Int32) (r5 : Int32 → Int32 → Prop) (v3 : Int32) (v4 : Int32) : Prop :=
  ((o1.ri ≤ v4) →
    P v3) ∧
  ((¬ o1.ri ≤ v4) →
    vp_in v4 24 ∧
    ((¬ (o0.vn v4.toNatClampNeg) = x2) →
      r5 v3 (v4 + 1)) ∧
    (((o0.vn v4.toNatClampNeg) = x2) →
      r5 (v3 ||| ((1 : Int32) <<< (v4 &&& 31))) (v4 + 1)))
def wp_X2_ridersIn_5 (P : Int32 → Prop) (o0 : PlT) (o1 : StT) (x2 : Int32) : Nat → Int32 → Int32 → Prop
  | 0 => fun _ _ => False
  | n + 1 => wp_X2_ridersIn_5F P o0 o1 x2 (wp_X2_ridersIn_5 P o0 o1 x2 n)
def wp_X2_ridersIn (P : Int32 → Prop) (o0 : PlT) (o1 : StT) (x2 : Int32) : Prop :=
  ∃ n : Nat, wp_X2_ridersIn_5 P o0 o1 x2 n (0 : Int32) (0 : Int32)
def wp_X4_lastMinute (P : Int32 → Prop) (o0 : WyT) : Prop :=
  ((o0.so ≤ 0) →
    P (-106 : Int32)) ∧
  ((¬ o0.so ≤ 0) →
    vp_in (o0.so - (1 : Int32)) 24 ∧
    P (o0.mi (o0.so - (1 : Int32)).toNatClampNeg))
def wp_X2_faresOf_5F (P : Int32 → Prop) (o0 : PlT) (o1 : StT) (x2 : Int32) (r5 : Int32 → Int32 → Prop) (v3 : Int32) (v4 : Int32) : Prop :=
  ((o1.ri ≤ v4) →
    P v3) ∧
  ((¬ o1.ri ≤ v4) →
    vp_in v4 24 ∧
    ((¬ (o0.vn v4.toNatClampNeg) = x2) →
      r5 v3 (v4 + 1)) ∧
    (((o0.vn v4.toNatClampNeg) = x2) →
      wp_X2_fare (fun r_4 =>
        r5 (v3 + r_4) (v4 + 1)) o0 o1 v4))
def wp_X2_faresOf_5 (P : Int32 → Prop) (o0 : PlT) (o1 : StT) (x2 : Int32) : Nat → Int32 → Int32 → Prop
  | 0 => fun _ _ => False
  | n + 1 => wp_X2_faresOf_5F P o0 o1 x2 (wp_X2_faresOf_5 P o0 o1 x2 n)
def wp_X2_faresOf (P : Int32 → Prop) (o0 : PlT) (o1 : StT) (x2 : Int32) : Prop :=
  ∃ n : Nat, wp_X2_faresOf_5 P o0 o1 x2 n (0 : Int32) (0 : Int32)
def wp_X5_vanOf (P : Int32 → (Nat → Int32) → (Nat → Int32) → (Nat → Int32) → Int32 → Prop) (now : StT) (pln : PlT) (way : WyT) (x1 : Int32) (x2 : Int32) : Prop :=
  wp_X5_isVan (fun r_1 =>
    ((¬ r_1 = 0) →
      wp_X4_follow (fun ky_3 wp_4 mi_5 so_6 =>
        (x2 = 0 →
          vp_in x1 8 ∧
          P (now.le x1.toNatClampNeg) ky_3 wp_4 mi_5 so_6) ∧
        (x2 = 1 →
          vp_in x1 8 ∧
          P (now.sa x1.toNatClampNeg) ky_3 wp_4 mi_5 so_6) ∧
        (x2 = 2 →
          vp_in x1 8 ∧
          P (pln.pn x1.toNatClampNeg) ky_3 wp_4 mi_5 so_6) ∧
        (x2 = 3 →
          wp_X2_ridersIn (fun r_11 =>
            P r_11 ky_3 wp_4 mi_5 so_6) pln now x1) ∧
        (x2 = 4 →
          vp_in x1 8 ∧
          P (pln.ao x1.toNatClampNeg) ky_3 wp_4 mi_5 so_6) ∧
        (x2 = 5 →
          P so_6 ky_3 wp_4 mi_5 so_6) ∧
        (x2 = 6 →
          wp_X4_lastMinute (fun r_13 =>
            P r_13 ky_3 wp_4 mi_5 so_6) (mkWy ky_3 wp_4 mi_5 so_6)) ∧
        (x2 = 7 →
          wp_X2_faresOf (fun r_14 =>
            P r_14 ky_3 wp_4 mi_5 so_6) pln now x1) ∧
        ((¬ x2 = 0 ∧ ¬ x2 = 1 ∧ ¬ x2 = 2 ∧ ¬ x2 = 3 ∧ ¬ x2 = 4 ∧ ¬ x2 = 5 ∧ ¬ x2 = 6 ∧ ¬ x2 = 7) →
          P (-102 : Int32) ky_3 wp_4 mi_5 so_6)) way now pln x1) ∧
    ((r_1 = 0) →
      P (-101 : Int32) way.ky way.wp way.mi way.so)) x1
def wp_X2_peopleOfFlight_36 (P : Int32 → Prop) (o0 : PlT) (o1 : StT) (x2 : Int32) (x3 : Int32) (r6 : Int32 → Int32 → Prop) (v4 : Int32) (v5 : Int32) (w0 : Int32) : Prop :=
  ((w0 = 0) →
    r6 v4 (v5 + 1)) ∧
  ((¬ w0 = 0) →
    vp_in v5 24 ∧
    ((¬ (o1.fl v5.toNatClampNeg) = x2) →
      r6 v4 (v5 + 1)) ∧
    (((o1.fl v5.toNatClampNeg) = x2) →
      vp_in v5 24 ∧
      r6 (v4 + (o1.pe v5.toNatClampNeg)) (v5 + 1)))
def wp_X2_peopleOfFlight_6F (P : Int32 → Prop) (o0 : PlT) (o1 : StT) (x2 : Int32) (x3 : Int32) (r6 : Int32 → Int32 → Prop) (v4 : Int32) (v5 : Int32) : Prop :=
  ((o1.ri ≤ v5) →
    P v4) ∧
  ((¬ o1.ri ≤ v5) →
    ((x3 = 0) →
      wp_X2_peopleOfFlight_36 P o0 o1 x2 x3 r6 v4 v5 (1 : Int32)) ∧
    ((¬ x3 = 0) →
      vp_in v5 24 ∧
      ((¬ (o0.vn v5.toNatClampNeg) = (-106 : Int32)) →
        wp_X2_peopleOfFlight_36 P o0 o1 x2 x3 r6 v4 v5 (0 : Int32)) ∧
      (((o0.vn v5.toNatClampNeg) = (-106 : Int32)) →
        wp_X2_peopleOfFlight_36 P o0 o1 x2 x3 r6 v4 v5 (1 : Int32))))
def wp_X2_peopleOfFlight_6 (P : Int32 → Prop) (o0 : PlT) (o1 : StT) (x2 : Int32) (x3 : Int32) : Nat → Int32 → Int32 → Prop
  | 0 => fun _ _ => False
  | n + 1 => wp_X2_peopleOfFlight_6F P o0 o1 x2 x3 (wp_X2_peopleOfFlight_6 P o0 o1 x2 x3 n)
def wp_X2_peopleOfFlight (P : Int32 → Prop) (o0 : PlT) (o1 : StT) (x2 : Int32) (x3 : Int32) : Prop :=
  ∃ n : Nat, wp_X2_peopleOfFlight_6 P o0 o1 x2 x3 n (0 : Int32) (0 : Int32)
def wp_X5_flight (P : Int32 → Prop) (now : StT) (pln : PlT) (x1 : Int32) (x2 : Int32) : Prop :=
  wp_X5_isFlight (fun r_1 =>
    ((¬ r_1 = 0) →
      (x2 = 0 →
        vp_in x1 6 ∧
        P (now.la x1.toNatClampNeg)) ∧
      (x2 = 1 →
        vp_in x1 6 ∧
        P (now.de x1.toNatClampNeg)) ∧
      (x2 = 2 →
        wp_X3_flightReady (fun r_6 =>
          P r_6) now x1) ∧
      (x2 = 3 →
        wp_X2_peopleOfFlight (fun r_7 =>
          P r_7) pln now x1 (0 : Int32)) ∧
      (x2 = 4 →
        wp_X2_peopleOfFlight (fun r_8 =>
          P r_8) pln now x1 (1 : Int32)) ∧
      ((¬ x2 = 0 ∧ ¬ x2 = 1 ∧ ¬ x2 = 2 ∧ ¬ x2 = 3 ∧ ¬ x2 = 4) →
        P (-102 : Int32))) ∧
    ((r_1 = 0) →
      P (-101 : Int32))) x1
def wp_X3_doorOfStop (P : Int32 → Prop) (x0 : Int32) : Prop :=
  P (x0 - x0 / (100 : Int32) * (100 : Int32))
def wp_X5_stop (P : Int32 → (Nat → Int32) → (Nat → Int32) → (Nat → Int32) → Int32 → Prop) (now : StT) (pln : PlT) (way : WyT) (x1 : Int32) (x2 : Int32) (x3 : Int32) : Prop :=
  wp_X5_isVan (fun r_1 =>
    ((¬ r_1 = 0) →
      wp_X4_follow (fun ky_3 wp_4 mi_5 so_6 =>
        wp_X5_isIn (fun r_7 =>
          ((¬ r_7 = 0) →
            (x3 = 0 →
              vp_in x2 24 ∧
              wp_X3_areaOfStop (fun r_11 =>
                P r_11 ky_3 wp_4 mi_5 so_6) (ky_3 x2.toNatClampNeg)) ∧
            (x3 = 1 →
              vp_in x2 24 ∧
              wp_X3_doorOfStop (fun r_13 =>
                P r_13 ky_3 wp_4 mi_5 so_6) (ky_3 x2.toNatClampNeg)) ∧
            (x3 = 2 →
              vp_in x2 24 ∧
              P (mi_5 x2.toNatClampNeg) ky_3 wp_4 mi_5 so_6) ∧
            (x3 = 3 →
              vp_in x2 24 ∧
              P (wp_4 x2.toNatClampNeg) ky_3 wp_4 mi_5 so_6) ∧
            ((¬ x3 = 0 ∧ ¬ x3 = 1 ∧ ¬ x3 = 2 ∧ ¬ x3 = 3) →
              P (-102 : Int32) ky_3 wp_4 mi_5 so_6)) ∧
          ((r_7 = 0) →
            P (-101 : Int32) ky_3 wp_4 mi_5 so_6)) x2 (0 : Int32) (so_6 - (1 : Int32))) way now pln x1) ∧
    ((r_1 = 0) →
      P (-101 : Int32) way.ky way.wp way.mi way.so)) x1
def wp_X3_allPeople_4F (P : Int32 → Prop) (o0 : StT) (r4 : Int32 → Int32 → Prop) (v1 : Int32) (v2 : Int32) : Prop :=
  ((o0.ri ≤ v2) →
    P v1) ∧
  ((¬ o0.ri ≤ v2) →
    vp_in v2 24 ∧
    r4 (v1 + (o0.pe v2.toNatClampNeg)) (v2 + 1))
def wp_X3_allPeople_4 (P : Int32 → Prop) (o0 : StT) : Nat → Int32 → Int32 → Prop
  | 0 => fun _ _ => False
  | n + 1 => wp_X3_allPeople_4F P o0 (wp_X3_allPeople_4 P o0 n)
def wp_X3_allPeople (P : Int32 → Prop) (o0 : StT) : Prop :=
  ∃ n : Nat, wp_X3_allPeople_4 P o0 n (0 : Int32) (0 : Int32)
def wp_X5_allFares_4F (P : Int32 → Prop) (now : StT) (pln : PlT) (r4 : Int32 → Int32 → Prop) (v1 : Int32) (v2 : Int32) : Prop :=
  ((now.ri ≤ v2) →
    P v1) ∧
  ((¬ now.ri ≤ v2) →
    wp_X2_fare (fun r_2 =>
      r4 (v1 + r_2) (v2 + 1)) pln now v2)
def wp_X5_allFares_4 (P : Int32 → Prop) (now : StT) (pln : PlT) : Nat → Int32 → Int32 → Prop
  | 0 => fun _ _ => False
  | n + 1 => wp_X5_allFares_4F P now pln (wp_X5_allFares_4 P now pln n)
def wp_X5_allFares (P : Int32 → Prop) (now : StT) (pln : PlT) : Prop :=
  ∃ n : Nat, wp_X5_allFares_4 P now pln n (0 : Int32) (0 : Int32)
def wp_X2_vansWithRiders_4F (P : Int32 → Prop) (o0 : PlT) (r4 : Int32 → Int32 → Prop) (v1 : Int32) (v2 : Int32) : Prop :=
  (((8 : Int32) ≤ v2) →
    P v1) ∧
  ((¬ (8 : Int32) ≤ v2) →
    vp_in v2 8 ∧
    (((o0.pn v2.toNatClampNeg) ≤ 0) →
      r4 v1 (v2 + 1)) ∧
    ((¬ (o0.pn v2.toNatClampNeg) ≤ 0) →
      r4 (v1 + 1) (v2 + 1)))
def wp_X2_vansWithRiders_4 (P : Int32 → Prop) (o0 : PlT) : Nat → Int32 → Int32 → Prop
  | 0 => fun _ _ => False
  | n + 1 => wp_X2_vansWithRiders_4F P o0 (wp_X2_vansWithRiders_4 P o0 n)
def wp_X2_vansWithRiders (P : Int32 → Prop) (o0 : PlT) : Prop :=
  ∃ n : Nat, wp_X2_vansWithRiders_4 P o0 n (0 : Int32) (0 : Int32)
def wp_X5_allStops_4F (P : Int32 → (Nat → Int32) → (Nat → Int32) → (Nat → Int32) → Int32 → Prop) (now : StT) (pln : PlT) (way : WyT) (r4 : Int32 → Int32 → (Nat → Int32) → (Nat → Int32) → (Nat → Int32) → Int32 → Prop) (v1 : Int32) (v2 : Int32) (way_ky : Nat → Int32) (way_wp : Nat → Int32) (way_mi : Nat → Int32) (way_so : Int32) : Prop :=
  (((8 : Int32) ≤ v2) →
    P v1 way_ky way_wp way_mi way_so) ∧
  ((¬ (8 : Int32) ≤ v2) →
    wp_X4_follow (fun ky_2 wp_3 mi_4 so_5 =>
      r4 (v1 + so_5) (v2 + 1) ky_2 wp_3 mi_4 so_5) (mkWy way_ky way_wp way_mi way_so) now pln v2)
def wp_X5_allStops_4 (P : Int32 → (Nat → Int32) → (Nat → Int32) → (Nat → Int32) → Int32 → Prop) (now : StT) (pln : PlT) (way : WyT) : Nat → Int32 → Int32 → (Nat → Int32) → (Nat → Int32) → (Nat → Int32) → Int32 → Prop
  | 0 => fun _ _ _ _ _ _ => False
  | n + 1 => wp_X5_allStops_4F P now pln way (wp_X5_allStops_4 P now pln way n)
def wp_X5_allStops (P : Int32 → (Nat → Int32) → (Nat → Int32) → (Nat → Int32) → Int32 → Prop) (now : StT) (pln : PlT) (way : WyT) : Prop :=
  ∃ n : Nat, wp_X5_allStops_4 P now pln way n (0 : Int32) (0 : Int32) way.ky way.wp way.mi way.so
def wp_X5_lastAtDoor_6F (P : Int32 → (Nat → Int32) → (Nat → Int32) → (Nat → Int32) → Int32 → Prop) (way : WyT) (o1 : StT) (o2 : PlT) (r6 : Int32 → Int32 → (Nat → Int32) → (Nat → Int32) → (Nat → Int32) → Int32 → Prop) (v3 : Int32) (v4 : Int32) (way_ky : Nat → Int32) (way_wp : Nat → Int32) (way_mi : Nat → Int32) (way_so : Int32) : Prop :=
  (((8 : Int32) ≤ v4) →
    P v3 way_ky way_wp way_mi way_so) ∧
  ((¬ (8 : Int32) ≤ v4) →
    wp_X4_follow (fun ky_2 wp_3 mi_4 so_5 =>
      ((so_5 ≤ 0) →
        r6 v3 (v4 + 1) ky_2 wp_3 mi_4 so_5) ∧
      ((¬ so_5 ≤ 0) →
        wp_X4_lastMinute (fun r_7 =>
          r6 (if v3 < r_7 then r_7 else v3) (v4 + 1) ky_2 wp_3 mi_4 so_5) (mkWy ky_2 wp_3 mi_4 so_5))) (mkWy way_ky way_wp way_mi way_so) o1 o2 v4)
def wp_X5_lastAtDoor_6 (P : Int32 → (Nat → Int32) → (Nat → Int32) → (Nat → Int32) → Int32 → Prop) (way : WyT) (o1 : StT) (o2 : PlT) : Nat → Int32 → Int32 → (Nat → Int32) → (Nat → Int32) → (Nat → Int32) → Int32 → Prop
  | 0 => fun _ _ _ _ _ _ => False
  | n + 1 => wp_X5_lastAtDoor_6F P way o1 o2 (wp_X5_lastAtDoor_6 P way o1 o2 n)
def wp_X5_lastAtDoor (P : Int32 → (Nat → Int32) → (Nat → Int32) → (Nat → Int32) → Int32 → Prop) (way : WyT) (o1 : StT) (o2 : PlT) : Prop :=
  ∃ n : Nat, wp_X5_lastAtDoor_6 P way o1 o2 n (-106 : Int32) (0 : Int32) way.ky way.wp way.mi way.so
def wp_X5_count (P : Int32 → (Nat → Int32) → (Nat → Int32) → (Nat → Int32) → Int32 → Prop) (now : StT) (pln : PlT) (way : WyT) (pad : PdT) (his : HiT) (x1 : Int32) : Prop :=
  wp_X5_isIn (fun r_1 =>
    ((r_1 = 0) →
      (x1 = 5 →
        P now.ri way.ky way.wp way.mi way.so) ∧
      (x1 = 6 →
        wp_X3_allPeople (fun r_4 =>
          P r_4 way.ky way.wp way.mi way.so) now) ∧
      (x1 = 7 →
        P pln.sr way.ky way.wp way.mi way.so) ∧
      (x1 = 8 →
        P pln.sp way.ky way.wp way.mi way.so) ∧
      (x1 = 9 →
        P pln.wt way.ky way.wp way.mi way.so) ∧
      (x1 = 10 →
        wp_X5_allFares (fun r_5 =>
          P r_5 way.ky way.wp way.mi way.so) now pln) ∧
      (x1 = 11 →
        wp_X2_vansWithRiders (fun r_6 =>
          P r_6 way.ky way.wp way.mi way.so) pln) ∧
      (x1 = 12 →
        wp_X5_allStops (fun r_11 ky_7 wp_8 mi_9 so_10 =>
          P r_11 ky_7 wp_8 mi_9 so_10) now pln way) ∧
      (x1 = 13 →
        wp_X5_lastAtDoor (fun r_16 ky_12 wp_13 mi_14 so_15 =>
          P r_16 ky_12 wp_13 mi_14 so_15) way now pln) ∧
      (x1 = 14 →
        P pad.ln way.ky way.wp way.mi way.so) ∧
      (x1 = 15 →
        P his.sz way.ky way.wp way.mi way.so) ∧
      ((¬ x1 = 5 ∧ ¬ x1 = 6 ∧ ¬ x1 = 7 ∧ ¬ x1 = 8 ∧ ¬ x1 = 9 ∧ ¬ x1 = 10 ∧ ¬ x1 = 11 ∧ ¬ x1 = 12 ∧ ¬ x1 = 13 ∧ ¬ x1 = 14 ∧ ¬ x1 = 15) →
        P (-102 : Int32) way.ky way.wp way.mi way.so)) ∧
    ((¬ r_1 = 0) →
      vp_in x1 5 ∧
      P (now.se x1.toNatClampNeg) way.ky way.wp way.mi way.so)) x1 (0 : Int32) (4 : Int32)
def wp_X2_isAtKerb (P : Int32 → Prop) (o0 : PlT) (o1 : StT) (x2 : Int32) (x3 : Int32) : Prop :=
  vp_in x2 24 ∧
  (((o0.rd x2.toNatClampNeg) ≤ x3) →
    vp_in x2 24 ∧
    wp_X5_isVan (fun r_4 =>
      ((r_4 = 0) →
        vp_in x2 24 ∧
        (((o1.se (1 : Int32).toNatClampNeg) < (x3 - (o0.rd x2.toNatClampNeg))) →
          P (0 : Int32)) ∧
        ((¬ (o1.se (1 : Int32).toNatClampNeg) < (x3 - (o0.rd x2.toNatClampNeg))) →
          P (1 : Int32))) ∧
      ((¬ r_4 = 0) →
        vp_in (o0.vn x2.toNatClampNeg) 8 ∧
        (((o1.le (o0.vn x2.toNatClampNeg).toNatClampNeg) ≤ x3) →
          P (0 : Int32)) ∧
        ((¬ (o1.le (o0.vn x2.toNatClampNeg).toNatClampNeg) ≤ x3) →
          P (1 : Int32)))) (o0.vn x2.toNatClampNeg)) ∧
  ((¬ (o0.rd x2.toNatClampNeg) ≤ x3) →
    P (0 : Int32))
def wp_X5_kerb_18F (P : Int32 → Prop) (now : StT) (pln : PlT) (x1 : Int32) (r18 : Int32 → Int32 → Prop) (v2 : Int32) (v3 : Int32) : Prop :=
  ((now.ri ≤ v3) →
    P v2) ∧
  ((¬ now.ri ≤ v3) →
    wp_X2_isAtKerb (fun r_4 =>
      ((r_4 = 0) →
        r18 v2 (v3 + 1)) ∧
      ((¬ r_4 = 0) →
        vp_in v3 24 ∧
        r18 (v2 + (now.pe v3.toNatClampNeg)) (v3 + 1))) pln now v3 x1)
def wp_X5_kerb_18 (P : Int32 → Prop) (now : StT) (pln : PlT) (x1 : Int32) : Nat → Int32 → Int32 → Prop
  | 0 => fun _ _ => False
  | n + 1 => wp_X5_kerb_18F P now pln x1 (wp_X5_kerb_18 P now pln x1 n)
def wp_X5_kerb (P : Int32 → Prop) (now : StT) (pln : PlT) (x1 : Int32) : Prop :=
  wp_X5_isIn (fun r_1 =>
    ((¬ r_1 = 0) →
      ∃ n : Nat, wp_X5_kerb_18 P now pln x1 n (0 : Int32) (0 : Int32)) ∧
    ((r_1 = 0) →
      P (-102 : Int32))) x1 (0 : Int32) (3000 : Int32)
def wp_X5_fullest_7F (P : Int32 → Prop) (pln : PlT) (r7 : Int32 → Int32 → Int32 → Prop) (v1 : Int32) (v2 : Int32) (v3 : Int32) : Prop :=
  (((8 : Int32) ≤ v3) →
    P v1) ∧
  ((¬ (8 : Int32) ≤ v3) →
    vp_in v3 8 ∧
    (((pln.pn v3.toNatClampNeg) ≤ v2) →
      r7 v1 v2 (v3 + 1)) ∧
    ((¬ (pln.pn v3.toNatClampNeg) ≤ v2) →
      vp_in v3 8 ∧
      r7 v3 (pln.pn v3.toNatClampNeg) (v3 + 1)))
def wp_X5_fullest_7 (P : Int32 → Prop) (pln : PlT) : Nat → Int32 → Int32 → Int32 → Prop
  | 0 => fun _ _ _ => False
  | n + 1 => wp_X5_fullest_7F P pln (wp_X5_fullest_7 P pln n)
def wp_X5_fullest (P : Int32 → Prop) (pln : PlT) : Prop :=
  ∃ n : Nat, wp_X5_fullest_7 P pln n (-106 : Int32) (0 : Int32) (0 : Int32)
def wp_X0_takeBack (P : Int32 → (Nat → Int32) → (Nat → Int32) → (Nat → Int32) → (Nat → Int32) → (Nat → Int32) → (Nat → Int32) → (Nat → Int32) → (Nat → Int32) → (Nat → Int32) → Int32 → Prop) (o0 : HiT) (o1 : StT) : Prop :=
  ((0 < o0.sz) →
    vp_in ((o0.ol + (o0.sz - (1 : Int32))) - (o0.ol + (o0.sz - (1 : Int32))) / (6 : Int32) * (6 : Int32)) 6 ∧
    ∀ j_4 : Nat, j_4 < 6 → ((o0.ol + (o0.sz - (1 : Int32))) - (o0.ol + (o0.sz - (1 : Int32))) / (6 : Int32) * (6 : Int32)) = nI j_4 →
    wp_X3_copyFrom (fun se_15 la_16 de_17 le_18 sa_19 fl_20 ar_21 dr_22 pe_23 ri_24 =>
      P (o0.sz - (1 : Int32)) se_15 la_16 de_17 le_18 sa_19 fl_20 ar_21 dr_22 pe_23 ri_24) o1 (o0.hs j_4)) ∧
  ((¬ 0 < o0.sz) →
    P o0.sz o1.se o1.la o1.de o1.le o1.sa o1.fl o1.ar o1.dr o1.pe o1.ri)
def wp_X5_undo (P : Int32 → (Nat → Int32) → (Nat → Int32) → (Nat → Int32) → (Nat → Int32) → (Nat → Int32) → (Nat → Int32) → (Nat → Int32) → (Nat → Int32) → (Nat → Int32) → Int32 → (Nat → Int32) → (Nat → Int32) → (Nat → Int32) → (Nat → Int32) → (Nat → Int32) → Int32 → Int32 → Int32 → Int32 → Prop) (now : StT) (pln : PlT) (his : HiT) : Prop :=
  ((¬ his.sz = 0) →
    wp_X0_takeBack (fun sz_2 se_3 la_4 de_5 le_6 sa_7 fl_8 ar_9 dr_10 pe_11 ri_12 =>
      wp_X2_make (fun od_13 rd_14 vn_15 pn_16 ao_17 sr_18 sp_19 wt_20 =>
        P sz_2 se_3 la_4 de_5 le_6 sa_7 fl_8 ar_9 dr_10 pe_11 ri_12 od_13 rd_14 vn_15 pn_16 ao_17 sr_18 sp_19 wt_20 sz_2) pln (mkSt se_3 la_4 de_5 le_6 sa_7 fl_8 ar_9 dr_10 pe_11 ri_12)) his now) ∧
  ((his.sz = 0) →
    P (-105 : Int32) now.se now.la now.de now.le now.sa now.fl now.ar now.dr now.pe now.ri pln.od pln.rd pln.vn pln.pn pln.ao pln.sr pln.sp pln.wt his.sz)
def wp_L_low (P : Int32 → Prop) (x0 : Int32) (x1 : Int32) : Prop :=
  ¬ x1 = 0 ∧
  P ((x0 &&& (2147483647 : Int32)) - (x0 &&& (2147483647 : Int32)) / x1 * x1)
def wp_L_flightOf (P : Int32 → Prop) (x0 : Int32) : Prop :=
  P (x0 &&& (7 : Int32))
def wp_L_areaOf (P : Int32 → Prop) (x0 : Int32) : Prop :=
  P ((x0 >>> ((3 : Int32) &&& 31)) &&& (7 : Int32))
def wp_L_doorOf (P : Int32 → Prop) (x0 : Int32) : Prop :=
  P ((x0 >>> ((6 : Int32) &&& 31)) &&& (127 : Int32))
def wp_L_people (P : Int32 → Prop) (x0 : Int32) : Prop :=
  P (x0 >>> ((13 : Int32) &&& 31))
def wp_L_ready (P : Int32 → Prop) (lq : Nat → Int32) (x0 : Int32) : Prop :=
  wp_L_flightOf (fun r_1 =>
    vp_in ((6 : Int32) + r_1) 34 ∧
    wp_L_flightOf (fun r_3 =>
      vp_in ((12 : Int32) + r_3) 34 ∧
      P (((lq ((6 : Int32) + r_1).toNatClampNeg) + (lq ((12 : Int32) + r_3).toNatClampNeg)) + (lq (0 : Int32).toNatClampNeg))) x0) x0
def wp_L_ones_4F (P : Int32 → Prop) (x0 : Int32) (r4 : Int32 → Int32 → Prop) (v1 : Int32) (v2 : Int32) : Prop :=
  ((v2 = 0) →
    P v1) ∧
  ((¬ v2 = 0) →
    r4 (v1 + 1) (v2 &&& (v2 - (1 : Int32))))
def wp_L_ones_4 (P : Int32 → Prop) (x0 : Int32) : Nat → Int32 → Int32 → Prop
  | 0 => fun _ _ => False
  | n + 1 => wp_L_ones_4F P x0 (wp_L_ones_4 P x0 n)
def wp_L_ones (P : Int32 → Prop) (x0 : Int32) : Prop :=
  ∃ n : Nat, wp_L_ones_4 P x0 n (0 : Int32) x0
def wp_L_gives_59 (P : (Nat → Int32) → (Nat → Int32) → (Nat → Int32) → Prop) (lq : Nat → Int32) (lr : Nat → Int32) (lw : Nat → Int32) (lo : Nat → Int32) (lg : Nat → Int32) (r3 : Int32 → (Nat → Int32) → Prop) (v5 : Int32) (v6 : Int32) (nlw : Nat → Int32) (nlo : Nat → Int32) (nlg : Nat → Int32) : Prop :=
  vp_in v6 24 ∧
  r3 (v5 + 1) (upd nlo v6.toNatClampNeg v5)
def wp_L_gives_15F (P : (Nat → Int32) → (Nat → Int32) → (Nat → Int32) → Prop) (lq : Nat → Int32) (lr : Nat → Int32) (lw : Nat → Int32) (lo : Nat → Int32) (lg : Nat → Int32) (r3 : Int32 → (Nat → Int32) → Prop) (v5 : Int32) (nlw : Nat → Int32) (nlg : Nat → Int32) (r15 : Int32 → (Nat → Int32) → Prop) (v6 : Int32) (nlo : Nat → Int32) : Prop :=
  ((v6 ≤ 0) →
    wp_L_gives_59 P lq lr lw lo lg r3 v5 v6 nlw nlo nlg) ∧
  ((¬ v6 ≤ 0) →
    vp_in (v6 - (1 : Int32)) 24 ∧
    vp_in (nlo (v6 - (1 : Int32)).toNatClampNeg) 24 ∧
    wp_L_ready (fun r_8 =>
      vp_in v5 24 ∧
      wp_L_ready (fun r_10 =>
        ((r_8 ≤ r_10) →
          wp_L_gives_59 P lq lr lw lo lg r3 v5 v6 nlw nlo nlg) ∧
        ((¬ r_8 ≤ r_10) →
          vp_in (v6 - (1 : Int32)) 24 ∧
          vp_in v6 24 ∧
          r15 (v6 + (-1)) (upd nlo v6.toNatClampNeg (nlo (v6 - (1 : Int32)).toNatClampNeg)))) lq (lr v5.toNatClampNeg)) lq (lr (nlo (v6 - (1 : Int32)).toNatClampNeg).toNatClampNeg))
def wp_L_gives_15 (P : (Nat → Int32) → (Nat → Int32) → (Nat → Int32) → Prop) (lq : Nat → Int32) (lr : Nat → Int32) (lw : Nat → Int32) (lo : Nat → Int32) (lg : Nat → Int32) (r3 : Int32 → (Nat → Int32) → Prop) (v5 : Int32) (nlw : Nat → Int32) (nlg : Nat → Int32) : Nat → Int32 → (Nat → Int32) → Prop
  | 0 => fun _ _ => False
  | n + 1 => wp_L_gives_15F P lq lr lw lo lg r3 v5 nlw nlg (wp_L_gives_15 P lq lr lw lo lg r3 v5 nlw nlg n)
def wp_L_gives_204 (P : (Nat → Int32) → (Nat → Int32) → (Nat → Int32) → Prop) (lq : Nat → Int32) (lr : Nat → Int32) (lw : Nat → Int32) (lo : Nat → Int32) (lg : Nat → Int32) (r96 : Int32 → (Nat → Int32) → (Nat → Int32) → Prop) (r119 : Int32 → Int32 → Prop) (v5 : Int32) (v6 : Int32) (v7 : Int32) (v8 : Int32) (w0 : Int32) (nlw : Nat → Int32) (nlo : Nat → Int32) (nlg : Nat → Int32) : Prop :=
  ((w0 = 0) →
    r119 v7 (v8 + (-1))) ∧
  ((¬ w0 = 0) →
    ((v7 < 0) →
      r119 v8 (v8 + (-1))) ∧
    ((¬ v7 < 0) →
      vp_in ((18 : Int32) + v8) 34 ∧
      vp_in ((18 : Int32) + v7) 34 ∧
      (((lq ((18 : Int32) + v7).toNatClampNeg) < (lq ((18 : Int32) + v8).toNatClampNeg)) →
        r119 v7 (v8 + (-1))) ∧
      ((¬ (lq ((18 : Int32) + v7).toNatClampNeg) < (lq ((18 : Int32) + v8).toNatClampNeg)) →
        r119 v8 (v8 + (-1)))))
def wp_L_gives_119F (P : (Nat → Int32) → (Nat → Int32) → (Nat → Int32) → Prop) (lq : Nat → Int32) (lr : Nat → Int32) (lw : Nat → Int32) (lo : Nat → Int32) (lg : Nat → Int32) (r96 : Int32 → (Nat → Int32) → (Nat → Int32) → Prop) (v5 : Int32) (v6 : Int32) (nlw : Nat → Int32) (nlo : Nat → Int32) (nlg : Nat → Int32) (r119 : Int32 → Int32 → Prop) (v7 : Int32) (v8 : Int32) : Prop :=
  ((v8 < 0) →
    vp_in v5 24 ∧
    vp_in (nlo v5.toNatClampNeg) 24 ∧
    ((v7 < 0) →
      r96 (v5 + 1) (upd nlw (nlo v5.toNatClampNeg).toNatClampNeg v7) nlg) ∧
    ((¬ v7 < 0) →
      vp_in v7 16 ∧
      wp_L_people (fun r_24 =>
        vp_in v7 16 ∧
        vp_in ((8 : Int32) + v7) 16 ∧
        wp_L_areaOf (fun r_27 =>
          vp_in ((8 : Int32) + v7) 16 ∧
          r96 (v5 + 1) (upd nlw (nlo v5.toNatClampNeg).toNatClampNeg v7) (upd (upd nlg v7.toNatClampNeg ((nlg v7.toNatClampNeg) + r_24)) ((8 : Int32) + v7).toNatClampNeg (((upd nlg v7.toNatClampNeg ((nlg v7.toNatClampNeg) + r_24)) ((8 : Int32) + v7).toNatClampNeg) ||| ((1 : Int32) <<< (r_27 &&& 31))))) v6) v6)) ∧
  ((¬ v8 < 0) →
    vp_in ((18 : Int32) + v8) 34 ∧
    wp_L_ready (fun r_30 =>
      ((((lq ((18 : Int32) + v8).toNatClampNeg) - r_30) < 0) →
        wp_L_gives_204 P lq lr lw lo lg r96 r119 v5 v6 v7 v8 (0 : Int32) nlw nlo nlg) ∧
      ((¬ ((lq ((18 : Int32) + v8).toNatClampNeg) - r_30) < 0) →
        (((lq (1 : Int32).toNatClampNeg) < ((lq ((18 : Int32) + v8).toNatClampNeg) - r_30)) →
          wp_L_gives_204 P lq lr lw lo lg r96 r119 v5 v6 v7 v8 (0 : Int32) nlw nlo nlg) ∧
        ((¬ (lq (1 : Int32).toNatClampNeg) < ((lq ((18 : Int32) + v8).toNatClampNeg) - r_30)) →
          vp_in v8 16 ∧
          wp_L_people (fun r_35 =>
            vp_in ((26 : Int32) + v8) 34 ∧
            (((lq ((26 : Int32) + v8).toNatClampNeg) < ((nlg v8.toNatClampNeg) + r_35)) →
              wp_L_gives_204 P lq lr lw lo lg r96 r119 v5 v6 v7 v8 (0 : Int32) nlw nlo nlg) ∧
            ((¬ (lq ((26 : Int32) + v8).toNatClampNeg) < ((nlg v8.toNatClampNeg) + r_35)) →
              vp_in ((8 : Int32) + v8) 16 ∧
              wp_L_areaOf (fun r_39 =>
                wp_L_ones (fun r_40 =>
                  (((lq (2 : Int32).toNatClampNeg) < r_40) →
                    wp_L_gives_204 P lq lr lw lo lg r96 r119 v5 v6 v7 v8 (0 : Int32) nlw nlo nlg) ∧
                  ((¬ (lq (2 : Int32).toNatClampNeg) < r_40) →
                    wp_L_gives_204 P lq lr lw lo lg r96 r119 v5 v6 v7 v8 (1 : Int32) nlw nlo nlg)) ((nlg ((8 : Int32) + v8).toNatClampNeg) ||| ((1 : Int32) <<< (r_39 &&& 31)))) v6)) v6))) lq v6)
def wp_L_gives_119 (P : (Nat → Int32) → (Nat → Int32) → (Nat → Int32) → Prop) (lq : Nat → Int32) (lr : Nat → Int32) (lw : Nat → Int32) (lo : Nat → Int32) (lg : Nat → Int32) (r96 : Int32 → (Nat → Int32) → (Nat → Int32) → Prop) (v5 : Int32) (v6 : Int32) (nlw : Nat → Int32) (nlo : Nat → Int32) (nlg : Nat → Int32) : Nat → Int32 → Int32 → Prop
  | 0 => fun _ _ => False
  | n + 1 => wp_L_gives_119F P lq lr lw lo lg r96 v5 v6 nlw nlo nlg (wp_L_gives_119 P lq lr lw lo lg r96 v5 v6 nlw nlo nlg n)
def wp_L_gives_96F (P : (Nat → Int32) → (Nat → Int32) → (Nat → Int32) → Prop) (lq : Nat → Int32) (lr : Nat → Int32) (lw : Nat → Int32) (lo : Nat → Int32) (lg : Nat → Int32) (nlo : Nat → Int32) (r96 : Int32 → (Nat → Int32) → (Nat → Int32) → Prop) (v5 : Int32) (nlw : Nat → Int32) (nlg : Nat → Int32) : Prop :=
  (((lq (5 : Int32).toNatClampNeg) ≤ v5) →
    P nlw nlo nlg) ∧
  ((¬ (lq (5 : Int32).toNatClampNeg) ≤ v5) →
    vp_in v5 24 ∧
    vp_in (nlo v5.toNatClampNeg) 24 ∧
    ∃ n : Nat, wp_L_gives_119 P lq lr lw lo lg r96 v5 (lr (nlo v5.toNatClampNeg).toNatClampNeg) nlw nlo nlg n (-1 : Int32) (7 : Int32))
def wp_L_gives_96 (P : (Nat → Int32) → (Nat → Int32) → (Nat → Int32) → Prop) (lq : Nat → Int32) (lr : Nat → Int32) (lw : Nat → Int32) (lo : Nat → Int32) (lg : Nat → Int32) (nlo : Nat → Int32) : Nat → Int32 → (Nat → Int32) → (Nat → Int32) → Prop
  | 0 => fun _ _ _ => False
  | n + 1 => wp_L_gives_96F P lq lr lw lo lg nlo (wp_L_gives_96 P lq lr lw lo lg nlo n)
def wp_L_gives_74F (P : (Nat → Int32) → (Nat → Int32) → (Nat → Int32) → Prop) (lq : Nat → Int32) (lr : Nat → Int32) (lw : Nat → Int32) (lo : Nat → Int32) (lg : Nat → Int32) (nlw : Nat → Int32) (nlo : Nat → Int32) (r74 : Int32 → (Nat → Int32) → Prop) (v5 : Int32) (nlg : Nat → Int32) : Prop :=
  (((16 : Int32) ≤ v5) →
    ∃ n : Nat, wp_L_gives_96 P lq lr lw lo lg nlo n (0 : Int32) nlw nlg) ∧
  ((¬ (16 : Int32) ≤ v5) →
    vp_in v5 16 ∧
    r74 (v5 + 1) (upd nlg v5.toNatClampNeg (0 : Int32)))
def wp_L_gives_74 (P : (Nat → Int32) → (Nat → Int32) → (Nat → Int32) → Prop) (lq : Nat → Int32) (lr : Nat → Int32) (lw : Nat → Int32) (lo : Nat → Int32) (lg : Nat → Int32) (nlw : Nat → Int32) (nlo : Nat → Int32) : Nat → Int32 → (Nat → Int32) → Prop
  | 0 => fun _ _ => False
  | n + 1 => wp_L_gives_74F P lq lr lw lo lg nlw nlo (wp_L_gives_74 P lq lr lw lo lg nlw nlo n)
def wp_L_gives_3F (P : (Nat → Int32) → (Nat → Int32) → (Nat → Int32) → Prop) (lq : Nat → Int32) (lr : Nat → Int32) (lw : Nat → Int32) (lo : Nat → Int32) (lg : Nat → Int32) (nlw : Nat → Int32) (nlg : Nat → Int32) (r3 : Int32 → (Nat → Int32) → Prop) (v5 : Int32) (nlo : Nat → Int32) : Prop :=
  (((lq (5 : Int32).toNatClampNeg) ≤ v5) →
    ∃ n : Nat, wp_L_gives_74 P lq lr lw lo lg nlw nlo n (0 : Int32) nlg) ∧
  ((¬ (lq (5 : Int32).toNatClampNeg) ≤ v5) →
    ∃ n : Nat, wp_L_gives_15 P lq lr lw lo lg r3 v5 nlw nlg n v5 nlo)
def wp_L_gives_3 (P : (Nat → Int32) → (Nat → Int32) → (Nat → Int32) → Prop) (lq : Nat → Int32) (lr : Nat → Int32) (lw : Nat → Int32) (lo : Nat → Int32) (lg : Nat → Int32) (nlw : Nat → Int32) (nlg : Nat → Int32) : Nat → Int32 → (Nat → Int32) → Prop
  | 0 => fun _ _ => False
  | n + 1 => wp_L_gives_3F P lq lr lw lo lg nlw nlg (wp_L_gives_3 P lq lr lw lo lg nlw nlg n)
def wp_L_gives (P : (Nat → Int32) → (Nat → Int32) → (Nat → Int32) → Prop) (lq : Nat → Int32) (lr : Nat → Int32) (lw : Nat → Int32) (lo : Nat → Int32) (lg : Nat → Int32) : Prop :=
  ∃ n : Nat, wp_L_gives_3 P lq lr lw lo lg lw lg n (0 : Int32) lo
def wp_L_keyOf (P : Int32 → Prop) (x0 : Int32) : Prop :=
  wp_L_areaOf (fun r_1 =>
    wp_L_doorOf (fun r_2 =>
      P (((100 : Int32) * r_1) + r_2)) x0) x0
def wp_L_stopsAhead_56F (P : Int32 → Prop) (lq : Nat → Int32) (lr : Nat → Int32) (lw : Nat → Int32) (x0 : Int32) (x1 : Int32) (r6 : Int32 → Int32 → Prop) (v5 : Int32) (v6 : Int32) (v7 : Int32) (r56 : Int32 → Int32 → Prop) (v8 : Int32) (v9 : Int32) : Prop :=
  ((v6 ≤ v9) →
    ((v8 = 0) →
      r6 (v5 + (0 : Int32)) (v6 + 1)) ∧
    ((¬ v8 = 0) →
      r6 (v5 + (1 : Int32)) (v6 + 1))) ∧
  ((¬ v6 ≤ v9) →
    ((v8 = 0) →
      r56 (0 : Int32) (v9 + 1)) ∧
    ((¬ v8 = 0) →
      vp_in v9 24 ∧
      ((¬ (lw v9.toNatClampNeg) = x0) →
        r56 (1 : Int32) (v9 + 1)) ∧
      (((lw v9.toNatClampNeg) = x0) →
        vp_in v9 24 ∧
        (((((lr v9.toNatClampNeg) >>> ((3 : Int32) &&& 31)) &&& (1023 : Int32)) = v7) →
          r56 (0 : Int32) (v9 + 1)) ∧
        ((¬ (((lr v9.toNatClampNeg) >>> ((3 : Int32) &&& 31)) &&& (1023 : Int32)) = v7) →
          r56 (1 : Int32) (v9 + 1)))))
def wp_L_stopsAhead_56 (P : Int32 → Prop) (lq : Nat → Int32) (lr : Nat → Int32) (lw : Nat → Int32) (x0 : Int32) (x1 : Int32) (r6 : Int32 → Int32 → Prop) (v5 : Int32) (v6 : Int32) (v7 : Int32) : Nat → Int32 → Int32 → Prop
  | 0 => fun _ _ => False
  | n + 1 => wp_L_stopsAhead_56F P lq lr lw x0 x1 r6 v5 v6 v7 (wp_L_stopsAhead_56 P lq lr lw x0 x1 r6 v5 v6 v7 n)
def wp_L_stopsAhead_6F (P : Int32 → Prop) (lq : Nat → Int32) (lr : Nat → Int32) (lw : Nat → Int32) (x0 : Int32) (x1 : Int32) (r6 : Int32 → Int32 → Prop) (v5 : Int32) (v6 : Int32) : Prop :=
  (((lq (5 : Int32).toNatClampNeg) ≤ v6) →
    P v5) ∧
  ((¬ (lq (5 : Int32).toNatClampNeg) ≤ v6) →
    vp_in v6 24 ∧
    ∀ y_4 : Int32, y_4 = (((lr v6.toNatClampNeg) >>> ((3 : Int32) &&& 31)) &&& (1023 : Int32)) →
    vp_in v6 24 ∧
    ((¬ (lw v6.toNatClampNeg) = x0) →
      ∃ n : Nat, wp_L_stopsAhead_56 P lq lr lw x0 x1 r6 v5 v6 y_4 n (0 : Int32) (0 : Int32)) ∧
    (((lw v6.toNatClampNeg) = x0) →
      vp_in v6 24 ∧
      wp_L_keyOf (fun r_8 =>
        ((x1 ≤ r_8) →
          ∃ n : Nat, wp_L_stopsAhead_56 P lq lr lw x0 x1 r6 v5 v6 y_4 n (0 : Int32) (0 : Int32)) ∧
        ((¬ x1 ≤ r_8) →
          ∃ n : Nat, wp_L_stopsAhead_56 P lq lr lw x0 x1 r6 v5 v6 y_4 n (1 : Int32) (0 : Int32))) (lr v6.toNatClampNeg)))
def wp_L_stopsAhead_6 (P : Int32 → Prop) (lq : Nat → Int32) (lr : Nat → Int32) (lw : Nat → Int32) (x0 : Int32) (x1 : Int32) : Nat → Int32 → Int32 → Prop
  | 0 => fun _ _ => False
  | n + 1 => wp_L_stopsAhead_6F P lq lr lw x0 x1 (wp_L_stopsAhead_6 P lq lr lw x0 x1 n)
def wp_L_stopsAhead (P : Int32 → Prop) (lq : Nat → Int32) (lr : Nat → Int32) (lw : Nat → Int32) (x0 : Int32) (x1 : Int32) : Prop :=
  ∃ n : Nat, wp_L_stopsAhead_6 P lq lr lw x0 x1 n (0 : Int32) (0 : Int32)
def wp_L_minuteAt_6F (P : Int32 → Prop) (lq : Nat → Int32) (lr : Nat → Int32) (lw : Nat → Int32) (x0 : Int32) (x1 : Int32) (r6 : Int32 → Int32 → Prop) (v5 : Int32) (v6 : Int32) : Prop :=
  (((lq (5 : Int32).toNatClampNeg) ≤ v6) →
    wp_L_stopsAhead (fun r_3 =>
      vp_in ((18 : Int32) + x0) 34 ∧
      wp_L_ones (fun r_5 =>
        P ((((lq ((18 : Int32) + x0).toNatClampNeg) + (10 : Int32)) + ((5 : Int32) * (x1 / (100 : Int32)))) + ((3 : Int32) * ((r_3 + (1 : Int32)) - r_5)))) v5) lq lr lw x0 x1) ∧
  ((¬ (lq (5 : Int32).toNatClampNeg) ≤ v6) →
    vp_in v6 24 ∧
    ((¬ (lw v6.toNatClampNeg) = x0) →
      r6 (v5 ||| (0 : Int32)) (v6 + 1)) ∧
    (((lw v6.toNatClampNeg) = x0) →
      vp_in v6 24 ∧
      wp_L_keyOf (fun r_9 =>
        ((x1 < r_9) →
          r6 (v5 ||| (0 : Int32)) (v6 + 1)) ∧
        ((¬ x1 < r_9) →
          vp_in v6 24 ∧
          wp_L_areaOf (fun r_12 =>
            r6 (v5 ||| ((1 : Int32) <<< (r_12 &&& 31))) (v6 + 1)) (lr v6.toNatClampNeg))) (lr v6.toNatClampNeg)))
def wp_L_minuteAt_6 (P : Int32 → Prop) (lq : Nat → Int32) (lr : Nat → Int32) (lw : Nat → Int32) (x0 : Int32) (x1 : Int32) : Nat → Int32 → Int32 → Prop
  | 0 => fun _ _ => False
  | n + 1 => wp_L_minuteAt_6F P lq lr lw x0 x1 (wp_L_minuteAt_6 P lq lr lw x0 x1 n)
def wp_L_minuteAt (P : Int32 → Prop) (lq : Nat → Int32) (lr : Nat → Int32) (lw : Nat → Int32) (x0 : Int32) (x1 : Int32) : Prop :=
  ∃ n : Nat, wp_L_minuteAt_6 P lq lr lw x0 x1 n (0 : Int32) (0 : Int32)
def wp_L_part_53 (P : Int32 → Prop) (lq : Nat → Int32) (lr : Nat → Int32) (lw : Nat → Int32) (x0 : Int32) (x1 : Int32) (x2 : Int32) (r6 : Int32 → Int32 → Prop) (v6 : Int32) (v7 : Int32) (w0 : Int32) : Prop :=
  ((w0 = 0) →
    r6 (v6 + (0 : Int32)) (v7 + 1)) ∧
  ((¬ w0 = 0) →
    vp_in v7 24 ∧
    wp_L_people (fun r_29 =>
      r6 (v6 + r_29) (v7 + 1)) (lr v7.toNatClampNeg))
def wp_L_part_165 (P : Int32 → Prop) (lq : Nat → Int32) (lr : Nat → Int32) (lw : Nat → Int32) (x0 : Int32) (x1 : Int32) (x2 : Int32) (r92 : Int32 → Int32 → Int32 → Prop) (v6 : Int32) (v8 : Int32) (v9 : Int32) (v10 : Int32) (w0 : Int32) (w1 : Int32) : Prop :=
  ((v10 = 0) →
    r92 (w0 - w1) (v8 + (0 : Int32)) (v9 + 1)) ∧
  ((¬ v10 = 0) →
    ((x0 ≤ v9) →
      r92 (w0 - w1) (v8 + (0 : Int32)) (v9 + 1)) ∧
    ((¬ x0 ≤ v9) →
      r92 (w0 - w1) (v8 + (1 : Int32)) (v9 + 1)))
def wp_L_part_139 (P : Int32 → Prop) (lq : Nat → Int32) (lr : Nat → Int32) (lw : Nat → Int32) (x0 : Int32) (x1 : Int32) (x2 : Int32) (r92 : Int32 → Int32 → Int32 → Prop) (v6 : Int32) (v7 : Int32) (v8 : Int32) (v9 : Int32) (w0 : Int32) : Prop :=
  ((w0 = 0) →
    wp_L_part_165 P lq lr lw x0 x1 x2 r92 v6 v8 v9 w0 v7 (0 : Int32)) ∧
  ((¬ w0 = 0) →
    vp_in v9 24 ∧
    wp_L_people (fun r_32 =>
      ¬ v6 = 0 ∧
      wp_L_part_165 P lq lr lw x0 x1 x2 r92 v6 v8 v9 w0 v7 ((x1 * r_32) / v6)) (lr v9.toNatClampNeg))
def wp_L_part_92F (P : Int32 → Prop) (lq : Nat → Int32) (lr : Nat → Int32) (lw : Nat → Int32) (x0 : Int32) (x1 : Int32) (x2 : Int32) (v6 : Int32) (r92 : Int32 → Int32 → Int32 → Prop) (v7 : Int32) (v8 : Int32) (v9 : Int32) : Prop :=
  (((lq (5 : Int32).toNatClampNeg) ≤ v9) →
    vp_in x0 24 ∧
    wp_L_people (fun r_15 =>
      ¬ v6 = 0 ∧
      ((v7 ≤ v8) →
        P (((x1 * r_15) / v6) + (0 : Int32))) ∧
      ((¬ v7 ≤ v8) →
        P (((x1 * r_15) / v6) + (1 : Int32)))) (lr x0.toNatClampNeg)) ∧
  ((¬ (lq (5 : Int32).toNatClampNeg) ≤ v9) →
    vp_in v9 24 ∧
    vp_in x0 24 ∧
    ((¬ (lw v9.toNatClampNeg) = (lw x0.toNatClampNeg)) →
      wp_L_part_139 P lq lr lw x0 x1 x2 r92 v6 v7 v8 v9 (0 : Int32)) ∧
    (((lw v9.toNatClampNeg) = (lw x0.toNatClampNeg)) →
      ((x2 = 0) →
        wp_L_part_139 P lq lr lw x0 x1 x2 r92 v6 v7 v8 v9 (1 : Int32)) ∧
      ((¬ x2 = 0) →
        vp_in v9 24 ∧
        wp_L_keyOf (fun r_23 =>
          vp_in x0 24 ∧
          wp_L_keyOf (fun r_25 =>
            ((¬ r_23 = r_25) →
              wp_L_part_139 P lq lr lw x0 x1 x2 r92 v6 v7 v8 v9 (0 : Int32)) ∧
            ((r_23 = r_25) →
              wp_L_part_139 P lq lr lw x0 x1 x2 r92 v6 v7 v8 v9 (1 : Int32))) (lr x0.toNatClampNeg)) (lr v9.toNatClampNeg))))
def wp_L_part_92 (P : Int32 → Prop) (lq : Nat → Int32) (lr : Nat → Int32) (lw : Nat → Int32) (x0 : Int32) (x1 : Int32) (x2 : Int32) (v6 : Int32) : Nat → Int32 → Int32 → Int32 → Prop
  | 0 => fun _ _ _ => False
  | n + 1 => wp_L_part_92F P lq lr lw x0 x1 x2 v6 (wp_L_part_92 P lq lr lw x0 x1 x2 v6 n)
def wp_L_part_6F (P : Int32 → Prop) (lq : Nat → Int32) (lr : Nat → Int32) (lw : Nat → Int32) (x0 : Int32) (x1 : Int32) (x2 : Int32) (r6 : Int32 → Int32 → Prop) (v6 : Int32) (v7 : Int32) : Prop :=
  (((lq (5 : Int32).toNatClampNeg) ≤ v7) →
    ∃ n : Nat, wp_L_part_92 P lq lr lw x0 x1 x2 v6 n x1 (0 : Int32) (0 : Int32)) ∧
  ((¬ (lq (5 : Int32).toNatClampNeg) ≤ v7) →
    vp_in v7 24 ∧
    vp_in x0 24 ∧
    ((¬ (lw v7.toNatClampNeg) = (lw x0.toNatClampNeg)) →
      wp_L_part_53 P lq lr lw x0 x1 x2 r6 v6 v7 (0 : Int32)) ∧
    (((lw v7.toNatClampNeg) = (lw x0.toNatClampNeg)) →
      ((x2 = 0) →
        wp_L_part_53 P lq lr lw x0 x1 x2 r6 v6 v7 (1 : Int32)) ∧
      ((¬ x2 = 0) →
        vp_in v7 24 ∧
        wp_L_keyOf (fun r_8 =>
          vp_in x0 24 ∧
          wp_L_keyOf (fun r_10 =>
            ((¬ r_8 = r_10) →
              wp_L_part_53 P lq lr lw x0 x1 x2 r6 v6 v7 (0 : Int32)) ∧
            ((r_8 = r_10) →
              wp_L_part_53 P lq lr lw x0 x1 x2 r6 v6 v7 (1 : Int32))) (lr x0.toNatClampNeg)) (lr v7.toNatClampNeg))))
def wp_L_part_6 (P : Int32 → Prop) (lq : Nat → Int32) (lr : Nat → Int32) (lw : Nat → Int32) (x0 : Int32) (x1 : Int32) (x2 : Int32) : Nat → Int32 → Int32 → Prop
  | 0 => fun _ _ => False
  | n + 1 => wp_L_part_6F P lq lr lw x0 x1 x2 (wp_L_part_6 P lq lr lw x0 x1 x2 n)
def wp_L_part (P : Int32 → Prop) (lq : Nat → Int32) (lr : Nat → Int32) (lw : Nat → Int32) (x0 : Int32) (x1 : Int32) (x2 : Int32) : Prop :=
  ∃ n : Nat, wp_L_part_6 P lq lr lw x0 x1 x2 n (0 : Int32) (0 : Int32)
def wp_L_isRider_176F (P : Int32 → (Nat → Int32) → (Nat → Int32) → (Nat → Int32) → Int32 → Prop) (now : StT) (pln : PlT) (way : WyT) (lq : Nat → Int32) (lr : Nat → Int32) (lw : Nat → Int32) (x1 : Int32) (v5 : Int32) (v6 : Int32) (v7 : Int32) (way_ky : Nat → Int32) (way_wp : Nat → Int32) (way_mi : Nat → Int32) (way_so : Int32) (r176 : Int32 → Int32 → Prop) (v8 : Int32) (v9 : Int32) : Prop :=
  (((lq (5 : Int32).toNatClampNeg) ≤ v9) →
    ((v7 = 0) →
      P (0 : Int32) way_ky way_wp way_mi way_so) ∧
    ((¬ v7 = 0) →
      wp_X5_rider (fun r_78 ky_74 wp_75 mi_76 so_77 =>
        vp_in ((18 : Int32) + v6) 34 ∧
        wp_L_ready (fun r_80 =>
          ((¬ r_78 = ((lq ((18 : Int32) + v6).toNatClampNeg) - r_80)) →
            P (0 : Int32) ky_74 wp_75 mi_76 so_77) ∧
          ((r_78 = ((lq ((18 : Int32) + v6).toNatClampNeg) - r_80)) →
            wp_X5_rider (fun r_86 ky_82 wp_83 mi_84 so_85 =>
              wp_L_keyOf (fun r_87 =>
                wp_L_minuteAt (fun r_88 =>
                  ((¬ r_86 = r_88) →
                    P (0 : Int32) ky_82 wp_83 mi_84 so_85) ∧
                  ((r_86 = r_88) →
                    wp_X5_rider (fun r_94 ky_90 wp_91 mi_92 so_93 =>
                      wp_L_part (fun r_96 =>
                        wp_L_part (fun r_98 =>
                          ((¬ r_94 = (r_96 + r_98)) →
                            P (0 : Int32) ky_90 wp_91 mi_92 so_93) ∧
                          ((r_94 = (r_96 + r_98)) →
                            wp_X5_rider (fun r_104 ky_100 wp_101 mi_102 so_103 =>
                              ((¬ r_104 = v8) →
                                P (0 : Int32) ky_100 wp_101 mi_102 so_103) ∧
                              ((r_104 = v8) →
                                P (1 : Int32) ky_100 wp_101 mi_102 so_103)) now pln (mkWy ky_90 wp_91 mi_92 so_93) x1 (9 : Int32))) lq lr lw x1 (lq (4 : Int32).toNatClampNeg) (1 : Int32)) lq lr lw x1 (lq (3 : Int32).toNatClampNeg) (0 : Int32)) now pln (mkWy ky_82 wp_83 mi_84 so_85) x1 (8 : Int32))) lq lr lw v6 r_87) v5) now pln (mkWy ky_74 wp_75 mi_76 so_77) x1 (7 : Int32))) lq v5) now pln (mkWy way_ky way_wp way_mi way_so) x1 (6 : Int32))) ∧
  ((¬ (lq (5 : Int32).toNatClampNeg) ≤ v9) →
    vp_in v9 24 ∧
    ((¬ (lw v9.toNatClampNeg) = v6) →
      r176 (v8 + (0 : Int32)) (v9 + 1)) ∧
    (((lw v9.toNatClampNeg) = v6) →
      vp_in v9 24 ∧
      wp_L_keyOf (fun r_109 =>
        wp_L_keyOf (fun r_110 =>
          ((¬ r_109 = r_110) →
            r176 (v8 + (0 : Int32)) (v9 + 1)) ∧
          ((r_109 = r_110) →
            r176 (v8 + (1 : Int32)) (v9 + 1))) v5) (lr v9.toNatClampNeg)))
def wp_L_isRider_176 (P : Int32 → (Nat → Int32) → (Nat → Int32) → (Nat → Int32) → Int32 → Prop) (now : StT) (pln : PlT) (way : WyT) (lq : Nat → Int32) (lr : Nat → Int32) (lw : Nat → Int32) (x1 : Int32) (v5 : Int32) (v6 : Int32) (v7 : Int32) (way_ky : Nat → Int32) (way_wp : Nat → Int32) (way_mi : Nat → Int32) (way_so : Int32) : Nat → Int32 → Int32 → Prop
  | 0 => fun _ _ => False
  | n + 1 => wp_L_isRider_176F P now pln way lq lr lw x1 v5 v6 v7 way_ky way_wp way_mi way_so (wp_L_isRider_176 P now pln way lq lr lw x1 v5 v6 v7 way_ky way_wp way_mi way_so n)
def wp_L_isRider_108 (P : Int32 → (Nat → Int32) → (Nat → Int32) → (Nat → Int32) → Int32 → Prop) (now : StT) (pln : PlT) (way : WyT) (lq : Nat → Int32) (lr : Nat → Int32) (lw : Nat → Int32) (x1 : Int32) (v5 : Int32) (v6 : Int32) (w0 : Int32) (way_ky : Nat → Int32) (way_wp : Nat → Int32) (way_mi : Nat → Int32) (way_so : Int32) : Prop :=
  ((0 ≤ v6) →
    ∃ n : Nat, wp_L_isRider_176 P now pln way lq lr lw x1 v5 v6 w0 way_ky way_wp way_mi way_so n (-1 : Int32) (0 : Int32)) ∧
  ((¬ 0 ≤ v6) →
    ((w0 = 0) →
      P (0 : Int32) way_ky way_wp way_mi way_so) ∧
    ((¬ w0 = 0) →
      wp_X5_rider (fun r_50 ky_46 wp_47 mi_48 so_49 =>
        ((¬ r_50 = (-106 : Int32)) →
          P (0 : Int32) ky_46 wp_47 mi_48 so_49) ∧
        ((r_50 = (-106 : Int32)) →
          wp_X5_rider (fun r_56 ky_52 wp_53 mi_54 so_55 =>
            ((¬ r_56 = (-106 : Int32)) →
              P (0 : Int32) ky_52 wp_53 mi_54 so_55) ∧
            ((r_56 = (-106 : Int32)) →
              wp_X5_rider (fun r_62 ky_58 wp_59 mi_60 so_61 =>
                ((¬ r_62 = 0) →
                  P (0 : Int32) ky_58 wp_59 mi_60 so_61) ∧
                ((r_62 = 0) →
                  wp_X5_rider (fun r_68 ky_64 wp_65 mi_66 so_67 =>
                    ((¬ r_68 = 0) →
                      P (0 : Int32) ky_64 wp_65 mi_66 so_67) ∧
                    ((r_68 = 0) →
                      P (1 : Int32) ky_64 wp_65 mi_66 so_67)) now pln (mkWy ky_58 wp_59 mi_60 so_61) x1 (9 : Int32))) now pln (mkWy ky_52 wp_53 mi_54 so_55) x1 (8 : Int32))) now pln (mkWy ky_46 wp_47 mi_48 so_49) x1 (7 : Int32))) now pln (mkWy way_ky way_wp way_mi way_so) x1 (6 : Int32)))
def wp_L_isRider_100 (P : Int32 → (Nat → Int32) → (Nat → Int32) → (Nat → Int32) → Int32 → Prop) (now : StT) (pln : PlT) (way : WyT) (lq : Nat → Int32) (lr : Nat → Int32) (lw : Nat → Int32) (x1 : Int32) (v5 : Int32) (v6 : Int32) (w0 : Int32) (w1 : Int32) (way_ky : Nat → Int32) (way_wp : Nat → Int32) (way_mi : Nat → Int32) (way_so : Int32) : Prop :=
  ((¬ w0 = w1) →
    wp_L_isRider_108 P now pln way lq lr lw x1 v5 v6 (0 : Int32) way_ky way_wp way_mi way_so) ∧
  ((w0 = w1) →
    wp_L_isRider_108 P now pln way lq lr lw x1 v5 v6 (1 : Int32) way_ky way_wp way_mi way_so)
def wp_L_isRider (P : Int32 → (Nat → Int32) → (Nat → Int32) → (Nat → Int32) → Int32 → Prop) (now : StT) (pln : PlT) (way : WyT) (lq : Nat → Int32) (lr : Nat → Int32) (lw : Nat → Int32) (x1 : Int32) : Prop :=
  vp_in x1 24 ∧
  vp_in x1 24 ∧
  wp_X5_rider (fun r_7 ky_3 wp_4 mi_5 so_6 =>
    wp_L_flightOf (fun r_8 =>
      ((¬ r_7 = r_8) →
        wp_L_isRider_108 P now pln way lq lr lw x1 (lr x1.toNatClampNeg) (lw x1.toNatClampNeg) (0 : Int32) ky_3 wp_4 mi_5 so_6) ∧
      ((r_7 = r_8) →
        wp_X5_rider (fun r_14 ky_10 wp_11 mi_12 so_13 =>
          wp_L_areaOf (fun r_15 =>
            ((¬ r_14 = r_15) →
              wp_L_isRider_108 P now pln way lq lr lw x1 (lr x1.toNatClampNeg) (lw x1.toNatClampNeg) (0 : Int32) ky_10 wp_11 mi_12 so_13) ∧
            ((r_14 = r_15) →
              wp_X5_rider (fun r_21 ky_17 wp_18 mi_19 so_20 =>
                wp_L_doorOf (fun r_22 =>
                  ((¬ r_21 = r_22) →
                    wp_L_isRider_108 P now pln way lq lr lw x1 (lr x1.toNatClampNeg) (lw x1.toNatClampNeg) (0 : Int32) ky_17 wp_18 mi_19 so_20) ∧
                  ((r_21 = r_22) →
                    wp_X5_rider (fun r_28 ky_24 wp_25 mi_26 so_27 =>
                      wp_L_people (fun r_29 =>
                        ((¬ r_28 = r_29) →
                          wp_L_isRider_108 P now pln way lq lr lw x1 (lr x1.toNatClampNeg) (lw x1.toNatClampNeg) (0 : Int32) ky_24 wp_25 mi_26 so_27) ∧
                        ((r_28 = r_29) →
                          wp_X5_rider (fun r_35 ky_31 wp_32 mi_33 so_34 =>
                            wp_L_ready (fun r_36 =>
                              ((¬ r_35 = r_36) →
                                wp_L_isRider_108 P now pln way lq lr lw x1 (lr x1.toNatClampNeg) (lw x1.toNatClampNeg) (0 : Int32) ky_31 wp_32 mi_33 so_34) ∧
                              ((r_35 = r_36) →
                                wp_X5_rider (fun r_42 ky_38 wp_39 mi_40 so_41 =>
                                  ((0 ≤ (lw x1.toNatClampNeg)) →
                                    wp_L_isRider_100 P now pln way lq lr lw x1 (lr x1.toNatClampNeg) (lw x1.toNatClampNeg) r_42 (lw x1.toNatClampNeg) ky_38 wp_39 mi_40 so_41) ∧
                                  ((¬ 0 ≤ (lw x1.toNatClampNeg)) →
                                    wp_L_isRider_100 P now pln way lq lr lw x1 (lr x1.toNatClampNeg) (lw x1.toNatClampNeg) r_42 (-106 : Int32) ky_38 wp_39 mi_40 so_41)) now pln (mkWy ky_31 wp_32 mi_33 so_34) x1 (5 : Int32))) lq (lr x1.toNatClampNeg)) now pln (mkWy ky_24 wp_25 mi_26 so_27) x1 (4 : Int32))) (lr x1.toNatClampNeg)) now pln (mkWy ky_17 wp_18 mi_19 so_20) x1 (3 : Int32))) (lr x1.toNatClampNeg)) now pln (mkWy ky_10 wp_11 mi_12 so_13) x1 (2 : Int32))) (lr x1.toNatClampNeg)) now pln (mkWy ky_3 wp_4 mi_5 so_6) x1 (1 : Int32))) (lr x1.toNatClampNeg)) now pln way x1 (0 : Int32)
def wp_L_isVan_94 (P : Int32 → (Nat → Int32) → (Nat → Int32) → (Nat → Int32) → Int32 → Prop) (now : StT) (pln : PlT) (way : WyT) (lq : Nat → Int32) (lr : Nat → Int32) (lw : Nat → Int32) (lg : Nat → Int32) (x1 : Int32) (x2 : Int32) (r29 : Int32 → Int32 → Int32 → Int32 → Prop) (v7 : Int32) (v9 : Int32) (v10 : Int32) (v11 : Int32) (v12 : Int32) (w0 : Int32) (way_ky : Nat → Int32) (way_wp : Nat → Int32) (way_mi : Nat → Int32) (way_so : Int32) : Prop :=
  vp_in v12 24 ∧
  ((¬ (lw v12.toNatClampNeg) = x1) →
    r29 v7 w0 v9 (v12 + 1)) ∧
  (((lw v12.toNatClampNeg) = x1) →
    vp_in v12 24 ∧
    wp_L_keyOf (fun r_121 =>
      wp_L_stopsAhead (fun r_122 =>
        ((¬ r_122 = x2) →
          r29 v7 w0 v9 (v12 + 1)) ∧
        ((r_122 = x2) →
          vp_in v12 24 ∧
          wp_L_keyOf (fun r_125 =>
            r29 v7 w0 r_125 (v12 + 1)) (lr v12.toNatClampNeg))) lq lr lw x1 r_121) (lr v12.toNatClampNeg))
def wp_L_isVan_56 (P : Int32 → (Nat → Int32) → (Nat → Int32) → (Nat → Int32) → Int32 → Prop) (now : StT) (pln : PlT) (way : WyT) (lq : Nat → Int32) (lr : Nat → Int32) (lw : Nat → Int32) (lg : Nat → Int32) (x1 : Int32) (x2 : Int32) (r29 : Int32 → Int32 → Int32 → Int32 → Prop) (v8 : Int32) (v9 : Int32) (v10 : Int32) (v11 : Int32) (v12 : Int32) (w0 : Int32) (w1 : Int32) (way_ky : Nat → Int32) (way_wp : Nat → Int32) (way_mi : Nat → Int32) (way_so : Int32) : Prop :=
  vp_in v12 24 ∧
  ((¬ (lw v12.toNatClampNeg) = x1) →
    wp_L_isVan_94 P now pln way lq lr lw lg x1 x2 r29 (w0 ||| w1) v9 v10 v11 v12 v8 way_ky way_wp way_mi way_so) ∧
  (((lw v12.toNatClampNeg) = x1) →
    vp_in v12 24 ∧
    wp_L_keyOf (fun r_65 =>
      ((r_65 ≤ v8) →
        wp_L_isVan_94 P now pln way lq lr lw lg x1 x2 r29 (w0 ||| w1) v9 v10 v11 v12 v8 way_ky way_wp way_mi way_so) ∧
      ((¬ r_65 ≤ v8) →
        vp_in v12 24 ∧
        wp_L_keyOf (fun r_68 =>
          wp_L_isVan_94 P now pln way lq lr lw lg x1 x2 r29 (w0 ||| w1) v9 v10 v11 v12 r_68 way_ky way_wp way_mi way_so) (lr v12.toNatClampNeg))) (lr v12.toNatClampNeg))
def wp_L_isVan_349 (P : Int32 → (Nat → Int32) → (Nat → Int32) → (Nat → Int32) → Int32 → Prop) (now : StT) (pln : PlT) (way : WyT) (lq : Nat → Int32) (lr : Nat → Int32) (lw : Nat → Int32) (lg : Nat → Int32) (x1 : Int32) (x2 : Int32) (v9 : Int32) (v10 : Int32) (v11 : Int32) (w0 : Int32) (way_ky : Nat → Int32) (way_wp : Nat → Int32) (way_mi : Nat → Int32) (way_so : Int32) : Prop :=
  ((x2 < v10) →
    ((w0 = 0) →
      P (0 : Int32) way_ky way_wp way_mi way_so) ∧
    ((¬ w0 = 0) →
      wp_X5_stop (fun r_75 ky_71 wp_72 mi_73 so_74 =>
        ((¬ r_75 = (v9 / (100 : Int32))) →
          P (0 : Int32) ky_71 wp_72 mi_73 so_74) ∧
        ((r_75 = (v9 / (100 : Int32))) →
          wp_X5_stop (fun r_81 ky_77 wp_78 mi_79 so_80 =>
            ((¬ r_81 = (v9 - v9 / (100 : Int32) * (100 : Int32))) →
              P (0 : Int32) ky_77 wp_78 mi_79 so_80) ∧
            ((r_81 = (v9 - v9 / (100 : Int32) * (100 : Int32))) →
              wp_X5_stop (fun r_87 ky_83 wp_84 mi_85 so_86 =>
                wp_L_minuteAt (fun r_88 =>
                  ((¬ r_87 = r_88) →
                    P (0 : Int32) ky_83 wp_84 mi_85 so_86) ∧
                  ((r_87 = r_88) →
                    wp_X5_stop (fun r_94 ky_90 wp_91 mi_92 so_93 =>
                      ((¬ r_94 = v11) →
                        P (0 : Int32) ky_90 wp_91 mi_92 so_93) ∧
                      ((r_94 = v11) →
                        wp_X5_stop (fun r_100 ky_96 wp_97 mi_98 so_99 =>
                          ((¬ r_100 = (-102 : Int32)) →
                            P (0 : Int32) ky_96 wp_97 mi_98 so_99) ∧
                          ((r_100 = (-102 : Int32)) →
                            P (1 : Int32) ky_96 wp_97 mi_98 so_99)) now pln (mkWy ky_90 wp_91 mi_92 so_93) x1 x2 (4 : Int32))) now pln (mkWy ky_83 wp_84 mi_85 so_86) x1 x2 (3 : Int32))) lq lr lw x1 v9) now pln (mkWy ky_77 wp_78 mi_79 so_80) x1 x2 (2 : Int32))) now pln (mkWy ky_71 wp_72 mi_73 so_74) x1 x2 (1 : Int32))) now pln (mkWy way_ky way_wp way_mi way_so) x1 x2 (0 : Int32))) ∧
  ((¬ x2 < v10) →
    ((w0 = 0) →
      P (0 : Int32) way_ky way_wp way_mi way_so) ∧
    ((¬ w0 = 0) →
      wp_X5_stop (fun r_107 ky_103 wp_104 mi_105 so_106 =>
        ((¬ r_107 = (-101 : Int32)) →
          P (0 : Int32) ky_103 wp_104 mi_105 so_106) ∧
        ((r_107 = (-101 : Int32)) →
          P (1 : Int32) ky_103 wp_104 mi_105 so_106)) now pln (mkWy way_ky way_wp way_mi way_so) x1 x2 (0 : Int32)))
def wp_L_isVan_341 (P : Int32 → (Nat → Int32) → (Nat → Int32) → (Nat → Int32) → Int32 → Prop) (now : StT) (pln : PlT) (way : WyT) (lq : Nat → Int32) (lr : Nat → Int32) (lw : Nat → Int32) (lg : Nat → Int32) (x1 : Int32) (x2 : Int32) (v9 : Int32) (v10 : Int32) (v11 : Int32) (w0 : Int32) (w1 : Int32) (way_ky : Nat → Int32) (way_wp : Nat → Int32) (way_mi : Nat → Int32) (way_so : Int32) : Prop :=
  ((¬ w0 = w1) →
    wp_L_isVan_349 P now pln way lq lr lw lg x1 x2 v9 v10 v11 (0 : Int32) way_ky way_wp way_mi way_so) ∧
  ((w0 = w1) →
    wp_L_isVan_349 P now pln way lq lr lw lg x1 x2 v9 v10 v11 (1 : Int32) way_ky way_wp way_mi way_so)
def wp_L_isVan_312 (P : Int32 → (Nat → Int32) → (Nat → Int32) → (Nat → Int32) → Int32 → Prop) (now : StT) (pln : PlT) (way : WyT) (lq : Nat → Int32) (lr : Nat → Int32) (lw : Nat → Int32) (lg : Nat → Int32) (x1 : Int32) (x2 : Int32) (v9 : Int32) (v10 : Int32) (v11 : Int32) (w0 : Int32) (w1 : Int32) (way_ky : Nat → Int32) (way_wp : Nat → Int32) (way_mi : Nat → Int32) (way_so : Int32) : Prop :=
  ((¬ w0 = w1) →
    wp_L_isVan_349 P now pln way lq lr lw lg x1 x2 v9 v10 v11 (0 : Int32) way_ky way_wp way_mi way_so) ∧
  ((w0 = w1) →
    wp_X5_vanOf (fun r_114 ky_110 wp_111 mi_112 so_113 =>
      ((¬ v10 = 0) →
        wp_L_isVan_341 P now pln way lq lr lw lg x1 x2 v9 v10 v11 r_114 ((lq (3 : Int32).toNatClampNeg) + ((lq (4 : Int32).toNatClampNeg) * v10)) ky_110 wp_111 mi_112 so_113) ∧
      ((v10 = 0) →
        wp_L_isVan_341 P now pln way lq lr lw lg x1 x2 v9 v10 v11 r_114 (0 : Int32) ky_110 wp_111 mi_112 so_113)) now pln (mkWy way_ky way_wp way_mi way_so) x1 (7 : Int32))
def wp_L_isVan_150F (P : Int32 → (Nat → Int32) → (Nat → Int32) → (Nat → Int32) → Int32 → Prop) (now : StT) (pln : PlT) (way : WyT) (lq : Nat → Int32) (lr : Nat → Int32) (lw : Nat → Int32) (lg : Nat → Int32) (x1 : Int32) (x2 : Int32) (v7 : Int32) (v8 : Int32) (v9 : Int32) (v10 : Int32) (way_ky : Nat → Int32) (way_wp : Nat → Int32) (way_mi : Nat → Int32) (way_so : Int32) (r150 : Int32 → Int32 → Prop) (v11 : Int32) (v12 : Int32) : Prop :=
  (((lq (5 : Int32).toNatClampNeg) ≤ v12) →
    wp_X5_vanOf (fun r_12 ky_8 wp_9 mi_10 so_11 =>
      vp_in ((18 : Int32) + x1) 34 ∧
      ((¬ r_12 = (lq ((18 : Int32) + x1).toNatClampNeg)) →
        wp_L_isVan_349 P now pln way lq lr lw lg x1 x2 v9 v10 v11 (0 : Int32) ky_8 wp_9 mi_10 so_11) ∧
      ((r_12 = (lq ((18 : Int32) + x1).toNatClampNeg)) →
        wp_X5_vanOf (fun r_19 ky_15 wp_16 mi_17 so_18 =>
          vp_in ((26 : Int32) + x1) 34 ∧
          ((¬ r_19 = (lq ((26 : Int32) + x1).toNatClampNeg)) →
            wp_L_isVan_349 P now pln way lq lr lw lg x1 x2 v9 v10 v11 (0 : Int32) ky_15 wp_16 mi_17 so_18) ∧
          ((r_19 = (lq ((26 : Int32) + x1).toNatClampNeg)) →
            wp_X5_vanOf (fun r_26 ky_22 wp_23 mi_24 so_25 =>
              vp_in x1 16 ∧
              ((¬ r_26 = (lg x1.toNatClampNeg)) →
                wp_L_isVan_349 P now pln way lq lr lw lg x1 x2 v9 v10 v11 (0 : Int32) ky_22 wp_23 mi_24 so_25) ∧
              ((r_26 = (lg x1.toNatClampNeg)) →
                wp_X5_vanOf (fun r_33 ky_29 wp_30 mi_31 so_32 =>
                  ((¬ r_33 = v7) →
                    wp_L_isVan_349 P now pln way lq lr lw lg x1 x2 v9 v10 v11 (0 : Int32) ky_29 wp_30 mi_31 so_32) ∧
                  ((r_33 = v7) →
                    wp_X5_vanOf (fun r_39 ky_35 wp_36 mi_37 so_38 =>
                      vp_in ((8 : Int32) + x1) 16 ∧
                      ((¬ r_39 = (lg ((8 : Int32) + x1).toNatClampNeg)) →
                        wp_L_isVan_349 P now pln way lq lr lw lg x1 x2 v9 v10 v11 (0 : Int32) ky_35 wp_36 mi_37 so_38) ∧
                      ((r_39 = (lg ((8 : Int32) + x1).toNatClampNeg)) →
                        wp_X5_vanOf (fun r_46 ky_42 wp_43 mi_44 so_45 =>
                          ((¬ r_46 = v10) →
                            wp_L_isVan_349 P now pln way lq lr lw lg x1 x2 v9 v10 v11 (0 : Int32) ky_42 wp_43 mi_44 so_45) ∧
                          ((r_46 = v10) →
                            wp_X5_vanOf (fun r_52 ky_48 wp_49 mi_50 so_51 =>
                              ((¬ v10 = 0) →
                                wp_L_minuteAt (fun r_54 =>
                                  wp_L_isVan_312 P now pln way lq lr lw lg x1 x2 v9 v10 v11 r_52 r_54 ky_48 wp_49 mi_50 so_51) lq lr lw x1 v8) ∧
                              ((v10 = 0) →
                                wp_L_isVan_312 P now pln way lq lr lw lg x1 x2 v9 v10 v11 r_52 (-106 : Int32) ky_48 wp_49 mi_50 so_51)) now pln (mkWy ky_42 wp_43 mi_44 so_45) x1 (6 : Int32))) now pln (mkWy ky_35 wp_36 mi_37 so_38) x1 (5 : Int32))) now pln (mkWy ky_29 wp_30 mi_31 so_32) x1 (4 : Int32))) now pln (mkWy ky_22 wp_23 mi_24 so_25) x1 (3 : Int32))) now pln (mkWy ky_15 wp_16 mi_17 so_18) x1 (2 : Int32))) now pln (mkWy ky_8 wp_9 mi_10 so_11) x1 (1 : Int32))) now pln (mkWy way_ky way_wp way_mi way_so) x1 (0 : Int32)) ∧
  ((¬ (lq (5 : Int32).toNatClampNeg) ≤ v12) →
    vp_in v12 24 ∧
    ((¬ (lw v12.toNatClampNeg) = x1) →
      r150 (v11 + (0 : Int32)) (v12 + 1)) ∧
    (((lw v12.toNatClampNeg) = x1) →
      vp_in v12 24 ∧
      wp_L_keyOf (fun r_58 =>
        ((¬ r_58 = v9) →
          r150 (v11 + (0 : Int32)) (v12 + 1)) ∧
        ((r_58 = v9) →
          vp_in v12 24 ∧
          wp_L_people (fun r_61 =>
            r150 (v11 + r_61) (v12 + 1)) (lr v12.toNatClampNeg))) (lr v12.toNatClampNeg)))
def wp_L_isVan_150 (P : Int32 → (Nat → Int32) → (Nat → Int32) → (Nat → Int32) → Int32 → Prop) (now : StT) (pln : PlT) (way : WyT) (lq : Nat → Int32) (lr : Nat → Int32) (lw : Nat → Int32) (lg : Nat → Int32) (x1 : Int32) (x2 : Int32) (v7 : Int32) (v8 : Int32) (v9 : Int32) (v10 : Int32) (way_ky : Nat → Int32) (way_wp : Nat → Int32) (way_mi : Nat → Int32) (way_so : Int32) : Nat → Int32 → Int32 → Prop
  | 0 => fun _ _ => False
  | n + 1 => wp_L_isVan_150F P now pln way lq lr lw lg x1 x2 v7 v8 v9 v10 way_ky way_wp way_mi way_so (wp_L_isVan_150 P now pln way lq lr lw lg x1 x2 v7 v8 v9 v10 way_ky way_wp way_mi way_so n)
def wp_L_isVan_29F (P : Int32 → (Nat → Int32) → (Nat → Int32) → (Nat → Int32) → Int32 → Prop) (now : StT) (pln : PlT) (way : WyT) (lq : Nat → Int32) (lr : Nat → Int32) (lw : Nat → Int32) (lg : Nat → Int32) (x1 : Int32) (x2 : Int32) (v10 : Int32) (v11 : Int32) (way_ky : Nat → Int32) (way_wp : Nat → Int32) (way_mi : Nat → Int32) (way_so : Int32) (r29 : Int32 → Int32 → Int32 → Int32 → Prop) (v7 : Int32) (v8 : Int32) (v9 : Int32) (v12 : Int32) : Prop :=
  (((lq (5 : Int32).toNatClampNeg) ≤ v12) →
    ∃ n : Nat, wp_L_isVan_150 P now pln way lq lr lw lg x1 x2 v7 v8 v9 v10 way_ky way_wp way_mi way_so n v11 (0 : Int32)) ∧
  ((¬ (lq (5 : Int32).toNatClampNeg) ≤ v12) →
    vp_in v12 24 ∧
    ((¬ (lw v12.toNatClampNeg) = x1) →
      wp_L_isVan_56 P now pln way lq lr lw lg x1 x2 r29 v8 v9 v10 v11 v12 v7 (0 : Int32) way_ky way_wp way_mi way_so) ∧
    (((lw v12.toNatClampNeg) = x1) →
      wp_L_isVan_56 P now pln way lq lr lw lg x1 x2 r29 v8 v9 v10 v11 v12 v7 ((1 : Int32) <<< (v12 &&& 31)) way_ky way_wp way_mi way_so))
def wp_L_isVan_29 (P : Int32 → (Nat → Int32) → (Nat → Int32) → (Nat → Int32) → Int32 → Prop) (now : StT) (pln : PlT) (way : WyT) (lq : Nat → Int32) (lr : Nat → Int32) (lw : Nat → Int32) (lg : Nat → Int32) (x1 : Int32) (x2 : Int32) (v10 : Int32) (v11 : Int32) (way_ky : Nat → Int32) (way_wp : Nat → Int32) (way_mi : Nat → Int32) (way_so : Int32) : Nat → Int32 → Int32 → Int32 → Int32 → Prop
  | 0 => fun _ _ _ _ => False
  | n + 1 => wp_L_isVan_29F P now pln way lq lr lw lg x1 x2 v10 v11 way_ky way_wp way_mi way_so (wp_L_isVan_29 P now pln way lq lr lw lg x1 x2 v10 v11 way_ky way_wp way_mi way_so n)
def wp_L_isVan (P : Int32 → (Nat → Int32) → (Nat → Int32) → (Nat → Int32) → Int32 → Prop) (now : StT) (pln : PlT) (way : WyT) (lq : Nat → Int32) (lr : Nat → Int32) (lw : Nat → Int32) (lg : Nat → Int32) (x1 : Int32) (x2 : Int32) : Prop :=
  wp_L_stopsAhead (fun r_1 =>
    ∃ n : Nat, wp_L_isVan_29 P now pln way lq lr lw lg x1 x2 r_1 (0 : Int32) way.ky way.wp way.mi way.so n (0 : Int32) (-1 : Int32) (-1 : Int32) (0 : Int32)) lq lr lw x1 (1000 : Int32)
def wp_L_areCounts_350 (P : Int32 → (Nat → Int32) → (Nat → Int32) → (Nat → Int32) → Int32 → Prop) (now : StT) (pln : PlT) (way : WyT) (pad : PdT) (his : HiT) (lq : Nat → Int32) (lr : Nat → Int32) (lw : Nat → Int32) (lg : Nat → Int32) (x1 : Int32) (r57 : Int32 → Int32 → Int32 → Int32 → Int32 → Int32 → Int32 → Int32 → Int32 → Int32 → Prop) (v6 : Int32) (v7 : Int32) (v8 : Int32) (v9 : Int32) (v10 : Int32) (v11 : Int32) (v12 : Int32) (v13 : Int32) (v14 : Int32) (v15 : Int32) (v16 : Int32) (v17 : Int32) (v18 : Int32) (v19 : Int32) (w0 : Int32) (way_ky : Nat → Int32) (way_wp : Nat → Int32) (way_mi : Nat → Int32) (way_so : Int32) : Prop :=
  ((w0 ≤ v13) →
    r57 v6 v7 v8 v9 v10 v13 v15 v17 v18 (v19 + 1)) ∧
  ((¬ w0 ≤ v13) →
    r57 v6 v7 v8 v9 v10 w0 v15 v17 v18 (v19 + 1))
def wp_L_areCounts_315 (P : Int32 → (Nat → Int32) → (Nat → Int32) → (Nat → Int32) → Int32 → Prop) (now : StT) (pln : PlT) (way : WyT) (pad : PdT) (his : HiT) (lq : Nat → Int32) (lr : Nat → Int32) (lw : Nat → Int32) (lg : Nat → Int32) (x1 : Int32) (r57 : Int32 → Int32 → Int32 → Int32 → Int32 → Int32 → Int32 → Int32 → Int32 → Int32 → Prop) (v6 : Int32) (v7 : Int32) (v8 : Int32) (v9 : Int32) (v10 : Int32) (v11 : Int32) (v12 : Int32) (v13 : Int32) (v14 : Int32) (v15 : Int32) (v16 : Int32) (v17 : Int32) (v19 : Int32) (w0 : Int32) (w1 : Int32) (way_ky : Nat → Int32) (way_wp : Nat → Int32) (way_mi : Nat → Int32) (way_so : Int32) : Prop :=
  vp_in v19 24 ∧
  ((0 ≤ (lw v19.toNatClampNeg)) →
    vp_in v19 24 ∧
    vp_in v19 24 ∧
    wp_L_keyOf (fun r_134 =>
      wp_L_minuteAt (fun r_135 =>
        wp_L_areCounts_350 P now pln way pad his lq lr lw lg x1 r57 v6 v7 v8 v9 v10 v11 v12 v13 v14 v15 v16 v17 (w0 + w1) v19 r_135 way_ky way_wp way_mi way_so) lq lr lw (lw v19.toNatClampNeg) r_134) (lr v19.toNatClampNeg)) ∧
  ((¬ 0 ≤ (lw v19.toNatClampNeg)) →
    wp_L_areCounts_350 P now pln way pad his lq lr lw lg x1 r57 v6 v7 v8 v9 v10 v11 v12 v13 v14 v15 v16 v17 (w0 + w1) v19 (-106 : Int32) way_ky way_wp way_mi way_so)
def wp_L_areCounts_284 (P : Int32 → (Nat → Int32) → (Nat → Int32) → (Nat → Int32) → Int32 → Prop) (now : StT) (pln : PlT) (way : WyT) (pad : PdT) (his : HiT) (lq : Nat → Int32) (lr : Nat → Int32) (lw : Nat → Int32) (lg : Nat → Int32) (x1 : Int32) (r57 : Int32 → Int32 → Int32 → Int32 → Int32 → Int32 → Int32 → Int32 → Int32 → Int32 → Prop) (v6 : Int32) (v7 : Int32) (v8 : Int32) (v9 : Int32) (v10 : Int32) (v11 : Int32) (v12 : Int32) (v13 : Int32) (v14 : Int32) (v15 : Int32) (v16 : Int32) (v18 : Int32) (v19 : Int32) (v20 : Int32) (w0 : Int32) (w1 : Int32) (way_ky : Nat → Int32) (way_wp : Nat → Int32) (way_mi : Nat → Int32) (way_so : Int32) : Prop :=
  vp_in v19 24 ∧
  wp_L_flightOf (fun r_126 =>
    ((¬ r_126 = v16) →
      wp_L_areCounts_315 P now pln way pad his lq lr lw lg x1 r57 v6 v7 v8 v9 v10 v11 v12 v13 v14 v15 v16 (w0 + w1) v19 v18 (0 : Int32) way_ky way_wp way_mi way_so) ∧
    ((r_126 = v16) →
      vp_in v19 24 ∧
      ((0 ≤ (lw v19.toNatClampNeg)) →
        wp_L_areCounts_315 P now pln way pad his lq lr lw lg x1 r57 v6 v7 v8 v9 v10 v11 v12 v13 v14 v15 v16 (w0 + w1) v19 v18 (0 : Int32) way_ky way_wp way_mi way_so) ∧
      ((¬ 0 ≤ (lw v19.toNatClampNeg)) →
        wp_L_areCounts_315 P now pln way pad his lq lr lw lg x1 r57 v6 v7 v8 v9 v10 v11 v12 v13 v14 v15 v16 (w0 + w1) v19 v18 v20 way_ky way_wp way_mi way_so))) (lr v19.toNatClampNeg)
def wp_L_areCounts_261 (P : Int32 → (Nat → Int32) → (Nat → Int32) → (Nat → Int32) → Int32 → Prop) (now : StT) (pln : PlT) (way : WyT) (pad : PdT) (his : HiT) (lq : Nat → Int32) (lr : Nat → Int32) (lw : Nat → Int32) (lg : Nat → Int32) (x1 : Int32) (r57 : Int32 → Int32 → Int32 → Int32 → Int32 → Int32 → Int32 → Int32 → Int32 → Int32 → Prop) (v6 : Int32) (v7 : Int32) (v8 : Int32) (v9 : Int32) (v10 : Int32) (v11 : Int32) (v12 : Int32) (v13 : Int32) (v14 : Int32) (v16 : Int32) (v17 : Int32) (v18 : Int32) (v19 : Int32) (v20 : Int32) (w0 : Int32) (w1 : Int32) (way_ky : Nat → Int32) (way_wp : Nat → Int32) (way_mi : Nat → Int32) (way_so : Int32) : Prop :=
  vp_in v19 24 ∧
  wp_L_flightOf (fun r_123 =>
    ((¬ r_123 = v16) →
      wp_L_areCounts_284 P now pln way pad his lq lr lw lg x1 r57 v6 v7 v8 v9 v10 v11 v12 v13 v14 (w0 + w1) v16 v18 v19 v20 v17 (0 : Int32) way_ky way_wp way_mi way_so) ∧
    ((r_123 = v16) →
      wp_L_areCounts_284 P now pln way pad his lq lr lw lg x1 r57 v6 v7 v8 v9 v10 v11 v12 v13 v14 (w0 + w1) v16 v18 v19 v20 v17 v20 way_ky way_wp way_mi way_so)) (lr v19.toNatClampNeg)
def wp_L_areCounts_211 (P : Int32 → (Nat → Int32) → (Nat → Int32) → (Nat → Int32) → Int32 → Prop) (now : StT) (pln : PlT) (way : WyT) (pad : PdT) (his : HiT) (lq : Nat → Int32) (lr : Nat → Int32) (lw : Nat → Int32) (lg : Nat → Int32) (x1 : Int32) (r57 : Int32 → Int32 → Int32 → Int32 → Int32 → Int32 → Int32 → Int32 → Int32 → Int32 → Prop) (v6 : Int32) (v7 : Int32) (v8 : Int32) (v9 : Int32) (v11 : Int32) (v12 : Int32) (v13 : Int32) (v14 : Int32) (v15 : Int32) (v16 : Int32) (v17 : Int32) (v18 : Int32) (v19 : Int32) (v20 : Int32) (v21 : Int32) (w0 : Int32) (w1 : Int32) (way_ky : Nat → Int32) (way_wp : Nat → Int32) (way_mi : Nat → Int32) (way_so : Int32) : Prop :=
  ((v21 < 0) →
    wp_L_areCounts_261 P now pln way pad his lq lr lw lg x1 r57 v6 v7 v8 v9 (w0 + w1) v11 v12 v13 v14 v16 v17 v18 v19 v20 v15 (0 : Int32) way_ky way_wp way_mi way_so) ∧
  ((¬ v21 < 0) →
    vp_in v19 24 ∧
    ((0 ≤ (lw v19.toNatClampNeg)) →
      vp_in v19 24 ∧
      vp_in ((18 : Int32) + (lw v19.toNatClampNeg)) 34 ∧
      (((lq ((18 : Int32) + (lw v19.toNatClampNeg)).toNatClampNeg) ≤ v14) →
        wp_L_areCounts_261 P now pln way pad his lq lr lw lg x1 r57 v6 v7 v8 v9 (w0 + w1) v11 v12 v13 v14 v16 v17 v18 v19 v20 v15 (0 : Int32) way_ky way_wp way_mi way_so) ∧
      ((¬ (lq ((18 : Int32) + (lw v19.toNatClampNeg)).toNatClampNeg) ≤ v14) →
        wp_L_areCounts_261 P now pln way pad his lq lr lw lg x1 r57 v6 v7 v8 v9 (w0 + w1) v11 v12 v13 v14 v16 v17 v18 v19 v20 v15 v20 way_ky way_wp way_mi way_so)) ∧
    ((¬ 0 ≤ (lw v19.toNatClampNeg)) →
      (((lq (1 : Int32).toNatClampNeg) < v21) →
        wp_L_areCounts_261 P now pln way pad his lq lr lw lg x1 r57 v6 v7 v8 v9 (w0 + w1) v11 v12 v13 v14 v16 v17 v18 v19 v20 v15 (0 : Int32) way_ky way_wp way_mi way_so) ∧
      ((¬ (lq (1 : Int32).toNatClampNeg) < v21) →
        wp_L_areCounts_261 P now pln way pad his lq lr lw lg x1 r57 v6 v7 v8 v9 (w0 + w1) v11 v12 v13 v14 v16 v17 v18 v19 v20 v15 v20 way_ky way_wp way_mi way_so)))
def wp_L_areCounts_167 (P : Int32 → (Nat → Int32) → (Nat → Int32) → (Nat → Int32) → Int32 → Prop) (now : StT) (pln : PlT) (way : WyT) (pad : PdT) (his : HiT) (lq : Nat → Int32) (lr : Nat → Int32) (lw : Nat → Int32) (lg : Nat → Int32) (x1 : Int32) (r57 : Int32 → Int32 → Int32 → Int32 → Int32 → Int32 → Int32 → Int32 → Int32 → Int32 → Prop) (v6 : Int32) (v7 : Int32) (v8 : Int32) (v10 : Int32) (v11 : Int32) (v12 : Int32) (v13 : Int32) (v14 : Int32) (v15 : Int32) (v16 : Int32) (v17 : Int32) (v18 : Int32) (v19 : Int32) (v20 : Int32) (v21 : Int32) (w0 : Int32) (w1 : Int32) (way_ky : Nat → Int32) (way_wp : Nat → Int32) (way_mi : Nat → Int32) (way_so : Int32) : Prop :=
  vp_in v19 24 ∧
  ((0 ≤ (lw v19.toNatClampNeg)) →
    wp_L_part (fun r_111 =>
      wp_L_part (fun r_113 =>
        wp_L_areCounts_211 P now pln way pad his lq lr lw lg x1 r57 v6 v7 v8 (w0 + w1) v11 v12 v13 v14 v15 v16 v17 v18 v19 v20 v21 v10 (r_111 + r_113) way_ky way_wp way_mi way_so) lq lr lw v19 (lq (4 : Int32).toNatClampNeg) (1 : Int32)) lq lr lw v19 (lq (3 : Int32).toNatClampNeg) (0 : Int32)) ∧
  ((¬ 0 ≤ (lw v19.toNatClampNeg)) →
    wp_L_areCounts_211 P now pln way pad his lq lr lw lg x1 r57 v6 v7 v8 (w0 + w1) v11 v12 v13 v14 v15 v16 v17 v18 v19 v20 v21 v10 (0 : Int32) way_ky way_wp way_mi way_so)
def wp_L_areCounts_128 (P : Int32 → (Nat → Int32) → (Nat → Int32) → (Nat → Int32) → Int32 → Prop) (now : StT) (pln : PlT) (way : WyT) (pad : PdT) (his : HiT) (lq : Nat → Int32) (lr : Nat → Int32) (lw : Nat → Int32) (lg : Nat → Int32) (x1 : Int32) (r57 : Int32 → Int32 → Int32 → Int32 → Int32 → Int32 → Int32 → Int32 → Int32 → Int32 → Prop) (v6 : Int32) (v7 : Int32) (v9 : Int32) (v10 : Int32) (v11 : Int32) (v12 : Int32) (v13 : Int32) (v14 : Int32) (v15 : Int32) (v16 : Int32) (v17 : Int32) (v18 : Int32) (v19 : Int32) (v20 : Int32) (v21 : Int32) (w0 : Int32) (w1 : Int32) (way_ky : Nat → Int32) (way_wp : Nat → Int32) (way_mi : Nat → Int32) (way_so : Int32) : Prop :=
  vp_in v19 24 ∧
  ((0 ≤ (lw v19.toNatClampNeg)) →
    vp_in v19 24 ∧
    vp_in ((18 : Int32) + (lw v19.toNatClampNeg)) 34 ∧
    vp_in v19 24 ∧
    wp_L_ready (fun r_91 =>
      wp_L_areCounts_167 P now pln way pad his lq lr lw lg x1 r57 v6 v7 (w0 + w1) v10 v11 v12 v13 v14 v15 v16 v17 v18 v19 v20 v21 v9 (v20 * ((lq ((18 : Int32) + (lw v19.toNatClampNeg)).toNatClampNeg) - r_91)) way_ky way_wp way_mi way_so) lq (lr v19.toNatClampNeg)) ∧
  ((¬ 0 ≤ (lw v19.toNatClampNeg)) →
    wp_L_areCounts_167 P now pln way pad his lq lr lw lg x1 r57 v6 v7 (w0 + w1) v10 v11 v12 v13 v14 v15 v16 v17 v18 v19 v20 v21 v9 (0 : Int32) way_ky way_wp way_mi way_so)
def wp_L_areCounts_109 (P : Int32 → (Nat → Int32) → (Nat → Int32) → (Nat → Int32) → Int32 → Prop) (now : StT) (pln : PlT) (way : WyT) (pad : PdT) (his : HiT) (lq : Nat → Int32) (lr : Nat → Int32) (lw : Nat → Int32) (lg : Nat → Int32) (x1 : Int32) (r57 : Int32 → Int32 → Int32 → Int32 → Int32 → Int32 → Int32 → Int32 → Int32 → Int32 → Prop) (v6 : Int32) (v8 : Int32) (v9 : Int32) (v10 : Int32) (v11 : Int32) (v12 : Int32) (v13 : Int32) (v14 : Int32) (v15 : Int32) (v16 : Int32) (v17 : Int32) (v18 : Int32) (v19 : Int32) (v20 : Int32) (v21 : Int32) (w0 : Int32) (w1 : Int32) (way_ky : Nat → Int32) (way_wp : Nat → Int32) (way_mi : Nat → Int32) (way_so : Int32) : Prop :=
  vp_in v19 24 ∧
  ((0 ≤ (lw v19.toNatClampNeg)) →
    wp_L_areCounts_128 P now pln way pad his lq lr lw lg x1 r57 v6 (w0 + w1) v9 v10 v11 v12 v13 v14 v15 v16 v17 v18 v19 v20 v21 v8 (0 : Int32) way_ky way_wp way_mi way_so) ∧
  ((¬ 0 ≤ (lw v19.toNatClampNeg)) →
    wp_L_areCounts_128 P now pln way pad his lq lr lw lg x1 r57 v6 (w0 + w1) v9 v10 v11 v12 v13 v14 v15 v16 v17 v18 v19 v20 v21 v8 v20 way_ky way_wp way_mi way_so)
def wp_L_areCounts_403 (P : Int32 → (Nat → Int32) → (Nat → Int32) → (Nat → Int32) → Int32 → Prop) (now : StT) (pln : PlT) (way : WyT) (pad : PdT) (his : HiT) (lq : Nat → Int32) (lr : Nat → Int32) (lw : Nat → Int32) (lg : Nat → Int32) (x1 : Int32) (r381 : Int32 → Int32 → Int32 → Int32 → Prop) (v6 : Int32) (v7 : Int32) (v8 : Int32) (v9 : Int32) (v10 : Int32) (v12 : Int32) (v13 : Int32) (v14 : Int32) (v15 : Int32) (v16 : Int32) (v17 : Int32) (v18 : Int32) (v19 : Int32) (v20 : Int32) (w0 : Int32) (w1 : Int32) (way_ky : Nat → Int32) (way_wp : Nat → Int32) (way_mi : Nat → Int32) (way_so : Int32) : Prop :=
  wp_L_stopsAhead (fun r_79 =>
    vp_in v20 16 ∧
    (((lg v20.toNatClampNeg) ≤ 0) →
      r381 (w0 + w1) (v12 + r_79) v19 (v20 + 1)) ∧
    ((¬ (lg v20.toNatClampNeg) ≤ 0) →
      ((v19 < 0) →
        r381 (w0 + w1) (v12 + r_79) v20 (v20 + 1)) ∧
      ((¬ v19 < 0) →
        vp_in v20 16 ∧
        vp_in v19 16 ∧
        (((lg v20.toNatClampNeg) ≤ (lg v19.toNatClampNeg)) →
          r381 (w0 + w1) (v12 + r_79) v19 (v20 + 1)) ∧
        ((¬ (lg v20.toNatClampNeg) ≤ (lg v19.toNatClampNeg)) →
          r381 (w0 + w1) (v12 + r_79) v20 (v20 + 1))))) lq lr lw v20 (1000 : Int32)
def wp_L_areCounts_626 (P : Int32 → (Nat → Int32) → (Nat → Int32) → (Nat → Int32) → Int32 → Prop) (now : StT) (pln : PlT) (way : WyT) (pad : PdT) (his : HiT) (lq : Nat → Int32) (lr : Nat → Int32) (lw : Nat → Int32) (lg : Nat → Int32) (x1 : Int32) (v16 : Int32) (v17 : Int32) (v18 : Int32) (w0 : Int32) (way_ky : Nat → Int32) (way_wp : Nat → Int32) (way_mi : Nat → Int32) (way_so : Int32) : Prop :=
  ((w0 = 0) →
    P (0 : Int32) way_ky way_wp way_mi way_so) ∧
  ((¬ w0 = 0) →
    wp_X5_flight (fun r_93 =>
      vp_in ((6 : Int32) + v16) 34 ∧
      ((¬ r_93 = (lq ((6 : Int32) + v16).toNatClampNeg)) →
        P (0 : Int32) way_ky way_wp way_mi way_so) ∧
      ((r_93 = (lq ((6 : Int32) + v16).toNatClampNeg)) →
        wp_X5_flight (fun r_96 =>
          vp_in ((12 : Int32) + v16) 34 ∧
          ((¬ r_96 = (lq ((12 : Int32) + v16).toNatClampNeg)) →
            P (0 : Int32) way_ky way_wp way_mi way_so) ∧
          ((r_96 = (lq ((12 : Int32) + v16).toNatClampNeg)) →
            wp_X5_flight (fun r_99 =>
              vp_in ((6 : Int32) + v16) 34 ∧
              vp_in ((12 : Int32) + v16) 34 ∧
              ((¬ r_99 = (((lq ((6 : Int32) + v16).toNatClampNeg) + (lq ((12 : Int32) + v16).toNatClampNeg)) + (lq (0 : Int32).toNatClampNeg))) →
                P (0 : Int32) way_ky way_wp way_mi way_so) ∧
              ((r_99 = (((lq ((6 : Int32) + v16).toNatClampNeg) + (lq ((12 : Int32) + v16).toNatClampNeg)) + (lq (0 : Int32).toNatClampNeg))) →
                wp_X5_flight (fun r_104 =>
                  ((¬ r_104 = v17) →
                    P (0 : Int32) way_ky way_wp way_mi way_so) ∧
                  ((r_104 = v17) →
                    wp_X5_flight (fun r_106 =>
                      ((¬ r_106 = v18) →
                        P (0 : Int32) way_ky way_wp way_mi way_so) ∧
                      ((r_106 = v18) →
                        P (1 : Int32) way_ky way_wp way_mi way_so)) now pln v16 (4 : Int32))) now pln v16 (3 : Int32))) now pln v16 (2 : Int32))) now pln v16 (1 : Int32))) now pln v16 (0 : Int32))
def wp_L_areCounts_467F (P : Int32 → (Nat → Int32) → (Nat → Int32) → (Nat → Int32) → Int32 → Prop) (now : StT) (pln : PlT) (way : WyT) (pad : PdT) (his : HiT) (lq : Nat → Int32) (lr : Nat → Int32) (lw : Nat → Int32) (lg : Nat → Int32) (x1 : Int32) (v6 : Int32) (v7 : Int32) (v8 : Int32) (v9 : Int32) (v10 : Int32) (v11 : Int32) (v12 : Int32) (v13 : Int32) (v14 : Int32) (v15 : Int32) (v16 : Int32) (v17 : Int32) (v18 : Int32) (v19 : Int32) (r467 : Int32 → (Nat → Int32) → (Nat → Int32) → (Nat → Int32) → Int32 → Prop) (v20 : Int32) (way_ky : Nat → Int32) (way_wp : Nat → Int32) (way_mi : Nat → Int32) (way_so : Int32) : Prop :=
  (((6 : Int32) ≤ v20) →
    wp_X5_count (fun r_21 ky_17 wp_18 mi_19 so_20 =>
      ((¬ r_21 = v6) →
        wp_L_areCounts_626 P now pln way pad his lq lr lw lg x1 v16 v17 v18 (0 : Int32) ky_17 wp_18 mi_19 so_20) ∧
      ((r_21 = v6) →
        wp_X5_count (fun r_27 ky_23 wp_24 mi_25 so_26 =>
          ((¬ r_27 = v7) →
            wp_L_areCounts_626 P now pln way pad his lq lr lw lg x1 v16 v17 v18 (0 : Int32) ky_23 wp_24 mi_25 so_26) ∧
          ((r_27 = v7) →
            wp_X5_count (fun r_33 ky_29 wp_30 mi_31 so_32 =>
              ((¬ r_33 = v8) →
                wp_L_areCounts_626 P now pln way pad his lq lr lw lg x1 v16 v17 v18 (0 : Int32) ky_29 wp_30 mi_31 so_32) ∧
              ((r_33 = v8) →
                wp_X5_count (fun r_39 ky_35 wp_36 mi_37 so_38 =>
                  ((¬ r_39 = v9) →
                    wp_L_areCounts_626 P now pln way pad his lq lr lw lg x1 v16 v17 v18 (0 : Int32) ky_35 wp_36 mi_37 so_38) ∧
                  ((r_39 = v9) →
                    wp_X5_count (fun r_45 ky_41 wp_42 mi_43 so_44 =>
                      ((¬ r_45 = v10) →
                        wp_L_areCounts_626 P now pln way pad his lq lr lw lg x1 v16 v17 v18 (0 : Int32) ky_41 wp_42 mi_43 so_44) ∧
                      ((r_45 = v10) →
                        wp_X5_count (fun r_51 ky_47 wp_48 mi_49 so_50 =>
                          ((¬ r_51 = v11) →
                            wp_L_areCounts_626 P now pln way pad his lq lr lw lg x1 v16 v17 v18 (0 : Int32) ky_47 wp_48 mi_49 so_50) ∧
                          ((r_51 = v11) →
                            wp_X5_count (fun r_57 ky_53 wp_54 mi_55 so_56 =>
                              ((¬ r_57 = v12) →
                                wp_L_areCounts_626 P now pln way pad his lq lr lw lg x1 v16 v17 v18 (0 : Int32) ky_53 wp_54 mi_55 so_56) ∧
                              ((r_57 = v12) →
                                wp_X5_count (fun r_63 ky_59 wp_60 mi_61 so_62 =>
                                  ((¬ r_63 = v13) →
                                    wp_L_areCounts_626 P now pln way pad his lq lr lw lg x1 v16 v17 v18 (0 : Int32) ky_59 wp_60 mi_61 so_62) ∧
                                  ((r_63 = v13) →
                                    wp_X5_kerb (fun r_65 =>
                                      ((¬ r_65 = v15) →
                                        wp_L_areCounts_626 P now pln way pad his lq lr lw lg x1 v16 v17 v18 (0 : Int32) ky_59 wp_60 mi_61 so_62) ∧
                                      ((r_65 = v15) →
                                        wp_X5_fullest (fun r_67 =>
                                          ((¬ r_67 = v19) →
                                            wp_L_areCounts_626 P now pln way pad his lq lr lw lg x1 v16 v17 v18 (0 : Int32) ky_59 wp_60 mi_61 so_62) ∧
                                          ((r_67 = v19) →
                                            ((¬ v10 = ((v11 * (lq (3 : Int32).toNatClampNeg)) + (v12 * (lq (4 : Int32).toNatClampNeg)))) →
                                              wp_L_areCounts_626 P now pln way pad his lq lr lw lg x1 v16 v17 v18 (0 : Int32) ky_59 wp_60 mi_61 so_62) ∧
                                            ((v10 = ((v11 * (lq (3 : Int32).toNatClampNeg)) + (v12 * (lq (4 : Int32).toNatClampNeg)))) →
                                              wp_L_areCounts_626 P now pln way pad his lq lr lw lg x1 v16 v17 v18 (1 : Int32) ky_59 wp_60 mi_61 so_62))) pln)) now pln v14)) now pln (mkWy ky_53 wp_54 mi_55 so_56) pad his (13 : Int32))) now pln (mkWy ky_47 wp_48 mi_49 so_50) pad his (12 : Int32))) now pln (mkWy ky_41 wp_42 mi_43 so_44) pad his (11 : Int32))) now pln (mkWy ky_35 wp_36 mi_37 so_38) pad his (10 : Int32))) now pln (mkWy ky_29 wp_30 mi_31 so_32) pad his (9 : Int32))) now pln (mkWy ky_23 wp_24 mi_25 so_26) pad his (8 : Int32))) now pln (mkWy ky_17 wp_18 mi_19 so_20) pad his (7 : Int32))) now pln (mkWy way_ky way_wp way_mi way_so) pad his (6 : Int32)) ∧
  ((¬ (6 : Int32) ≤ v20) →
    wp_X5_count (fun r_76 ky_72 wp_73 mi_74 so_75 =>
      vp_in v20 34 ∧
      ((r_76 = (lq v20.toNatClampNeg)) →
        r467 (v20 + 1) ky_72 wp_73 mi_74 so_75) ∧
      ((¬ r_76 = (lq v20.toNatClampNeg)) →
        P (0 : Int32) ky_72 wp_73 mi_74 so_75)) now pln (mkWy way_ky way_wp way_mi way_so) pad his v20)
def wp_L_areCounts_467 (P : Int32 → (Nat → Int32) → (Nat → Int32) → (Nat → Int32) → Int32 → Prop) (now : StT) (pln : PlT) (way : WyT) (pad : PdT) (his : HiT) (lq : Nat → Int32) (lr : Nat → Int32) (lw : Nat → Int32) (lg : Nat → Int32) (x1 : Int32) (v6 : Int32) (v7 : Int32) (v8 : Int32) (v9 : Int32) (v10 : Int32) (v11 : Int32) (v12 : Int32) (v13 : Int32) (v14 : Int32) (v15 : Int32) (v16 : Int32) (v17 : Int32) (v18 : Int32) (v19 : Int32) : Nat → Int32 → (Nat → Int32) → (Nat → Int32) → (Nat → Int32) → Int32 → Prop
  | 0 => fun _ _ _ _ _ => False
  | n + 1 => wp_L_areCounts_467F P now pln way pad his lq lr lw lg x1 v6 v7 v8 v9 v10 v11 v12 v13 v14 v15 v16 v17 v18 v19 (wp_L_areCounts_467 P now pln way pad his lq lr lw lg x1 v6 v7 v8 v9 v10 v11 v12 v13 v14 v15 v16 v17 v18 v19 n)
def wp_L_areCounts_381F (P : Int32 → (Nat → Int32) → (Nat → Int32) → (Nat → Int32) → Int32 → Prop) (now : StT) (pln : PlT) (way : WyT) (pad : PdT) (his : HiT) (lq : Nat → Int32) (lr : Nat → Int32) (lw : Nat → Int32) (lg : Nat → Int32) (x1 : Int32) (v6 : Int32) (v7 : Int32) (v8 : Int32) (v9 : Int32) (v10 : Int32) (v13 : Int32) (v14 : Int32) (v15 : Int32) (v16 : Int32) (v17 : Int32) (v18 : Int32) (way_ky : Nat → Int32) (way_wp : Nat → Int32) (way_mi : Nat → Int32) (way_so : Int32) (r381 : Int32 → Int32 → Int32 → Int32 → Prop) (v11 : Int32) (v12 : Int32) (v19 : Int32) (v20 : Int32) : Prop :=
  (((8 : Int32) ≤ v20) →
    ∃ n : Nat, wp_L_areCounts_467 P now pln way pad his lq lr lw lg x1 v6 v7 v8 v9 v10 v11 v12 v13 v14 v15 v16 v17 v18 v19 n (0 : Int32) way_ky way_wp way_mi way_so) ∧
  ((¬ (8 : Int32) ≤ v20) →
    vp_in v20 16 ∧
    (((lg v20.toNatClampNeg) ≤ 0) →
      wp_L_areCounts_403 P now pln way pad his lq lr lw lg x1 r381 v6 v7 v8 v9 v10 v12 v13 v14 v15 v16 v17 v18 v19 v20 v11 (0 : Int32) way_ky way_wp way_mi way_so) ∧
    ((¬ (lg v20.toNatClampNeg) ≤ 0) →
      wp_L_areCounts_403 P now pln way pad his lq lr lw lg x1 r381 v6 v7 v8 v9 v10 v12 v13 v14 v15 v16 v17 v18 v19 v20 v11 (1 : Int32) way_ky way_wp way_mi way_so))
def wp_L_areCounts_381 (P : Int32 → (Nat → Int32) → (Nat → Int32) → (Nat → Int32) → Int32 → Prop) (now : StT) (pln : PlT) (way : WyT) (pad : PdT) (his : HiT) (lq : Nat → Int32) (lr : Nat → Int32) (lw : Nat → Int32) (lg : Nat → Int32) (x1 : Int32) (v6 : Int32) (v7 : Int32) (v8 : Int32) (v9 : Int32) (v10 : Int32) (v13 : Int32) (v14 : Int32) (v15 : Int32) (v16 : Int32) (v17 : Int32) (v18 : Int32) (way_ky : Nat → Int32) (way_wp : Nat → Int32) (way_mi : Nat → Int32) (way_so : Int32) : Nat → Int32 → Int32 → Int32 → Int32 → Prop
  | 0 => fun _ _ _ _ => False
  | n + 1 => wp_L_areCounts_381F P now pln way pad his lq lr lw lg x1 v6 v7 v8 v9 v10 v13 v14 v15 v16 v17 v18 way_ky way_wp way_mi way_so (wp_L_areCounts_381 P now pln way pad his lq lr lw lg x1 v6 v7 v8 v9 v10 v13 v14 v15 v16 v17 v18 way_ky way_wp way_mi way_so n)
def wp_L_areCounts_57F (P : Int32 → (Nat → Int32) → (Nat → Int32) → (Nat → Int32) → Int32 → Prop) (now : StT) (pln : PlT) (way : WyT) (pad : PdT) (his : HiT) (lq : Nat → Int32) (lr : Nat → Int32) (lw : Nat → Int32) (lg : Nat → Int32) (x1 : Int32) (v11 : Int32) (v12 : Int32) (v14 : Int32) (v16 : Int32) (way_ky : Nat → Int32) (way_wp : Nat → Int32) (way_mi : Nat → Int32) (way_so : Int32) (r57 : Int32 → Int32 → Int32 → Int32 → Int32 → Int32 → Int32 → Int32 → Int32 → Int32 → Prop) (v6 : Int32) (v7 : Int32) (v8 : Int32) (v9 : Int32) (v10 : Int32) (v13 : Int32) (v15 : Int32) (v17 : Int32) (v18 : Int32) (v19 : Int32) : Prop :=
  (((lq (5 : Int32).toNatClampNeg) ≤ v19) →
    ∃ n : Nat, wp_L_areCounts_381 P now pln way pad his lq lr lw lg x1 v6 v7 v8 v9 v10 v13 v14 v15 v16 v17 v18 way_ky way_wp way_mi way_so n v11 v12 (-106 : Int32) (0 : Int32)) ∧
  ((¬ (lq (5 : Int32).toNatClampNeg) ≤ v19) →
    vp_in v19 24 ∧
    wp_L_people (fun r_6 =>
      vp_in v19 24 ∧
      wp_L_ready (fun r_8 =>
        vp_in v19 24 ∧
        ((0 ≤ (lw v19.toNatClampNeg)) →
          wp_L_areCounts_109 P now pln way pad his lq lr lw lg x1 r57 (v6 + r_6) v8 v9 v10 v11 v12 v13 v14 v15 v16 v17 v18 v19 r_6 (v14 - r_8) v7 (0 : Int32) way_ky way_wp way_mi way_so) ∧
        ((¬ 0 ≤ (lw v19.toNatClampNeg)) →
          wp_L_areCounts_109 P now pln way pad his lq lr lw lg x1 r57 (v6 + r_6) v8 v9 v10 v11 v12 v13 v14 v15 v16 v17 v18 v19 r_6 (v14 - r_8) v7 (1 : Int32) way_ky way_wp way_mi way_so)) lq (lr v19.toNatClampNeg)) (lr v19.toNatClampNeg))
def wp_L_areCounts_57 (P : Int32 → (Nat → Int32) → (Nat → Int32) → (Nat → Int32) → Int32 → Prop) (now : StT) (pln : PlT) (way : WyT) (pad : PdT) (his : HiT) (lq : Nat → Int32) (lr : Nat → Int32) (lw : Nat → Int32) (lg : Nat → Int32) (x1 : Int32) (v11 : Int32) (v12 : Int32) (v14 : Int32) (v16 : Int32) (way_ky : Nat → Int32) (way_wp : Nat → Int32) (way_mi : Nat → Int32) (way_so : Int32) : Nat → Int32 → Int32 → Int32 → Int32 → Int32 → Int32 → Int32 → Int32 → Int32 → Int32 → Prop
  | 0 => fun _ _ _ _ _ _ _ _ _ _ => False
  | n + 1 => wp_L_areCounts_57F P now pln way pad his lq lr lw lg x1 v11 v12 v14 v16 way_ky way_wp way_mi way_so (wp_L_areCounts_57 P now pln way pad his lq lr lw lg x1 v11 v12 v14 v16 way_ky way_wp way_mi way_so n)
def wp_L_areCounts (P : Int32 → (Nat → Int32) → (Nat → Int32) → (Nat → Int32) → Int32 → Prop) (now : StT) (pln : PlT) (way : WyT) (pad : PdT) (his : HiT) (lq : Nat → Int32) (lr : Nat → Int32) (lw : Nat → Int32) (lg : Nat → Int32) (x1 : Int32) : Prop :=
  wp_L_low (fun r_1 =>
    wp_L_low (fun r_2 =>
      ∃ n : Nat, wp_L_areCounts_57 P now pln way pad his lq lr lw lg x1 (0 : Int32) (0 : Int32) r_1 r_2 way.ky way.wp way.mi way.so n (0 : Int32) (0 : Int32) (0 : Int32) (0 : Int32) (0 : Int32) (-106 : Int32) (0 : Int32) (0 : Int32) (0 : Int32) (0 : Int32)) (x1 >>> ((11 : Int32) &&& 31)) (6 : Int32)) x1 (1800 : Int32)
def wp_L_told_151F (P : Int64 → (Nat → Int32) → (Nat → Int32) → (Nat → Int32) → Int32 → Prop) (now : StT) (pln : PlT) (way : WyT) (pad : PdT) (his : HiT) (way_ky : Nat → Int32) (way_wp : Nat → Int32) (way_mi : Nat → Int32) (way_so : Int32) (r151 : Int64 → Int32 → Prop) (v1 : Int64) (v3 : Int32) : Prop :=
  (((6 : Int32) ≤ v3) →
    P v1 way_ky way_wp way_mi way_so) ∧
  ((¬ (6 : Int32) ≤ v3) →
    wp_X5_flight (fun r_48 =>
      wp_X5_flight (fun r_49 =>
        ∀ y_50 : Int64, y_50 = ((((31 : Int64) * v1) + ((1000 : Int64) * (r_48).toInt64)) + (r_49).toInt64) →
        r151 y_50 (v3 + 1)) now pln v3 (1 : Int32)) now pln v3 (0 : Int32))
def wp_L_told_151 (P : Int64 → (Nat → Int32) → (Nat → Int32) → (Nat → Int32) → Int32 → Prop) (now : StT) (pln : PlT) (way : WyT) (pad : PdT) (his : HiT) (way_ky : Nat → Int32) (way_wp : Nat → Int32) (way_mi : Nat → Int32) (way_so : Int32) : Nat → Int64 → Int32 → Prop
  | 0 => fun _ _ => False
  | n + 1 => wp_L_told_151F P now pln way pad his way_ky way_wp way_mi way_so (wp_L_told_151 P now pln way pad his way_ky way_wp way_mi way_so n)
def wp_L_told_111F (P : Int64 → (Nat → Int32) → (Nat → Int32) → (Nat → Int32) → Int32 → Prop) (now : StT) (pln : PlT) (way : WyT) (pad : PdT) (his : HiT) (r111 : Int64 → Int32 → (Nat → Int32) → (Nat → Int32) → (Nat → Int32) → Int32 → Prop) (v1 : Int64) (v3 : Int32) (way_ky : Nat → Int32) (way_wp : Nat → Int32) (way_mi : Nat → Int32) (way_so : Int32) : Prop :=
  (((8 : Int32) ≤ v3) →
    ∃ n : Nat, wp_L_told_151 P now pln way pad his way_ky way_wp way_mi way_so n v1 (0 : Int32)) ∧
  ((¬ (8 : Int32) ≤ v3) →
    wp_X5_vanOf (fun r_40 ky_36 wp_37 mi_38 so_39 =>
      wp_X5_vanOf (fun r_45 ky_41 wp_42 mi_43 so_44 =>
        ∀ y_46 : Int64, y_46 = ((((31 : Int64) * v1) + ((1000 : Int64) * (r_40).toInt64)) + (r_45).toInt64) →
        r111 y_46 (v3 + 1) ky_41 wp_42 mi_43 so_44) now pln (mkWy ky_36 wp_37 mi_38 so_39) v3 (1 : Int32)) now pln (mkWy way_ky way_wp way_mi way_so) v3 (0 : Int32))
def wp_L_told_111 (P : Int64 → (Nat → Int32) → (Nat → Int32) → (Nat → Int32) → Int32 → Prop) (now : StT) (pln : PlT) (way : WyT) (pad : PdT) (his : HiT) : Nat → Int64 → Int32 → (Nat → Int32) → (Nat → Int32) → (Nat → Int32) → Int32 → Prop
  | 0 => fun _ _ _ _ _ _ => False
  | n + 1 => wp_L_told_111F P now pln way pad his (wp_L_told_111 P now pln way pad his n)
def wp_L_told_33F (P : Int64 → (Nat → Int32) → (Nat → Int32) → (Nat → Int32) → Int32 → Prop) (now : StT) (pln : PlT) (way : WyT) (pad : PdT) (his : HiT) (r33 : Int64 → Int32 → (Nat → Int32) → (Nat → Int32) → (Nat → Int32) → Int32 → Prop) (v1 : Int64) (v3 : Int32) (way_ky : Nat → Int32) (way_wp : Nat → Int32) (way_mi : Nat → Int32) (way_so : Int32) : Prop :=
  (((24 : Int32) ≤ v3) →
    ∃ n : Nat, wp_L_told_111 P now pln way pad his n v1 (0 : Int32) way_ky way_wp way_mi way_so) ∧
  ((¬ (24 : Int32) ≤ v3) →
    wp_X5_rider (fun r_12 ky_8 wp_9 mi_10 so_11 =>
      wp_X5_rider (fun r_17 ky_13 wp_14 mi_15 so_16 =>
        wp_X5_rider (fun r_22 ky_18 wp_19 mi_20 so_21 =>
          ∀ y_23 : Int64, y_23 = (((((31 : Int64) * v1) + ((100 : Int64) * (r_12).toInt64)) + ((10 : Int64) * (r_17).toInt64)) + (r_22).toInt64) →
          wp_X5_rider (fun r_28 ky_24 wp_25 mi_26 so_27 =>
            wp_X5_rider (fun r_33 ky_29 wp_30 mi_31 so_32 =>
              ∀ y_34 : Int64, y_34 = ((((31 : Int64) * y_23) + ((10 : Int64) * (r_28).toInt64)) + (r_33).toInt64) →
              r33 y_34 (v3 + 1) ky_29 wp_30 mi_31 so_32) now pln (mkWy ky_24 wp_25 mi_26 so_27) v3 (5 : Int32)) now pln (mkWy ky_18 wp_19 mi_20 so_21) v3 (3 : Int32)) now pln (mkWy ky_13 wp_14 mi_15 so_16) v3 (2 : Int32)) now pln (mkWy ky_8 wp_9 mi_10 so_11) v3 (1 : Int32)) now pln (mkWy way_ky way_wp way_mi way_so) v3 (0 : Int32))
def wp_L_told_33 (P : Int64 → (Nat → Int32) → (Nat → Int32) → (Nat → Int32) → Int32 → Prop) (now : StT) (pln : PlT) (way : WyT) (pad : PdT) (his : HiT) : Nat → Int64 → Int32 → (Nat → Int32) → (Nat → Int32) → (Nat → Int32) → Int32 → Prop
  | 0 => fun _ _ _ _ _ _ => False
  | n + 1 => wp_L_told_33F P now pln way pad his (wp_L_told_33 P now pln way pad his n)
def wp_L_told_6F (P : Int64 → (Nat → Int32) → (Nat → Int32) → (Nat → Int32) → Int32 → Prop) (now : StT) (pln : PlT) (way : WyT) (pad : PdT) (his : HiT) (r6 : Int64 → Int32 → (Nat → Int32) → (Nat → Int32) → (Nat → Int32) → Int32 → Prop) (v1 : Int64) (v3 : Int32) (way_ky : Nat → Int32) (way_wp : Nat → Int32) (way_mi : Nat → Int32) (way_so : Int32) : Prop :=
  (((14 : Int32) ≤ v3) →
    ∃ n : Nat, wp_L_told_33 P now pln way pad his n v1 (0 : Int32) way_ky way_wp way_mi way_so) ∧
  ((¬ (14 : Int32) ≤ v3) →
    wp_X5_count (fun r_6 ky_2 wp_3 mi_4 so_5 =>
      r6 (((31 : Int64) * v1) + (r_6).toInt64) (v3 + 1) ky_2 wp_3 mi_4 so_5) now pln (mkWy way_ky way_wp way_mi way_so) pad his v3)
def wp_L_told_6 (P : Int64 → (Nat → Int32) → (Nat → Int32) → (Nat → Int32) → Int32 → Prop) (now : StT) (pln : PlT) (way : WyT) (pad : PdT) (his : HiT) : Nat → Int64 → Int32 → (Nat → Int32) → (Nat → Int32) → (Nat → Int32) → Int32 → Prop
  | 0 => fun _ _ _ _ _ _ => False
  | n + 1 => wp_L_told_6F P now pln way pad his (wp_L_told_6 P now pln way pad his n)
def wp_L_told (P : Int64 → (Nat → Int32) → (Nat → Int32) → (Nat → Int32) → Int32 → Prop) (now : StT) (pln : PlT) (way : WyT) (pad : PdT) (his : HiT) : Prop :=
  ∃ n : Nat, wp_L_told_6 P now pln way pad his n (89 : Int64) (0 : Int32) way.ky way.wp way.mi way.so
def wp_L_call (P : Int32 → (Nat → Int32) → (Nat → Int32) → (Nat → Int32) → (Nat → Int32) → (Nat → Int32) → (Nat → Int32) → (Nat → Int32) → (Nat → Int32) → (Nat → Int32) → Int32 → (Nat → Int32) → (Nat → Int32) → (Nat → Int32) → (Nat → Int32) → (Nat → Int32) → Int32 → Int32 → Int32 → (Nat → StT) → Int32 → Int32 → Prop) (now : StT) (pln : PlT) (his : HiT) (x1 : Int32) (x2 : Int32) (x3 : Int32) (x4 : Int32) (x5 : Int32) : Prop :=
  (x1 = 0 →
    wp_X5_set (fun r_14 se_2 od_3 rd_4 vn_5 pn_6 ao_7 sr_8 sp_9 wt_10 hs_11 ol_12 sz_13 =>
      P r_14 se_2 now.la now.de now.le now.sa now.fl now.ar now.dr now.pe now.ri od_3 rd_4 vn_5 pn_6 ao_7 sr_8 sp_9 wt_10 hs_11 ol_12 sz_13) now pln his x2 x3) ∧
  (x1 = 1 →
    wp_X5_land (fun r_27 la_15 od_16 rd_17 vn_18 pn_19 ao_20 sr_21 sp_22 wt_23 hs_24 ol_25 sz_26 =>
      P r_27 now.se la_15 now.de now.le now.sa now.fl now.ar now.dr now.pe now.ri od_16 rd_17 vn_18 pn_19 ao_20 sr_21 sp_22 wt_23 hs_24 ol_25 sz_26) now pln his x2 x3) ∧
  (x1 = 2 →
    wp_X5_delay (fun r_40 de_28 od_29 rd_30 vn_31 pn_32 ao_33 sr_34 sp_35 wt_36 hs_37 ol_38 sz_39 =>
      P r_40 now.se now.la de_28 now.le now.sa now.fl now.ar now.dr now.pe now.ri od_29 rd_30 vn_31 pn_32 ao_33 sr_34 sp_35 wt_36 hs_37 ol_38 sz_39) now pln his x2 x3) ∧
  (x1 = 3 →
    wp_X5_van (fun r_54 le_41 sa_42 od_43 rd_44 vn_45 pn_46 ao_47 sr_48 sp_49 wt_50 hs_51 ol_52 sz_53 =>
      P r_54 now.se now.la now.de le_41 sa_42 now.fl now.ar now.dr now.pe now.ri od_43 rd_44 vn_45 pn_46 ao_47 sr_48 sp_49 wt_50 hs_51 ol_52 sz_53) now pln his x2 x3 x4) ∧
  (x1 = 4 →
    wp_X5_ride (fun r_71 fl_55 ar_56 dr_57 pe_58 ri_59 od_60 rd_61 vn_62 pn_63 ao_64 sr_65 sp_66 wt_67 hs_68 ol_69 sz_70 =>
      P r_71 now.se now.la now.de now.le now.sa fl_55 ar_56 dr_57 pe_58 ri_59 od_60 rd_61 vn_62 pn_63 ao_64 sr_65 sp_66 wt_67 hs_68 ol_69 sz_70) now pln his x2 x3 x4 x5) ∧
  (x1 = 5 →
    wp_X5_cancel (fun r_88 fl_72 ar_73 dr_74 pe_75 ri_76 od_77 rd_78 vn_79 pn_80 ao_81 sr_82 sp_83 wt_84 hs_85 ol_86 sz_87 =>
      P r_88 now.se now.la now.de now.le now.sa fl_72 ar_73 dr_74 pe_75 ri_76 od_77 rd_78 vn_79 pn_80 ao_81 sr_82 sp_83 wt_84 hs_85 ol_86 sz_87) now pln his x2) ∧
  ((¬ x1 = 0 ∧ ¬ x1 = 1 ∧ ¬ x1 = 2 ∧ ¬ x1 = 3 ∧ ¬ x1 = 4 ∧ ¬ x1 = 5) →
    wp_X5_rebook (fun r_101 fl_89 od_90 rd_91 vn_92 pn_93 ao_94 sr_95 sp_96 wt_97 hs_98 ol_99 sz_100 =>
      P r_101 now.se now.la now.de now.le now.sa fl_89 now.ar now.dr now.pe now.ri od_90 rd_91 vn_92 pn_93 ao_94 sr_95 sp_96 wt_97 hs_98 ol_99 sz_100) now pln his x2 x3)
def wp_L_due_145F (P : Int32 → (Nat → Int32) → (Nat → Int32) → (Nat → Int32) → (Nat → Int32) → (Nat → Int32) → Prop) (lq : Nat → Int32) (lr : Nat → Int32) (lw : Nat → Int32) (lo : Nat → Int32) (lg : Nat → Int32) (x0 : Int32) (x1 : Int32) (x2 : Int32) (x3 : Int32) (x4 : Int32) (nlq : Nat → Int32) (nlr : Nat → Int32) (nlw : Nat → Int32) (nlo : Nat → Int32) (nlg : Nat → Int32) (r145 : Int32 → Int32 → Prop) (v11 : Int32) (v12 : Int32) : Prop :=
  (((nlq (5 : Int32).toNatClampNeg) ≤ v12) →
    P v11 nlq nlr nlw nlo nlg) ∧
  ((¬ (nlq (5 : Int32).toNatClampNeg) ≤ v12) →
    vp_in v12 24 ∧
    ((0 ≤ (nlw v12.toNatClampNeg)) →
      r145 (v11 + (0 : Int32)) (v12 + 1)) ∧
    ((¬ 0 ≤ (nlw v12.toNatClampNeg)) →
      vp_in v12 24 ∧
      wp_L_people (fun r_51 =>
        r145 (v11 + r_51) (v12 + 1)) (nlr v12.toNatClampNeg)))
def wp_L_due_145 (P : Int32 → (Nat → Int32) → (Nat → Int32) → (Nat → Int32) → (Nat → Int32) → (Nat → Int32) → Prop) (lq : Nat → Int32) (lr : Nat → Int32) (lw : Nat → Int32) (lo : Nat → Int32) (lg : Nat → Int32) (x0 : Int32) (x1 : Int32) (x2 : Int32) (x3 : Int32) (x4 : Int32) (nlq : Nat → Int32) (nlr : Nat → Int32) (nlw : Nat → Int32) (nlo : Nat → Int32) (nlg : Nat → Int32) : Nat → Int32 → Int32 → Prop
  | 0 => fun _ _ => False
  | n + 1 => wp_L_due_145F P lq lr lw lo lg x0 x1 x2 x3 x4 nlq nlr nlw nlo nlg (wp_L_due_145 P lq lr lw lo lg x0 x1 x2 x3 x4 nlq nlr nlw nlo nlg n)
def wp_L_due_298F (P : Int32 → (Nat → Int32) → (Nat → Int32) → (Nat → Int32) → (Nat → Int32) → (Nat → Int32) → Prop) (lq : Nat → Int32) (lr : Nat → Int32) (lw : Nat → Int32) (lo : Nat → Int32) (lg : Nat → Int32) (x0 : Int32) (x1 : Int32) (x2 : Int32) (x3 : Int32) (x4 : Int32) (v12 : Int32) (nlq : Nat → Int32) (nlw : Nat → Int32) (nlo : Nat → Int32) (nlg : Nat → Int32) (r298 : Int32 → (Nat → Int32) → Prop) (v13 : Int32) (nlr : Nat → Int32) : Prop :=
  ((((nlq (5 : Int32).toNatClampNeg) - (1 : Int32)) ≤ v13) →
    P v12 (upd nlq (5 : Int32).toNatClampNeg ((nlq (5 : Int32).toNatClampNeg) - (1 : Int32))) nlr nlw nlo nlg) ∧
  ((¬ ((nlq (5 : Int32).toNatClampNeg) - (1 : Int32)) ≤ v13) →
    vp_in (v13 + (1 : Int32)) 24 ∧
    vp_in v13 24 ∧
    r298 (v13 + 1) (upd nlr v13.toNatClampNeg (nlr (v13 + (1 : Int32)).toNatClampNeg)))
def wp_L_due_298 (P : Int32 → (Nat → Int32) → (Nat → Int32) → (Nat → Int32) → (Nat → Int32) → (Nat → Int32) → Prop) (lq : Nat → Int32) (lr : Nat → Int32) (lw : Nat → Int32) (lo : Nat → Int32) (lg : Nat → Int32) (x0 : Int32) (x1 : Int32) (x2 : Int32) (x3 : Int32) (x4 : Int32) (v12 : Int32) (nlq : Nat → Int32) (nlw : Nat → Int32) (nlo : Nat → Int32) (nlg : Nat → Int32) : Nat → Int32 → (Nat → Int32) → Prop
  | 0 => fun _ _ => False
  | n + 1 => wp_L_due_298F P lq lr lw lo lg x0 x1 x2 x3 x4 v12 nlq nlw nlo nlg (wp_L_due_298 P lq lr lw lo lg x0 x1 x2 x3 x4 v12 nlq nlw nlo nlg n)
def wp_L_due_357 (P : Int32 → (Nat → Int32) → (Nat → Int32) → (Nat → Int32) → (Nat → Int32) → (Nat → Int32) → Prop) (lq : Nat → Int32) (lr : Nat → Int32) (lw : Nat → Int32) (lo : Nat → Int32) (lg : Nat → Int32) (x0 : Int32) (x1 : Int32) (x2 : Int32) (x3 : Int32) (x4 : Int32) (nlq : Nat → Int32) (nlr : Nat → Int32) (nlw : Nat → Int32) (nlo : Nat → Int32) (nlg : Nat → Int32) : Prop :=
  ((x1 < (nlq (5 : Int32).toNatClampNeg)) →
    P (-105 : Int32) nlq nlr nlw nlo nlg) ∧
  ((¬ x1 < (nlq (5 : Int32).toNatClampNeg)) →
    P (-101 : Int32) nlq nlr nlw nlo nlg)
def wp_L_due_27 (P : Int32 → (Nat → Int32) → (Nat → Int32) → (Nat → Int32) → (Nat → Int32) → (Nat → Int32) → Prop) (lq : Nat → Int32) (lr : Nat → Int32) (lw : Nat → Int32) (lo : Nat → Int32) (lg : Nat → Int32) (x0 : Int32) (x1 : Int32) (x2 : Int32) (x3 : Int32) (x4 : Int32) (w0 : Int32) (nlq : Nat → Int32) (nlr : Nat → Int32) (nlw : Nat → Int32) (nlo : Nat → Int32) (nlg : Nat → Int32) : Prop :=
  (x0 = 0 →
    vp_in x1 34 ∧
    P w0 (upd nlq x1.toNatClampNeg x2) nlr nlw nlo nlg) ∧
  (x0 = 1 →
    vp_in ((6 : Int32) + x1) 34 ∧
    P w0 (upd nlq ((6 : Int32) + x1).toNatClampNeg x2) nlr nlw nlo nlg) ∧
  (x0 = 2 →
    vp_in ((12 : Int32) + x1) 34 ∧
    vp_in ((6 : Int32) + x1) 34 ∧
    P ((((upd nlq ((12 : Int32) + x1).toNatClampNeg x2) ((6 : Int32) + x1).toNatClampNeg) + x2) + ((upd nlq ((12 : Int32) + x1).toNatClampNeg x2) (0 : Int32).toNatClampNeg)) (upd nlq ((12 : Int32) + x1).toNatClampNeg x2) nlr nlw nlo nlg) ∧
  (x0 = 3 →
    vp_in ((18 : Int32) + x1) 34 ∧
    vp_in ((26 : Int32) + x1) 34 ∧
    wp_L_gives (fun lw_13 lo_14 lg_15 =>
      ∃ n : Nat, wp_L_due_145 P lq lr lw lo lg x0 x1 x2 x3 x4 (upd (upd nlq ((18 : Int32) + x1).toNatClampNeg x2) ((26 : Int32) + x1).toNatClampNeg x3) nlr lw_13 lo_14 lg_15 n (0 : Int32) (0 : Int32)) (upd (upd nlq ((18 : Int32) + x1).toNatClampNeg x2) ((26 : Int32) + x1).toNatClampNeg x3) nlr nlw nlo nlg) ∧
  (x0 = 4 →
    ((¬ (nlq (5 : Int32).toNatClampNeg) = (24 : Int32)) →
      vp_in (nlq (5 : Int32).toNatClampNeg) 24 ∧
      P (((upd nlq (5 : Int32).toNatClampNeg ((nlq (5 : Int32).toNatClampNeg) + (1 : Int32))) (5 : Int32).toNatClampNeg) - (1 : Int32)) (upd nlq (5 : Int32).toNatClampNeg ((nlq (5 : Int32).toNatClampNeg) + (1 : Int32))) (upd nlr (nlq (5 : Int32).toNatClampNeg).toNatClampNeg (((x1 + ((8 : Int32) * x2)) + ((64 : Int32) * x3)) + ((8192 : Int32) * x4))) nlw nlo nlg) ∧
    (((nlq (5 : Int32).toNatClampNeg) = (24 : Int32)) →
      P (-104 : Int32) nlq nlr nlw nlo nlg)) ∧
  (x0 = 5 →
    ((x1 < (nlq (5 : Int32).toNatClampNeg)) →
      vp_in x1 24 ∧
      ((0 ≤ (nlw x1.toNatClampNeg)) →
        wp_L_part (fun r_28 =>
          wp_L_part (fun r_30 =>
            ∃ n : Nat, wp_L_due_298 P lq lr lw lo lg x0 x1 x2 x3 x4 (r_28 + r_30) nlq nlw nlo nlg n x1 nlr) nlq nlr nlw x1 (nlq (4 : Int32).toNatClampNeg) (1 : Int32)) nlq nlr nlw x1 (nlq (3 : Int32).toNatClampNeg) (0 : Int32)) ∧
      ((¬ 0 ≤ (nlw x1.toNatClampNeg)) →
        ∃ n : Nat, wp_L_due_298 P lq lr lw lo lg x0 x1 x2 x3 x4 (0 : Int32) nlq nlw nlo nlg n x1 nlr)) ∧
    ((¬ x1 < (nlq (5 : Int32).toNatClampNeg)) →
      P (-101 : Int32) nlq nlr nlw nlo nlg)) ∧
  ((¬ x0 = 0 ∧ ¬ x0 = 1 ∧ ¬ x0 = 2 ∧ ¬ x0 = 3 ∧ ¬ x0 = 4 ∧ ¬ x0 = 5) →
    (((nlq (5 : Int32).toNatClampNeg) ≤ x1) →
      wp_L_due_357 P lq lr lw lo lg x0 x1 x2 x3 x4 nlq nlr nlw nlo nlg) ∧
    ((¬ (nlq (5 : Int32).toNatClampNeg) ≤ x1) →
      vp_in x1 24 ∧
      wp_L_flightOf (fun r_34 =>
        ((¬ r_34 = x2) →
          vp_in x1 24 ∧
          vp_in x1 24 ∧
          wp_L_flightOf (fun r_38 =>
            vp_in x1 24 ∧
            wp_L_gives (fun lw_40 lo_41 lg_42 =>
              vp_in x1 24 ∧
              ((0 ≤ (lw_40 x1.toNatClampNeg)) →
                vp_in x1 24 ∧
                P (lw_40 x1.toNatClampNeg) nlq (upd nlr x1.toNatClampNeg ((nlr x1.toNatClampNeg) + (x2 - r_38))) lw_40 lo_41 lg_42) ∧
              ((¬ 0 ≤ (lw_40 x1.toNatClampNeg)) →
                P (-106 : Int32) nlq (upd nlr x1.toNatClampNeg ((nlr x1.toNatClampNeg) + (x2 - r_38))) lw_40 lo_41 lg_42)) nlq (upd nlr x1.toNatClampNeg ((nlr x1.toNatClampNeg) + (x2 - r_38))) nlw nlo nlg) (nlr x1.toNatClampNeg)) ∧
        ((r_34 = x2) →
          wp_L_due_357 P lq lr lw lo lg x0 x1 x2 x3 x4 nlq nlr nlw nlo nlg)) (nlr x1.toNatClampNeg)))
def wp_L_due (P : Int32 → (Nat → Int32) → (Nat → Int32) → (Nat → Int32) → (Nat → Int32) → (Nat → Int32) → Prop) (lq : Nat → Int32) (lr : Nat → Int32) (lw : Nat → Int32) (lo : Nat → Int32) (lg : Nat → Int32) (x0 : Int32) (x1 : Int32) (x2 : Int32) (x3 : Int32) (x4 : Int32) : Prop :=
  ((¬ x0 = 0) →
    ((¬ x0 = (1 : Int32)) →
      wp_L_due_27 P lq lr lw lo lg x0 x1 x2 x3 x4 (0 : Int32) lq lr lw lo lg) ∧
    ((x0 = (1 : Int32)) →
      vp_in ((6 : Int32) + x1) 34 ∧
      wp_L_due_27 P lq lr lw lo lg x0 x1 x2 x3 x4 (lq ((6 : Int32) + x1).toNatClampNeg) lq lr lw lo lg)) ∧
  ((x0 = 0) →
    vp_in x1 34 ∧
    wp_L_due_27 P lq lr lw lo lg x0 x1 x2 x3 x4 (lq x1.toNatClampNeg) lq lr lw lo lg)
