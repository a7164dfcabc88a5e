/-! A call on the class leaves the model's cells; a call on the model leaves all others -/
def XSt (S : St) := (bxS S, grS S, mkS S, thS S, tcS S, psS S, pwS S, fbS S, ffS S, nfS S, ipS S, ouS S, odS S)
theorem x_c {S T : St} (h : XSt S = XSt T) : CSt S = CSt T ∧ ouS S = ouS T ∧ odS S = odS T := by
  simp only [XSt, Prod.mk.injEq] at h
  obtain ⟨c1, c2, c3, c4, c5, c6, c7, c8, c9, c10, c11, c12, c13⟩ := h
  refine ⟨?_, c12, c13⟩
  unfold CSt
  rw [c1, c2, c3, c4, c5, c6, c7, c8, c9, c10, c11]
-- the class
theorem M_bo (S : St) (j : Nat) (f : Nat → UInt32) : MSt (boxU S j f) = MSt S := rfl
theorem M_th (S : St) (v : Nat → Bool) : MSt (thU S v) = MSt S := rfl
theorem M_tc (S : St) (v : Nat → Bool) : MSt (tcU S v) = MSt S := rfl
theorem M_nf (S : St) (v : Nat → Int32) : MSt (nfU S v) = MSt S := rfl
theorem M_ip (S : St) (v : Nat × Nat) : MSt (ipU S v) = MSt S := rfl
theorem M_ou (S : St) (v : Nat → Int64) : MSt (ouU S v) = MSt S := rfl
theorem M_od (S : St) (v : Nat → UInt64) : MSt (odU S v) = MSt S := rfl
theorem C_ou (S : St) (v : Nat → Int64) : CSt (ouU S v) = CSt S := rfl
theorem C_od (S : St) (v : Nat → UInt64) : CSt (odU S v) = CSt S := rfl
theorem M_fl (S : St) (k : Nat) (g m : Int32) : MSt (flS S k g m) = MSt S := rfl
theorem M_lv (S : St) (k : Nat) : MSt (lvS S k) = MSt S := rfl
theorem M_fn (S : St) (c b : Nat) (x : UInt32) : MSt (fnS S c b x) = MSt S := rfl
theorem M_fz (S : St) : MSt (fzS S) = MSt S := rfl
theorem M_pc (S : St) (q : Nat) (x y z : UInt32) : MSt (pcS S q x y z) = MSt S := rfl
theorem M_cp (S : St) (j a : Nat) : MSt (cpF6 S j a) = MSt S := rfl
theorem M_wd (S : St) (j : Nat) (x y z : UInt32) : MSt (wdS S j x y z) = MSt S := rfl
theorem M_mv (S : St) (j : Nat) (x y z : UInt32) : MSt (mvS S j x y z) = MSt S := rfl
theorem M_df (S : St) (i a b n : Nat) : MSt (dfS S i a b n) = MSt S := rfl
theorem M_cs (S : St) (i a : Nat) : MSt (cpsS S i a) = MSt S := rfl
theorem M_pu (S : St) (i q : Nat) (b : Bool) : MSt (putS S i q b) = MSt S := by unfold putS; split <;> rfl
theorem M_ap (S : St) (k a : Nat) (g m : Int32) : MSt (apS S k a g m) = MSt S := by unfold apS; rw [M_fl, M_wd, M_cp, M_cp, M_th]
theorem M_mt (S : St) (k a : Nat) (x y z : UInt32) : MSt (mtS S k a x y z) = MSt S := by
  unfold mtS mtW
  split
  · exact M_cp _ _ _
  · rw [M_tc, M_wd, M_cp, M_cp]
theorem M_sb (S : St) (k : Nat) (x y z : UInt32) : MSt (sbS S k x y z) = MSt S := by
  unfold sbS sbV
  split
  · rw [M_mt, M_mv, M_cp]
  · rw [M_mv, M_cp]
theorem M_ab (N : Nat) (x y z : UInt32) (g m : Int32) : ∀ n b S la ad, MSt (abR N x y z g m n b S la ad).1 = MSt S
  | 0, _, _, _, _ => rfl
  | n + 1, b, S, la, ad => by
    rw [abR]
    split
    · split
      · exact M_ab N x y z g m n _ _ _ _
      · rw [M_ab N x y z g m n, M_ap]
        split
        · rfl
        · exact M_mv _ _ _ _ _
    · rfl
theorem M_abT (N : Nat) (x y z : UInt32) (g m : Int32) (S : St) : MSt (abT N x y z g m S) = MSt S := by
  unfold abT abD
  rw [M_nf, M_ab, M_cp]
theorem M_rg (x y z : UInt32) : ∀ n S, MSt (rgS x y z n S) = MSt S
  | 0, _ => rfl
  | n + 1, S => by
    rw [rgS]
    split
    · rw [M_rg x y z n, M_mv]
    · exact M_mv _ _ _ _ _
theorem M_arM (S : St) (n : Int32) (x y z : UInt32) : MSt (arM S n x y z) = MSt S := by unfold arM; rw [M_rg, M_cp]
theorem M_arSX (S : St) (n : Int32) (x y z : UInt32) : MSt (arSX S n x y z) = MSt S := by
  unfold arSX
  split
  · exact M_arM _ _ _ _ _
  · rfl
theorem M_sh (x y z : UInt32) : ∀ n i S q, MSt (shR x y z n i S q).1 = MSt S
  | 0, _, _, _ => rfl
  | n + 1, i, S, q => by
    rw [shR]
    split
    · rw [M_sh x y z n, M_sb]
    · exact M_sh x y z n _ _ _
theorem M_shD (S : St) (fr tt : Int32) (x y z : UInt32) : MSt (shD S fr tt x y z).1 = MSt S := by unfold shD; exact M_sh _ _ _ _ _ _ _
theorem M_rm (S : St) (k : Nat) : ∀ o, MSt (rmS S k o) = MSt S
  | 0 => rfl
  | o + 1 => by
    rw [rmS]
    split
    · rw [M_pu]; exact M_rm S k o
    · exact M_rm S k o
theorem M_rmT (S : St) (k : Nat) : MSt (rmT S k) = MSt S := by unfold rmT; rw [M_nf, M_lv, M_rm]
theorem M_rv (S : St) (k : Nat) : ∀ o, MSt (rvS S k o) = MSt S
  | 0 => rfl
  | o + 1 => by
    rw [rvS]
    split
    · exact M_rv S k o
    · rw [M_pu]; exact M_rv S k o
theorem M_up (S : St) : ∀ b, MSt (upS S b) = MSt S
  | 0 => M_cs _ _ _
  | b + 1 => by
    rw [upS]
    split
    · rw [M_rv]; exact M_up S b
    · exact M_up S b
theorem M_upF (S : St) : MSt (upF S) = MSt S := by unfold upF upC upE upB; rw [M_nf, M_tc, M_ip, M_df, M_df, M_up]
theorem M_of (mask : Int32) : ∀ n b S c, MSt (ofR mask n b S c) = MSt S
  | 0, _, _, _ => rfl
  | n + 1, b, S, c => by
    rw [ofR]
    split
    · rw [M_of mask n, M_fn]
    · exact M_of mask n _ _ _
theorem M_me (mask : Int32) : ∀ n b S c, MSt (meR mask n b S c) = MSt S
  | 0, _, _, _ => rfl
  | n + 1, b, S, c => by
    rw [meR]
    split
    · rw [M_me mask n, M_fn]
    · exact M_me mask n _ _ _
theorem M_en {x : Option String} {SX S1 S : St} (h1 : MSt SX = MSt S) (h2 : MSt S1 = MSt S) : MSt (enS x SX S1) = MSt S := by
  cases x
  · exact h2
  · exact h1
-- the model
theorem X_mF (S : St) (v : Nat → Nat → UInt32) : XSt (mFU S v) = XSt S := rfl
theorem X_mI (S : St) (v : Nat → Nat → Int32) : XSt (mIU S v) = XSt S := rfl
theorem X_mZ (S : St) (v : Nat → Nat → Bool) : XSt (mZU S v) = XSt S := rfl
theorem X_mn (S : St) (v : Nat → Int32) : XSt (mnU S v) = XSt S := rfl
theorem X_gs (S : St) (a b : Bool) : XSt (gsS S a b) = XSt S := X_mn _ _
theorem X_ok (S : St) : XSt (okS S) = XSt S := X_mn _ _
theorem X_pc (S : St) (q : Nat) (x y z : UInt32) : XSt (pcM S q x y z) = XSt S := by
  unfold pcM
  split
  · rw [X_mF, X_gs]
  · exact X_gs _ _ _
theorem X_tk (S : St) : XSt (tkS S) = XSt S := X_mF _ _
theorem X_tg (S : St) (b : Nat) : XSt (tgS S b) = XSt S := X_mF _ _
theorem X_wn (S : St) (b k : Nat) (d : UInt32) : XSt (wnS S b k d) = XSt S := X_mF _ _
theorem X_gn (S : St) (x y z : UInt32) : XSt (gnS S x y z) = XSt S := X_mF _ _
theorem X_bc (S : St) (b : Nat) : XSt (bcS S b) = XSt S := X_mF _ _
theorem X_se (S : St) (b : Nat) (x y z : UInt32) : XSt (seS S b x y z) = XSt S := by unfold seS; rw [X_mZ]; unfold seT; rw [X_wn, X_wn, X_wn, X_tg]
theorem X_pu (S : St) (b : Nat) (g m : Int32) : XSt (puS S b g m) = XSt S := by unfold puS; rw [X_se]; unfold puT; rw [X_mI, X_mI]; unfold puZ; rw [X_mZ]
theorem X_ad (S : St) (g m : Int32) : XSt (adMS S g m) = XSt S := by
  unfold adMS
  split
  · rw [X_pu, X_tk, X_ok]
  · exact X_gs _ _ _
theorem X_gr (x y z : UInt32) : ∀ n S ok, XSt (grM x y z n S ok).1 = XSt S
  | 0, _, _ => rfl
  | n + 1, S, ok => by
    rw [grM]
    split
    · rw [X_gr x y z n, X_gn]
    · rfl
theorem X_pt (x y z : UInt32) (g m : Int32) : ∀ n S r, XSt (ptR x y z g m n S r).1 = XSt S
  | 0, _, _ => rfl
  | n + 1, S, r => by rw [ptR, X_pt x y z g m n, X_gn, X_pu]
theorem X_ar (S : St) (n : Int32) (x y z : UInt32) (g m : Int32) : XSt (arMS S n x y z g m) = XSt S := by
  have e : XSt (arT S n x y z).1 = XSt S := by unfold arT; rw [X_gr, X_tk]
  unfold arMS
  split
  · rw [X_pt, X_tk, X_ok, e]
  · rw [X_gs, e]
theorem X_mo (S : St) (b : Nat) (x y z : UInt32) : XSt (moM S b x y z) = XSt S := by
  unfold moM
  split
  · exact X_tg _ _
  · rw [X_tg, X_se]
theorem X_mv (S : St) (k : Int32) (x y z : UInt32) : XSt (mvMS S k x y z) = XSt S := by
  unfold mvMS
  split
  · rw [X_mo, X_tk, X_ok]
  · exact X_gs _ _ _
theorem X_s1 (S : St) (b : Nat) (x y z : UInt32) : XSt (s1M S b x y z) = XSt S := by
  unfold s1M
  split
  · split
    · rw [X_mo, X_gn, X_bc]
    · rw [X_gn, X_bc]
  · exact X_bc _ _
theorem X_shN (x y z : UInt32) : ∀ n i S q, XSt (shN x y z n i S q).1 = XSt S
  | 0, _, _, _ => rfl
  | n + 1, i, S, q => by rw [shN, X_shN x y z n, X_s1]
theorem X_sh (S : St) (fr tt : Int32) (x y z : UInt32) : XSt (shMS S fr tt x y z) = XSt S := by
  unfold shMS
  split
  · rw [X_shN, X_ok]
  · exact X_gs _ _ _
theorem X_fi (S : St) (k g m : Int32) : XSt (fiMS S k g m) = XSt S := by
  unfold fiMS
  split
  · unfold fiM; rw [X_mZ]; unfold fiB; rw [X_mI]; unfold fiA; rw [X_mI, X_ok]
  · exact X_gs _ _ _
theorem X_cl (S : St) (a b : Nat) : XSt (clS S a b) = XSt S := X_mI _ _
theorem X_rr (k : Nat) : ∀ n o S, XSt (rmR k n o S) = XSt S
  | 0, _, _ => rfl
  | n + 1, o, S => by
    rw [rmR, X_rr k n]
    split <;> exact X_cl _ _ _
theorem X_rm (S : St) (k : Int32) : XSt (rmMS S k) = XSt S := by
  unfold rmMS
  split
  · unfold leM; rw [X_mZ, X_mZ, X_rr, X_ok]
  · exact X_gs _ _ _
theorem X_zr : ∀ n i S, XSt (zrR n i S) = XSt S
  | 0, _, _ => rfl
  | n + 1, i, S => by rw [zrR, X_zr n]; exact X_mI _ _
theorem X_lki (a : Nat) : ∀ n b S, XSt (lkI a n b S) = XSt S
  | 0, _, _ => rfl
  | n + 1, b, S => by
    rw [lkI, X_lki a n]
    split
    · exact X_mI _ _
    · rfl
theorem X_lko : ∀ n a S, XSt (lkO n a S) = XSt S
  | 0, _, _ => rfl
  | n + 1, a, S => by rw [lkO, X_lko n, X_lki]
theorem X_lk (S : St) : XSt (lkS S) = XSt S := by unfold lkS; rw [X_lko, X_zr]
theorem X_udS (S : St) (i : Nat) : XSt (udS S i) = XSt S := by unfold udS; rw [X_mI]; unfold udB; rw [X_mI]; unfold udA; rw [X_mI]
theorem X_udR : ∀ n i S, XSt (udR n i S) = XSt S
  | 0, _, _ => rfl
  | n + 1, i, S => by rw [udR, X_udR n, X_udS]
theorem X_utR : ∀ n i S, XSt (utR n i S) = XSt S
  | 0, _, _ => rfl
  | n + 1, i, S => by rw [utR, X_utR n]; exact X_mZ _ _
theorem X_ud (S : St) : XSt (udMS S) = XSt S := by
  unfold udMS
  split
  · unfold uuS; rw [X_mn, X_utR, X_udR, X_ok, X_lk]
  · rw [X_gs, X_lk]
theorem X_fn (S : St) (c b : Nat) (x : UInt32) : XSt (fnM S c b x) = XSt S := by unfold fnM; rw [X_mn]; unfold fnB; rw [X_mF]; unfold fnA; rw [X_mI]
theorem X_fz (S : St) : XSt (fzM S) = XSt S := X_mn _ _
theorem X_olR (mask : Int32) : ∀ n b S c, XSt (olR mask n b S c) = XSt S
  | 0, _, _, _ => rfl
  | n + 1, b, S, c => by
    rw [olR]
    split
    · rw [X_olR mask n, X_fn]
    · exact X_olR mask n _ _ _
theorem X_ol (S : St) (mask : Int32) : XSt (olMS S mask) = XSt S := by
  unfold olMS
  split
  · rw [X_olR, X_fz, X_ok]
  · exact X_gs _ _ _
theorem X_meR (mask : Int32) : ∀ n b S c, XSt (meM mask n b S c) = XSt S
  | 0, _, _, _ => rfl
  | n + 1, b, S, c => by
    rw [meM]
    split
    · rw [X_meR mask n, X_fn]
    · exact X_meR mask n _ _ _
theorem X_nr (S : St) : XSt (nrMS S) = XSt S := X_mn _ _
theorem X_me (S : St) (mask : Int32) : XSt (meM mask 512 0 (fzM (nrMS S)) 0) = XSt S := by rw [X_meR, X_fz, X_nr]
/-- what a call of the law comes to: S before it, T behind the class's part, U behind the model's -/
theorem Rel.law {S S1 T U : St} (h : Rel S1 U) (hT : CSt T = CSt S1) (hX : XSt U = XSt T) : Rel U U := h.cm ((x_c hX).1.trans hT) rfl
theorem Rel.cls {S T : St} (h : Rel S S) (hM : MSt T = MSt S) : Rel S T := h.cm rfl hM
