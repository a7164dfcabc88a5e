/-! The state of the whole system as one value, the memory that it stands for, contracts over it -/
def bI (b : Bool) : Int32 := if b then 1 else 0
theorem bI_0 {b : Bool} : bI b = 0 ↔ b = false := by cases b <;> decide
theorem bI_n0 {b : Bool} : ¬ bI b = 0 ↔ b = true := by cases b <;> decide
theorem bI_nar (b : Bool) : narrow .boolean (.int (bI b)) = .int (bI b) := by cases b <;> decide
theorem bI_fit (b : Bool) : fits .boolean (.int (bI b)) = true := by cases b <;> decide
theorem bI_inj {a b : Bool} (h : bI a = bI b) : a = b := by cases a <;> cases b <;> first | rfl | exact absurd h (by decide)
/-- addresses by kind and number; kind and number of an address; all addresses; what may change; array classes (F I J Z D Body); class numbers; slots -/
abbrev Gm : Type := (Nat → Nat → Nat) × (Nat → Nat × Nat) × List Nat × (Nat → Prop) × (Nat → ClassId) × (Nat → ClassId) × (Nat → Nat → Nat)
abbrev g_ad (G : Gm) : Nat → Nat → Nat := G.1
abbrev g_K (G : Gm) : Nat → Nat × Nat := G.2.1
abbrev g_L (G : Gm) : List Nat := G.2.2.1
abbrev g_A (G : Gm) : Nat → Prop := G.2.2.2.1
abbrev g_cy (G : Gm) : Nat → ClassId := G.2.2.2.2.1
abbrev g_dC (G : Gm) : Nat → ClassId := G.2.2.2.2.2.1
abbrev g_dI (G : Gm) : Nat → Nat → Nat := G.2.2.2.2.2.2
def g_ty (G : Gm) : List (ClassId × FieldType) := [(g_cy G 0, .float), (g_cy G 1, .int), (g_cy G 2, .long), (g_cy G 3, .boolean), (g_cy G 4, .double), (g_cy G 5, .object "PairFinder$Body")]
abbrev St : Type := (Nat → Nat → UInt32) × (Nat → Int32) × (Nat → Int32) × (Nat → Bool) × (Nat → Bool) × (Nat → Int32) × (Nat → Nat → Int64) × (Nat → Int32) × (Nat → UInt32) × (Nat → Int32) × (Nat × Nat) × (Nat → Nat → UInt32) × (Nat → Nat → Int32) × (Nat → Nat → Bool) × (Nat → Int32) × (Nat → Int64) × (Nat → UInt64)
def bxS (S : St) := S.1
def grS (S : St) := S.2.1
def mkS (S : St) := S.2.2.1
def thS (S : St) := S.2.2.2.1
def tcS (S : St) := S.2.2.2.2.1
def psS (S : St) := S.2.2.2.2.2.1
def pwS (S : St) := S.2.2.2.2.2.2.1
def fbS (S : St) := S.2.2.2.2.2.2.2.1
def ffS (S : St) := S.2.2.2.2.2.2.2.2.1
def nfS (S : St) := S.2.2.2.2.2.2.2.2.2.1
def ipS (S : St) := S.2.2.2.2.2.2.2.2.2.2.1
def mFS (S : St) := S.2.2.2.2.2.2.2.2.2.2.2.1
def mIS (S : St) := S.2.2.2.2.2.2.2.2.2.2.2.2.1
def mZS (S : St) := S.2.2.2.2.2.2.2.2.2.2.2.2.2.1
def mnS (S : St) := S.2.2.2.2.2.2.2.2.2.2.2.2.2.2.1
def ouS (S : St) := S.2.2.2.2.2.2.2.2.2.2.2.2.2.2.2.1
def odS (S : St) := S.2.2.2.2.2.2.2.2.2.2.2.2.2.2.2.2
def bxU (S : St) (v : Nat → Nat → UInt32) : St := (v, grS S, mkS S, thS S, tcS S, psS S, pwS S, fbS S, ffS S, nfS S, ipS S, mFS S, mIS S, mZS S, mnS S, ouS S, odS S)
def grU (S : St) (v : Nat → Int32) : St := (bxS S, v, mkS S, thS S, tcS S, psS S, pwS S, fbS S, ffS S, nfS S, ipS S, mFS S, mIS S, mZS S, mnS S, ouS S, odS S)
def mkU (S : St) (v : Nat → Int32) : St := (bxS S, grS S, v, thS S, tcS S, psS S, pwS S, fbS S, ffS S, nfS S, ipS S, mFS S, mIS S, mZS S, mnS S, ouS S, odS S)
def thU (S : St) (v : Nat → Bool) : St := (bxS S, grS S, mkS S, v, tcS S, psS S, pwS S, fbS S, ffS S, nfS S, ipS S, mFS S, mIS S, mZS S, mnS S, ouS S, odS S)
def tcU (S : St) (v : Nat → Bool) : St := (bxS S, grS S, mkS S, thS S, v, psS S, pwS S, fbS S, ffS S, nfS S, ipS S, mFS S, mIS S, mZS S, mnS S, ouS S, odS S)
def psU (S : St) (v : Nat → Int32) : St := (bxS S, grS S, mkS S, thS S, tcS S, v, pwS S, fbS S, ffS S, nfS S, ipS S, mFS S, mIS S, mZS S, mnS S, ouS S, odS S)
def pwU (S : St) (v : Nat → Nat → Int64) : St := (bxS S, grS S, mkS S, thS S, tcS S, psS S, v, fbS S, ffS S, nfS S, ipS S, mFS S, mIS S, mZS S, mnS S, ouS S, odS S)
def fbU (S : St) (v : Nat → Int32) : St := (bxS S, grS S, mkS S, thS S, tcS S, psS S, pwS S, v, ffS S, nfS S, ipS S, mFS S, mIS S, mZS S, mnS S, ouS S, odS S)
def ffU (S : St) (v : Nat → UInt32) : St := (bxS S, grS S, mkS S, thS S, tcS S, psS S, pwS S, fbS S, v, nfS S, ipS S, mFS S, mIS S, mZS S, mnS S, ouS S, odS S)
def nfU (S : St) (v : Nat → Int32) : St := (bxS S, grS S, mkS S, thS S, tcS S, psS S, pwS S, fbS S, ffS S, v, ipS S, mFS S, mIS S, mZS S, mnS S, ouS S, odS S)
def ipU (S : St) (v : Nat × Nat) : St := (bxS S, grS S, mkS S, thS S, tcS S, psS S, pwS S, fbS S, ffS S, nfS S, v, mFS S, mIS S, mZS S, mnS S, ouS S, odS S)
def mFU (S : St) (v : Nat → Nat → UInt32) : St := (bxS S, grS S, mkS S, thS S, tcS S, psS S, pwS S, fbS S, ffS S, nfS S, ipS S, v, mIS S, mZS S, mnS S, ouS S, odS S)
def mIU (S : St) (v : Nat → Nat → Int32) : St := (bxS S, grS S, mkS S, thS S, tcS S, psS S, pwS S, fbS S, ffS S, nfS S, ipS S, mFS S, v, mZS S, mnS S, ouS S, odS S)
def mZU (S : St) (v : Nat → Nat → Bool) : St := (bxS S, grS S, mkS S, thS S, tcS S, psS S, pwS S, fbS S, ffS S, nfS S, ipS S, mFS S, mIS S, v, mnS S, ouS S, odS S)
def mnU (S : St) (v : Nat → Int32) : St := (bxS S, grS S, mkS S, thS S, tcS S, psS S, pwS S, fbS S, ffS S, nfS S, ipS S, mFS S, mIS S, mZS S, v, ouS S, odS S)
def ouU (S : St) (v : Nat → Int64) : St := (bxS S, grS S, mkS S, thS S, tcS S, psS S, pwS S, fbS S, ffS S, nfS S, ipS S, mFS S, mIS S, mZS S, mnS S, v, odS S)
def odU (S : St) (v : Nat → UInt64) : St := (bxS S, grS S, mkS S, thS S, tcS S, psS S, pwS S, fbS S, ffS S, nfS S, ipS S, mFS S, mIS S, mZS S, mnS S, ouS S, v)
theorem bx_bx (S : St) (v : Nat → Nat → UInt32) : bxS (bxU S v) = v := rfl
theorem gr_bx (S : St) (v : Nat → Nat → UInt32) : grS (bxU S v) = grS S := rfl
theorem mk_bx (S : St) (v : Nat → Nat → UInt32) : mkS (bxU S v) = mkS S := rfl
theorem th_bx (S : St) (v : Nat → Nat → UInt32) : thS (bxU S v) = thS S := rfl
theorem tc_bx (S : St) (v : Nat → Nat → UInt32) : tcS (bxU S v) = tcS S := rfl
theorem ps_bx (S : St) (v : Nat → Nat → UInt32) : psS (bxU S v) = psS S := rfl
theorem pw_bx (S : St) (v : Nat → Nat → UInt32) : pwS (bxU S v) = pwS S := rfl
theorem fb_bx (S : St) (v : Nat → Nat → UInt32) : fbS (bxU S v) = fbS S := rfl
theorem ff_bx (S : St) (v : Nat → Nat → UInt32) : ffS (bxU S v) = ffS S := rfl
theorem nf_bx (S : St) (v : Nat → Nat → UInt32) : nfS (bxU S v) = nfS S := rfl
theorem ip_bx (S : St) (v : Nat → Nat → UInt32) : ipS (bxU S v) = ipS S := rfl
theorem mF_bx (S : St) (v : Nat → Nat → UInt32) : mFS (bxU S v) = mFS S := rfl
theorem mI_bx (S : St) (v : Nat → Nat → UInt32) : mIS (bxU S v) = mIS S := rfl
theorem mZ_bx (S : St) (v : Nat → Nat → UInt32) : mZS (bxU S v) = mZS S := rfl
theorem mn_bx (S : St) (v : Nat → Nat → UInt32) : mnS (bxU S v) = mnS S := rfl
theorem ou_bx (S : St) (v : Nat → Nat → UInt32) : ouS (bxU S v) = ouS S := rfl
theorem od_bx (S : St) (v : Nat → Nat → UInt32) : odS (bxU S v) = odS S := rfl
theorem bx_gr (S : St) (v : Nat → Int32) : bxS (grU S v) = bxS S := rfl
theorem gr_gr (S : St) (v : Nat → Int32) : grS (grU S v) = v := rfl
theorem mk_gr (S : St) (v : Nat → Int32) : mkS (grU S v) = mkS S := rfl
theorem th_gr (S : St) (v : Nat → Int32) : thS (grU S v) = thS S := rfl
theorem tc_gr (S : St) (v : Nat → Int32) : tcS (grU S v) = tcS S := rfl
theorem ps_gr (S : St) (v : Nat → Int32) : psS (grU S v) = psS S := rfl
theorem pw_gr (S : St) (v : Nat → Int32) : pwS (grU S v) = pwS S := rfl
theorem fb_gr (S : St) (v : Nat → Int32) : fbS (grU S v) = fbS S := rfl
theorem ff_gr (S : St) (v : Nat → Int32) : ffS (grU S v) = ffS S := rfl
theorem nf_gr (S : St) (v : Nat → Int32) : nfS (grU S v) = nfS S := rfl
theorem ip_gr (S : St) (v : Nat → Int32) : ipS (grU S v) = ipS S := rfl
theorem mF_gr (S : St) (v : Nat → Int32) : mFS (grU S v) = mFS S := rfl
theorem mI_gr (S : St) (v : Nat → Int32) : mIS (grU S v) = mIS S := rfl
theorem mZ_gr (S : St) (v : Nat → Int32) : mZS (grU S v) = mZS S := rfl
theorem mn_gr (S : St) (v : Nat → Int32) : mnS (grU S v) = mnS S := rfl
theorem ou_gr (S : St) (v : Nat → Int32) : ouS (grU S v) = ouS S := rfl
theorem od_gr (S : St) (v : Nat → Int32) : odS (grU S v) = odS S := rfl
theorem bx_mk (S : St) (v : Nat → Int32) : bxS (mkU S v) = bxS S := rfl
theorem gr_mk (S : St) (v : Nat → Int32) : grS (mkU S v) = grS S := rfl
theorem mk_mk (S : St) (v : Nat → Int32) : mkS (mkU S v) = v := rfl
theorem th_mk (S : St) (v : Nat → Int32) : thS (mkU S v) = thS S := rfl
theorem tc_mk (S : St) (v : Nat → Int32) : tcS (mkU S v) = tcS S := rfl
theorem ps_mk (S : St) (v : Nat → Int32) : psS (mkU S v) = psS S := rfl
theorem pw_mk (S : St) (v : Nat → Int32) : pwS (mkU S v) = pwS S := rfl
theorem fb_mk (S : St) (v : Nat → Int32) : fbS (mkU S v) = fbS S := rfl
theorem ff_mk (S : St) (v : Nat → Int32) : ffS (mkU S v) = ffS S := rfl
theorem nf_mk (S : St) (v : Nat → Int32) : nfS (mkU S v) = nfS S := rfl
theorem ip_mk (S : St) (v : Nat → Int32) : ipS (mkU S v) = ipS S := rfl
theorem mF_mk (S : St) (v : Nat → Int32) : mFS (mkU S v) = mFS S := rfl
theorem mI_mk (S : St) (v : Nat → Int32) : mIS (mkU S v) = mIS S := rfl
theorem mZ_mk (S : St) (v : Nat → Int32) : mZS (mkU S v) = mZS S := rfl
theorem mn_mk (S : St) (v : Nat → Int32) : mnS (mkU S v) = mnS S := rfl
theorem ou_mk (S : St) (v : Nat → Int32) : ouS (mkU S v) = ouS S := rfl
theorem od_mk (S : St) (v : Nat → Int32) : odS (mkU S v) = odS S := rfl
theorem bx_th (S : St) (v : Nat → Bool) : bxS (thU S v) = bxS S := rfl
theorem gr_th (S : St) (v : Nat → Bool) : grS (thU S v) = grS S := rfl
theorem mk_th (S : St) (v : Nat → Bool) : mkS (thU S v) = mkS S := rfl
theorem th_th (S : St) (v : Nat → Bool) : thS (thU S v) = v := rfl
theorem tc_th (S : St) (v : Nat → Bool) : tcS (thU S v) = tcS S := rfl
theorem ps_th (S : St) (v : Nat → Bool) : psS (thU S v) = psS S := rfl
theorem pw_th (S : St) (v : Nat → Bool) : pwS (thU S v) = pwS S := rfl
theorem fb_th (S : St) (v : Nat → Bool) : fbS (thU S v) = fbS S := rfl
theorem ff_th (S : St) (v : Nat → Bool) : ffS (thU S v) = ffS S := rfl
theorem nf_th (S : St) (v : Nat → Bool) : nfS (thU S v) = nfS S := rfl
theorem ip_th (S : St) (v : Nat → Bool) : ipS (thU S v) = ipS S := rfl
theorem mF_th (S : St) (v : Nat → Bool) : mFS (thU S v) = mFS S := rfl
theorem mI_th (S : St) (v : Nat → Bool) : mIS (thU S v) = mIS S := rfl
theorem mZ_th (S : St) (v : Nat → Bool) : mZS (thU S v) = mZS S := rfl
theorem mn_th (S : St) (v : Nat → Bool) : mnS (thU S v) = mnS S := rfl
theorem ou_th (S : St) (v : Nat → Bool) : ouS (thU S v) = ouS S := rfl
theorem od_th (S : St) (v : Nat → Bool) : odS (thU S v) = odS S := rfl
theorem bx_tc (S : St) (v : Nat → Bool) : bxS (tcU S v) = bxS S := rfl
theorem gr_tc (S : St) (v : Nat → Bool) : grS (tcU S v) = grS S := rfl
theorem mk_tc (S : St) (v : Nat → Bool) : mkS (tcU S v) = mkS S := rfl
theorem th_tc (S : St) (v : Nat → Bool) : thS (tcU S v) = thS S := rfl
theorem tc_tc (S : St) (v : Nat → Bool) : tcS (tcU S v) = v := rfl
theorem ps_tc (S : St) (v : Nat → Bool) : psS (tcU S v) = psS S := rfl
theorem pw_tc (S : St) (v : Nat → Bool) : pwS (tcU S v) = pwS S := rfl
theorem fb_tc (S : St) (v : Nat → Bool) : fbS (tcU S v) = fbS S := rfl
theorem ff_tc (S : St) (v : Nat → Bool) : ffS (tcU S v) = ffS S := rfl
theorem nf_tc (S : St) (v : Nat → Bool) : nfS (tcU S v) = nfS S := rfl
theorem ip_tc (S : St) (v : Nat → Bool) : ipS (tcU S v) = ipS S := rfl
theorem mF_tc (S : St) (v : Nat → Bool) : mFS (tcU S v) = mFS S := rfl
theorem mI_tc (S : St) (v : Nat → Bool) : mIS (tcU S v) = mIS S := rfl
theorem mZ_tc (S : St) (v : Nat → Bool) : mZS (tcU S v) = mZS S := rfl
theorem mn_tc (S : St) (v : Nat → Bool) : mnS (tcU S v) = mnS S := rfl
theorem ou_tc (S : St) (v : Nat → Bool) : ouS (tcU S v) = ouS S := rfl
theorem od_tc (S : St) (v : Nat → Bool) : odS (tcU S v) = odS S := rfl
theorem bx_ps (S : St) (v : Nat → Int32) : bxS (psU S v) = bxS S := rfl
theorem gr_ps (S : St) (v : Nat → Int32) : grS (psU S v) = grS S := rfl
theorem mk_ps (S : St) (v : Nat → Int32) : mkS (psU S v) = mkS S := rfl
theorem th_ps (S : St) (v : Nat → Int32) : thS (psU S v) = thS S := rfl
theorem tc_ps (S : St) (v : Nat → Int32) : tcS (psU S v) = tcS S := rfl
theorem ps_ps (S : St) (v : Nat → Int32) : psS (psU S v) = v := rfl
theorem pw_ps (S : St) (v : Nat → Int32) : pwS (psU S v) = pwS S := rfl
theorem fb_ps (S : St) (v : Nat → Int32) : fbS (psU S v) = fbS S := rfl
theorem ff_ps (S : St) (v : Nat → Int32) : ffS (psU S v) = ffS S := rfl
theorem nf_ps (S : St) (v : Nat → Int32) : nfS (psU S v) = nfS S := rfl
theorem ip_ps (S : St) (v : Nat → Int32) : ipS (psU S v) = ipS S := rfl
theorem mF_ps (S : St) (v : Nat → Int32) : mFS (psU S v) = mFS S := rfl
theorem mI_ps (S : St) (v : Nat → Int32) : mIS (psU S v) = mIS S := rfl
theorem mZ_ps (S : St) (v : Nat → Int32) : mZS (psU S v) = mZS S := rfl
theorem mn_ps (S : St) (v : Nat → Int32) : mnS (psU S v) = mnS S := rfl
theorem ou_ps (S : St) (v : Nat → Int32) : ouS (psU S v) = ouS S := rfl
theorem od_ps (S : St) (v : Nat → Int32) : odS (psU S v) = odS S := rfl
theorem bx_pw (S : St) (v : Nat → Nat → Int64) : bxS (pwU S v) = bxS S := rfl
theorem gr_pw (S : St) (v : Nat → Nat → Int64) : grS (pwU S v) = grS S := rfl
theorem mk_pw (S : St) (v : Nat → Nat → Int64) : mkS (pwU S v) = mkS S := rfl
theorem th_pw (S : St) (v : Nat → Nat → Int64) : thS (pwU S v) = thS S := rfl
theorem tc_pw (S : St) (v : Nat → Nat → Int64) : tcS (pwU S v) = tcS S := rfl
theorem ps_pw (S : St) (v : Nat → Nat → Int64) : psS (pwU S v) = psS S := rfl
theorem pw_pw (S : St) (v : Nat → Nat → Int64) : pwS (pwU S v) = v := rfl
theorem fb_pw (S : St) (v : Nat → Nat → Int64) : fbS (pwU S v) = fbS S := rfl
theorem ff_pw (S : St) (v : Nat → Nat → Int64) : ffS (pwU S v) = ffS S := rfl
theorem nf_pw (S : St) (v : Nat → Nat → Int64) : nfS (pwU S v) = nfS S := rfl
theorem ip_pw (S : St) (v : Nat → Nat → Int64) : ipS (pwU S v) = ipS S := rfl
theorem mF_pw (S : St) (v : Nat → Nat → Int64) : mFS (pwU S v) = mFS S := rfl
theorem mI_pw (S : St) (v : Nat → Nat → Int64) : mIS (pwU S v) = mIS S := rfl
theorem mZ_pw (S : St) (v : Nat → Nat → Int64) : mZS (pwU S v) = mZS S := rfl
theorem mn_pw (S : St) (v : Nat → Nat → Int64) : mnS (pwU S v) = mnS S := rfl
theorem ou_pw (S : St) (v : Nat → Nat → Int64) : ouS (pwU S v) = ouS S := rfl
theorem od_pw (S : St) (v : Nat → Nat → Int64) : odS (pwU S v) = odS S := rfl
theorem bx_fb (S : St) (v : Nat → Int32) : bxS (fbU S v) = bxS S := rfl
theorem gr_fb (S : St) (v : Nat → Int32) : grS (fbU S v) = grS S := rfl
theorem mk_fb (S : St) (v : Nat → Int32) : mkS (fbU S v) = mkS S := rfl
theorem th_fb (S : St) (v : Nat → Int32) : thS (fbU S v) = thS S := rfl
theorem tc_fb (S : St) (v : Nat → Int32) : tcS (fbU S v) = tcS S := rfl
theorem ps_fb (S : St) (v : Nat → Int32) : psS (fbU S v) = psS S := rfl
theorem pw_fb (S : St) (v : Nat → Int32) : pwS (fbU S v) = pwS S := rfl
theorem fb_fb (S : St) (v : Nat → Int32) : fbS (fbU S v) = v := rfl
theorem ff_fb (S : St) (v : Nat → Int32) : ffS (fbU S v) = ffS S := rfl
theorem nf_fb (S : St) (v : Nat → Int32) : nfS (fbU S v) = nfS S := rfl
theorem ip_fb (S : St) (v : Nat → Int32) : ipS (fbU S v) = ipS S := rfl
theorem mF_fb (S : St) (v : Nat → Int32) : mFS (fbU S v) = mFS S := rfl
theorem mI_fb (S : St) (v : Nat → Int32) : mIS (fbU S v) = mIS S := rfl
theorem mZ_fb (S : St) (v : Nat → Int32) : mZS (fbU S v) = mZS S := rfl
theorem mn_fb (S : St) (v : Nat → Int32) : mnS (fbU S v) = mnS S := rfl
theorem ou_fb (S : St) (v : Nat → Int32) : ouS (fbU S v) = ouS S := rfl
theorem od_fb (S : St) (v : Nat → Int32) : odS (fbU S v) = odS S := rfl
theorem bx_ff (S : St) (v : Nat → UInt32) : bxS (ffU S v) = bxS S := rfl
theorem gr_ff (S : St) (v : Nat → UInt32) : grS (ffU S v) = grS S := rfl
theorem mk_ff (S : St) (v : Nat → UInt32) : mkS (ffU S v) = mkS S := rfl
theorem th_ff (S : St) (v : Nat → UInt32) : thS (ffU S v) = thS S := rfl
theorem tc_ff (S : St) (v : Nat → UInt32) : tcS (ffU S v) = tcS S := rfl
theorem ps_ff (S : St) (v : Nat → UInt32) : psS (ffU S v) = psS S := rfl
theorem pw_ff (S : St) (v : Nat → UInt32) : pwS (ffU S v) = pwS S := rfl
theorem fb_ff (S : St) (v : Nat → UInt32) : fbS (ffU S v) = fbS S := rfl
theorem ff_ff (S : St) (v : Nat → UInt32) : ffS (ffU S v) = v := rfl
theorem nf_ff (S : St) (v : Nat → UInt32) : nfS (ffU S v) = nfS S := rfl
theorem ip_ff (S : St) (v : Nat → UInt32) : ipS (ffU S v) = ipS S := rfl
theorem mF_ff (S : St) (v : Nat → UInt32) : mFS (ffU S v) = mFS S := rfl
theorem mI_ff (S : St) (v : Nat → UInt32) : mIS (ffU S v) = mIS S := rfl
theorem mZ_ff (S : St) (v : Nat → UInt32) : mZS (ffU S v) = mZS S := rfl
theorem mn_ff (S : St) (v : Nat → UInt32) : mnS (ffU S v) = mnS S := rfl
theorem ou_ff (S : St) (v : Nat → UInt32) : ouS (ffU S v) = ouS S := rfl
theorem od_ff (S : St) (v : Nat → UInt32) : odS (ffU S v) = odS S := rfl
theorem bx_nf (S : St) (v : Nat → Int32) : bxS (nfU S v) = bxS S := rfl
theorem gr_nf (S : St) (v : Nat → Int32) : grS (nfU S v) = grS S := rfl
theorem mk_nf (S : St) (v : Nat → Int32) : mkS (nfU S v) = mkS S := rfl
theorem th_nf (S : St) (v : Nat → Int32) : thS (nfU S v) = thS S := rfl
theorem tc_nf (S : St) (v : Nat → Int32) : tcS (nfU S v) = tcS S := rfl
theorem ps_nf (S : St) (v : Nat → Int32) : psS (nfU S v) = psS S := rfl
theorem pw_nf (S : St) (v : Nat → Int32) : pwS (nfU S v) = pwS S := rfl
theorem fb_nf (S : St) (v : Nat → Int32) : fbS (nfU S v) = fbS S := rfl
theorem ff_nf (S : St) (v : Nat → Int32) : ffS (nfU S v) = ffS S := rfl
theorem nf_nf (S : St) (v : Nat → Int32) : nfS (nfU S v) = v := rfl
theorem ip_nf (S : St) (v : Nat → Int32) : ipS (nfU S v) = ipS S := rfl
theorem mF_nf (S : St) (v : Nat → Int32) : mFS (nfU S v) = mFS S := rfl
theorem mI_nf (S : St) (v : Nat → Int32) : mIS (nfU S v) = mIS S := rfl
theorem mZ_nf (S : St) (v : Nat → Int32) : mZS (nfU S v) = mZS S := rfl
theorem mn_nf (S : St) (v : Nat → Int32) : mnS (nfU S v) = mnS S := rfl
theorem ou_nf (S : St) (v : Nat → Int32) : ouS (nfU S v) = ouS S := rfl
theorem od_nf (S : St) (v : Nat → Int32) : odS (nfU S v) = odS S := rfl
theorem bx_ip (S : St) (v : Nat × Nat) : bxS (ipU S v) = bxS S := rfl
theorem gr_ip (S : St) (v : Nat × Nat) : grS (ipU S v) = grS S := rfl
theorem mk_ip (S : St) (v : Nat × Nat) : mkS (ipU S v) = mkS S := rfl
theorem th_ip (S : St) (v : Nat × Nat) : thS (ipU S v) = thS S := rfl
theorem tc_ip (S : St) (v : Nat × Nat) : tcS (ipU S v) = tcS S := rfl
theorem ps_ip (S : St) (v : Nat × Nat) : psS (ipU S v) = psS S := rfl
theorem pw_ip (S : St) (v : Nat × Nat) : pwS (ipU S v) = pwS S := rfl
theorem fb_ip (S : St) (v : Nat × Nat) : fbS (ipU S v) = fbS S := rfl
theorem ff_ip (S : St) (v : Nat × Nat) : ffS (ipU S v) = ffS S := rfl
theorem nf_ip (S : St) (v : Nat × Nat) : nfS (ipU S v) = nfS S := rfl
theorem ip_ip (S : St) (v : Nat × Nat) : ipS (ipU S v) = v := rfl
theorem mF_ip (S : St) (v : Nat × Nat) : mFS (ipU S v) = mFS S := rfl
theorem mI_ip (S : St) (v : Nat × Nat) : mIS (ipU S v) = mIS S := rfl
theorem mZ_ip (S : St) (v : Nat × Nat) : mZS (ipU S v) = mZS S := rfl
theorem mn_ip (S : St) (v : Nat × Nat) : mnS (ipU S v) = mnS S := rfl
theorem ou_ip (S : St) (v : Nat × Nat) : ouS (ipU S v) = ouS S := rfl
theorem od_ip (S : St) (v : Nat × Nat) : odS (ipU S v) = odS S := rfl
theorem bx_mF (S : St) (v : Nat → Nat → UInt32) : bxS (mFU S v) = bxS S := rfl
theorem gr_mF (S : St) (v : Nat → Nat → UInt32) : grS (mFU S v) = grS S := rfl
theorem mk_mF (S : St) (v : Nat → Nat → UInt32) : mkS (mFU S v) = mkS S := rfl
theorem th_mF (S : St) (v : Nat → Nat → UInt32) : thS (mFU S v) = thS S := rfl
theorem tc_mF (S : St) (v : Nat → Nat → UInt32) : tcS (mFU S v) = tcS S := rfl
theorem ps_mF (S : St) (v : Nat → Nat → UInt32) : psS (mFU S v) = psS S := rfl
theorem pw_mF (S : St) (v : Nat → Nat → UInt32) : pwS (mFU S v) = pwS S := rfl
theorem fb_mF (S : St) (v : Nat → Nat → UInt32) : fbS (mFU S v) = fbS S := rfl
theorem ff_mF (S : St) (v : Nat → Nat → UInt32) : ffS (mFU S v) = ffS S := rfl
theorem nf_mF (S : St) (v : Nat → Nat → UInt32) : nfS (mFU S v) = nfS S := rfl
theorem ip_mF (S : St) (v : Nat → Nat → UInt32) : ipS (mFU S v) = ipS S := rfl
theorem mF_mF (S : St) (v : Nat → Nat → UInt32) : mFS (mFU S v) = v := rfl
theorem mI_mF (S : St) (v : Nat → Nat → UInt32) : mIS (mFU S v) = mIS S := rfl
theorem mZ_mF (S : St) (v : Nat → Nat → UInt32) : mZS (mFU S v) = mZS S := rfl
theorem mn_mF (S : St) (v : Nat → Nat → UInt32) : mnS (mFU S v) = mnS S := rfl
theorem ou_mF (S : St) (v : Nat → Nat → UInt32) : ouS (mFU S v) = ouS S := rfl
theorem od_mF (S : St) (v : Nat → Nat → UInt32) : odS (mFU S v) = odS S := rfl
theorem bx_mI (S : St) (v : Nat → Nat → Int32) : bxS (mIU S v) = bxS S := rfl
theorem gr_mI (S : St) (v : Nat → Nat → Int32) : grS (mIU S v) = grS S := rfl
theorem mk_mI (S : St) (v : Nat → Nat → Int32) : mkS (mIU S v) = mkS S := rfl
theorem th_mI (S : St) (v : Nat → Nat → Int32) : thS (mIU S v) = thS S := rfl
theorem tc_mI (S : St) (v : Nat → Nat → Int32) : tcS (mIU S v) = tcS S := rfl
theorem ps_mI (S : St) (v : Nat → Nat → Int32) : psS (mIU S v) = psS S := rfl
theorem pw_mI (S : St) (v : Nat → Nat → Int32) : pwS (mIU S v) = pwS S := rfl
theorem fb_mI (S : St) (v : Nat → Nat → Int32) : fbS (mIU S v) = fbS S := rfl
theorem ff_mI (S : St) (v : Nat → Nat → Int32) : ffS (mIU S v) = ffS S := rfl
theorem nf_mI (S : St) (v : Nat → Nat → Int32) : nfS (mIU S v) = nfS S := rfl
theorem ip_mI (S : St) (v : Nat → Nat → Int32) : ipS (mIU S v) = ipS S := rfl
theorem mF_mI (S : St) (v : Nat → Nat → Int32) : mFS (mIU S v) = mFS S := rfl
theorem mI_mI (S : St) (v : Nat → Nat → Int32) : mIS (mIU S v) = v := rfl
theorem mZ_mI (S : St) (v : Nat → Nat → Int32) : mZS (mIU S v) = mZS S := rfl
theorem mn_mI (S : St) (v : Nat → Nat → Int32) : mnS (mIU S v) = mnS S := rfl
theorem ou_mI (S : St) (v : Nat → Nat → Int32) : ouS (mIU S v) = ouS S := rfl
theorem od_mI (S : St) (v : Nat → Nat → Int32) : odS (mIU S v) = odS S := rfl
theorem bx_mZ (S : St) (v : Nat → Nat → Bool) : bxS (mZU S v) = bxS S := rfl
theorem gr_mZ (S : St) (v : Nat → Nat → Bool) : grS (mZU S v) = grS S := rfl
theorem mk_mZ (S : St) (v : Nat → Nat → Bool) : mkS (mZU S v) = mkS S := rfl
theorem th_mZ (S : St) (v : Nat → Nat → Bool) : thS (mZU S v) = thS S := rfl
theorem tc_mZ (S : St) (v : Nat → Nat → Bool) : tcS (mZU S v) = tcS S := rfl
theorem ps_mZ (S : St) (v : Nat → Nat → Bool) : psS (mZU S v) = psS S := rfl
theorem pw_mZ (S : St) (v : Nat → Nat → Bool) : pwS (mZU S v) = pwS S := rfl
theorem fb_mZ (S : St) (v : Nat → Nat → Bool) : fbS (mZU S v) = fbS S := rfl
theorem ff_mZ (S : St) (v : Nat → Nat → Bool) : ffS (mZU S v) = ffS S := rfl
theorem nf_mZ (S : St) (v : Nat → Nat → Bool) : nfS (mZU S v) = nfS S := rfl
theorem ip_mZ (S : St) (v : Nat → Nat → Bool) : ipS (mZU S v) = ipS S := rfl
theorem mF_mZ (S : St) (v : Nat → Nat → Bool) : mFS (mZU S v) = mFS S := rfl
theorem mI_mZ (S : St) (v : Nat → Nat → Bool) : mIS (mZU S v) = mIS S := rfl
theorem mZ_mZ (S : St) (v : Nat → Nat → Bool) : mZS (mZU S v) = v := rfl
theorem mn_mZ (S : St) (v : Nat → Nat → Bool) : mnS (mZU S v) = mnS S := rfl
theorem ou_mZ (S : St) (v : Nat → Nat → Bool) : ouS (mZU S v) = ouS S := rfl
theorem od_mZ (S : St) (v : Nat → Nat → Bool) : odS (mZU S v) = odS S := rfl
theorem bx_mn (S : St) (v : Nat → Int32) : bxS (mnU S v) = bxS S := rfl
theorem gr_mn (S : St) (v : Nat → Int32) : grS (mnU S v) = grS S := rfl
theorem mk_mn (S : St) (v : Nat → Int32) : mkS (mnU S v) = mkS S := rfl
theorem th_mn (S : St) (v : Nat → Int32) : thS (mnU S v) = thS S := rfl
theorem tc_mn (S : St) (v : Nat → Int32) : tcS (mnU S v) = tcS S := rfl
theorem ps_mn (S : St) (v : Nat → Int32) : psS (mnU S v) = psS S := rfl
theorem pw_mn (S : St) (v : Nat → Int32) : pwS (mnU S v) = pwS S := rfl
theorem fb_mn (S : St) (v : Nat → Int32) : fbS (mnU S v) = fbS S := rfl
theorem ff_mn (S : St) (v : Nat → Int32) : ffS (mnU S v) = ffS S := rfl
theorem nf_mn (S : St) (v : Nat → Int32) : nfS (mnU S v) = nfS S := rfl
theorem ip_mn (S : St) (v : Nat → Int32) : ipS (mnU S v) = ipS S := rfl
theorem mF_mn (S : St) (v : Nat → Int32) : mFS (mnU S v) = mFS S := rfl
theorem mI_mn (S : St) (v : Nat → Int32) : mIS (mnU S v) = mIS S := rfl
theorem mZ_mn (S : St) (v : Nat → Int32) : mZS (mnU S v) = mZS S := rfl
theorem mn_mn (S : St) (v : Nat → Int32) : mnS (mnU S v) = v := rfl
theorem ou_mn (S : St) (v : Nat → Int32) : ouS (mnU S v) = ouS S := rfl
theorem od_mn (S : St) (v : Nat → Int32) : odS (mnU S v) = odS S := rfl
theorem bx_ou (S : St) (v : Nat → Int64) : bxS (ouU S v) = bxS S := rfl
theorem gr_ou (S : St) (v : Nat → Int64) : grS (ouU S v) = grS S := rfl
theorem mk_ou (S : St) (v : Nat → Int64) : mkS (ouU S v) = mkS S := rfl
theorem th_ou (S : St) (v : Nat → Int64) : thS (ouU S v) = thS S := rfl
theorem tc_ou (S : St) (v : Nat → Int64) : tcS (ouU S v) = tcS S := rfl
theorem ps_ou (S : St) (v : Nat → Int64) : psS (ouU S v) = psS S := rfl
theorem pw_ou (S : St) (v : Nat → Int64) : pwS (ouU S v) = pwS S := rfl
theorem fb_ou (S : St) (v : Nat → Int64) : fbS (ouU S v) = fbS S := rfl
theorem ff_ou (S : St) (v : Nat → Int64) : ffS (ouU S v) = ffS S := rfl
theorem nf_ou (S : St) (v : Nat → Int64) : nfS (ouU S v) = nfS S := rfl
theorem ip_ou (S : St) (v : Nat → Int64) : ipS (ouU S v) = ipS S := rfl
theorem mF_ou (S : St) (v : Nat → Int64) : mFS (ouU S v) = mFS S := rfl
theorem mI_ou (S : St) (v : Nat → Int64) : mIS (ouU S v) = mIS S := rfl
theorem mZ_ou (S : St) (v : Nat → Int64) : mZS (ouU S v) = mZS S := rfl
theorem mn_ou (S : St) (v : Nat → Int64) : mnS (ouU S v) = mnS S := rfl
theorem ou_ou (S : St) (v : Nat → Int64) : ouS (ouU S v) = v := rfl
theorem od_ou (S : St) (v : Nat → Int64) : odS (ouU S v) = odS S := rfl
theorem bx_od (S : St) (v : Nat → UInt64) : bxS (odU S v) = bxS S := rfl
theorem gr_od (S : St) (v : Nat → UInt64) : grS (odU S v) = grS S := rfl
theorem mk_od (S : St) (v : Nat → UInt64) : mkS (odU S v) = mkS S := rfl
theorem th_od (S : St) (v : Nat → UInt64) : thS (odU S v) = thS S := rfl
theorem tc_od (S : St) (v : Nat → UInt64) : tcS (odU S v) = tcS S := rfl
theorem ps_od (S : St) (v : Nat → UInt64) : psS (odU S v) = psS S := rfl
theorem pw_od (S : St) (v : Nat → UInt64) : pwS (odU S v) = pwS S := rfl
theorem fb_od (S : St) (v : Nat → UInt64) : fbS (odU S v) = fbS S := rfl
theorem ff_od (S : St) (v : Nat → UInt64) : ffS (odU S v) = ffS S := rfl
theorem nf_od (S : St) (v : Nat → UInt64) : nfS (odU S v) = nfS S := rfl
theorem ip_od (S : St) (v : Nat → UInt64) : ipS (odU S v) = ipS S := rfl
theorem mF_od (S : St) (v : Nat → UInt64) : mFS (odU S v) = mFS S := rfl
theorem mI_od (S : St) (v : Nat → UInt64) : mIS (odU S v) = mIS S := rfl
theorem mZ_od (S : St) (v : Nat → UInt64) : mZS (odU S v) = mZS S := rfl
theorem mn_od (S : St) (v : Nat → UInt64) : mnS (odU S v) = mnS S := rfl
theorem ou_od (S : St) (v : Nat → UInt64) : ouS (odU S v) = ouS S := rfl
theorem od_od (S : St) (v : Nat → UInt64) : odS (odU S v) = v := rfl
def lnF : Nat → Nat
  | 0 => 6
  | 1 => 3072
  | 2 => 3072
  | 3 => 512
  | _ => 6
def lnI : Nat → Nat
  | 0 => 512
  | 1 => 512
  | 2 => 8192
  | 3 => 8192
  | 4 => 8192
  | 5 => 8192
  | _ => 512
/-- how many there are of a kind -/
def cnt : Nat → Nat
  | 0 => 1
  | 1 => 1026
  | 2 => 1026
  | 3 => 1
  | 4 => 512
  | 5 => 4
  | 6 => 4
  | 7 => 1
  | 8 => 1
  | 9 => 1
  | 10 => 5
  | 11 => 7
  | 12 => 2
  | 13 => 1
  | 14 => 1
  | _ => 0
/-- kinds: 0 PairFinder; 1 Box (0 pad, 1 work, 2k+2 tight of k, 2k+3 wide of k); 2 its numbers; 3 bodies; 4 Body; 5 PairSet; 6 its words; 7 foundBodies; 8 foundFloats; 9 the model; 10 its float rows; 11 its int rows; 12 its boolean rows; 13 out; 14 outD -/
def memK (G : Gm) (S : St) (i j : Nat) : va_E := match i with
  | 0 => .inr (3, [.ref (g_ad G 1 0), .ref (g_ad G 3 0), .int (nfS S 0), .ref (g_ad G 5 (ipS S).1), .ref (g_ad G 5 (ipS S).2), .ref (g_ad G 5 2), .ref (g_ad G 5 3), .int (nfS S 1), .ref (g_ad G 7 0), .ref (g_ad G 8 0), .int (nfS S 2), .ref (g_ad G 1 1)])
  | 1 => .inr (1, [.ref (g_ad G 2 j)])
  | 2 => .inl (g_cy G 0, 6, .inr (.inr (.inl (bxS S j))))
  | 3 => .inl (g_cy G 5, 512, .inr (.inr (.inr (.inr (fun k => some (g_ad G 4 k))))))
  | 4 => .inr (0, [.ref (g_ad G 1 (2 * j + 2)), .ref (g_ad G 1 (2 * j + 3)), .int (grS S j), .int (mkS S j), .int (bI (thS S j)), .int (bI (tcS S j))])
  | 5 => .inr (2, [.ref (g_ad G 6 j), .int (psS S j)])
  | 6 => .inl (g_cy G 2, 4096, .inr (.inl (pwS S j)))
  | 7 => .inl (g_cy G 1, 512, .inl (fbS S))
  | 8 => .inl (g_cy G 0, 512, .inr (.inr (.inl (ffS S))))
  | 9 => .inr (4, [.int (mnS S 0), .ref (g_ad G 10 0), .ref (g_ad G 12 0), .ref (g_ad G 12 1), .ref (g_ad G 11 0), .ref (g_ad G 11 1), .ref (g_ad G 10 1), .ref (g_ad G 10 2), .ref (g_ad G 11 2), .ref (g_ad G 11 3), .ref (g_ad G 11 4), .ref (g_ad G 11 5), .int (mnS S 1), .int (mnS S 2), .ref (g_ad G 11 6), .ref (g_ad G 10 3), .ref (g_ad G 10 4)])
  | 10 => .inl (g_cy G 0, lnF j, .inr (.inr (.inl (mFS S j))))
  | 11 => .inl (g_cy G 1, lnI j, .inl (mIS S j))
  | 12 => .inl (g_cy G 3, 512, .inl (fun k => bI (mZS S j k)))
  | 13 => .inl (g_cy G 2, 1, .inr (.inl (ouS S)))
  | _ => .inl (g_cy G 4, 1, .inr (.inr (.inr (.inl (odS S)))))
def mem (G : Gm) (S : St) (a : Nat) : va_E := memK G S (g_K G a).1 (g_K G a).2
def lay (G : Gm) : Prop := (∀ i j, j < cnt i → g_K G (g_ad G i j) = (i, j) ∧ g_ad G i j ∈ g_L G) ∧ ∀ a ∈ g_L G, (g_K G a).2 < cnt (g_K G a).1 ∧ g_ad G (g_K G a).1 (g_K G a).2 = a
/-- the cell i, j becomes e, the others stay -/
def mup (G : Gm) (S S' : St) (i j : Nat) (e : va_E) : Prop := memK G S' i j = e ∧ ∀ i' j', j' < cnt i' → ¬ (i' = i ∧ j' = j) → memK G S' i' j' = memK G S i' j'
theorem mem_at {G : Gm} (hL : lay G) (S : St) {i j : Nat} (hj : j < cnt i) : mem G S (g_ad G i j) = memK G S i j := by
  unfold mem
  rw [(hL.1 i j hj).1]
theorem mem_up {G : Gm} (hL : lay G) {S S' : St} {i j : Nat} {e : va_E} (hj : j < cnt i) (h : mup G S S' i j e) : va_pl (g_L G) (va_up (mem G S) (g_ad G i j) e) = va_pl (g_L G) (mem G S') := by
  unfold va_pl
  apply List.map_congr_left
  intro a ha
  by_cases q : a = g_ad G i j
  · subst q
    rw [va_up_self, mem_at hL S' hj, h.1]
  · rw [va_up_ne _ _ q]
    congr 1
    unfold mem
    refine (h.2 _ _ (hL.2 a ha).1 (fun z => q ?_)).symm
    have := (hL.2 a ha).2
    rw [z.1, z.2] at this
    exact this.symm
