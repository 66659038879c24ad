abbrev XS : Type := (Nat → Int32) × (Nat → Int32) × (Nat → Int32) × (Nat → Int32) × Int32 × Int32 × Int32 × Int32 × Int32 × Int32 × (Nat → Int32) × Int32
def xA (u : XS) : Nat → Int32 := u.1
def xF (u : XS) : Nat → Int32 := u.2.1
def xM (u : XS) : Nat → Int32 := u.2.2.1
def xS (u : XS) : Nat → Int32 := u.2.2.2.1
def xl (u : XS) : Int32 := u.2.2.2.2.1
def xn (u : XS) : Int32 := u.2.2.2.2.2.1
def xa (u : XS) : Int32 := u.2.2.2.2.2.2.1
def xg (u : XS) : Int32 := u.2.2.2.2.2.2.2.1
def xe (u : XS) : Int32 := u.2.2.2.2.2.2.2.2.1
def xw (u : XS) : Int32 := u.2.2.2.2.2.2.2.2.2.1
def xC (u : XS) : Nat → Int32 := u.2.2.2.2.2.2.2.2.2.2.1
def xc (u : XS) : Int32 := u.2.2.2.2.2.2.2.2.2.2.2
def xA_ (u : XS) (v : Nat → Int32) : XS := (v, xF u, xM u, xS u, xl u, xn u, xa u, xg u, xe u, xw u, xC u, xc u)
def xF_ (u : XS) (v : Nat → Int32) : XS := (xA u, v, xM u, xS u, xl u, xn u, xa u, xg u, xe u, xw u, xC u, xc u)
def xM_ (u : XS) (v : Nat → Int32) : XS := (xA u, xF u, v, xS u, xl u, xn u, xa u, xg u, xe u, xw u, xC u, xc u)
def xS_ (u : XS) (v : Nat → Int32) : XS := (xA u, xF u, xM u, v, xl u, xn u, xa u, xg u, xe u, xw u, xC u, xc u)
def xl_ (u : XS) (v : Int32) : XS := (xA u, xF u, xM u, xS u, v, xn u, xa u, xg u, xe u, xw u, xC u, xc u)
def xn_ (u : XS) (v : Int32) : XS := (xA u, xF u, xM u, xS u, xl u, v, xa u, xg u, xe u, xw u, xC u, xc u)
def xa_ (u : XS) (v : Int32) : XS := (xA u, xF u, xM u, xS u, xl u, xn u, v, xg u, xe u, xw u, xC u, xc u)
def xg_ (u : XS) (v : Int32) : XS := (xA u, xF u, xM u, xS u, xl u, xn u, xa u, v, xe u, xw u, xC u, xc u)
def xe_ (u : XS) (v : Int32) : XS := (xA u, xF u, xM u, xS u, xl u, xn u, xa u, xg u, v, xw u, xC u, xc u)
def xw_ (u : XS) (v : Int32) : XS := (xA u, xF u, xM u, xS u, xl u, xn u, xa u, xg u, xe u, v, xC u, xc u)
def xC_ (u : XS) (v : Nat → Int32) : XS := (xA u, xF u, xM u, xS u, xl u, xn u, xa u, xg u, xe u, xw u, v, xc u)
def xc_ (u : XS) (v : Int32) : XS := (xA u, xF u, xM u, xS u, xl u, xn u, xa u, xg u, xe u, xw u, xC u, v)
theorem xA_xA_ (u : XS) (v : Nat → Int32) : xA (xA_ u v) = v := rfl
theorem xF_xA_ (u : XS) (v : Nat → Int32) : xF (xA_ u v) = xF u := rfl
theorem xM_xA_ (u : XS) (v : Nat → Int32) : xM (xA_ u v) = xM u := rfl
theorem xS_xA_ (u : XS) (v : Nat → Int32) : xS (xA_ u v) = xS u := rfl
theorem xl_xA_ (u : XS) (v : Nat → Int32) : xl (xA_ u v) = xl u := rfl
theorem xn_xA_ (u : XS) (v : Nat → Int32) : xn (xA_ u v) = xn u := rfl
theorem xa_xA_ (u : XS) (v : Nat → Int32) : xa (xA_ u v) = xa u := rfl
theorem xg_xA_ (u : XS) (v : Nat → Int32) : xg (xA_ u v) = xg u := rfl
theorem xe_xA_ (u : XS) (v : Nat → Int32) : xe (xA_ u v) = xe u := rfl
theorem xw_xA_ (u : XS) (v : Nat → Int32) : xw (xA_ u v) = xw u := rfl
theorem xC_xA_ (u : XS) (v : Nat → Int32) : xC (xA_ u v) = xC u := rfl
theorem xc_xA_ (u : XS) (v : Nat → Int32) : xc (xA_ u v) = xc u := rfl
theorem xA_xF_ (u : XS) (v : Nat → Int32) : xA (xF_ u v) = xA u := rfl
theorem xF_xF_ (u : XS) (v : Nat → Int32) : xF (xF_ u v) = v := rfl
theorem xM_xF_ (u : XS) (v : Nat → Int32) : xM (xF_ u v) = xM u := rfl
theorem xS_xF_ (u : XS) (v : Nat → Int32) : xS (xF_ u v) = xS u := rfl
theorem xl_xF_ (u : XS) (v : Nat → Int32) : xl (xF_ u v) = xl u := rfl
theorem xn_xF_ (u : XS) (v : Nat → Int32) : xn (xF_ u v) = xn u := rfl
theorem xa_xF_ (u : XS) (v : Nat → Int32) : xa (xF_ u v) = xa u := rfl
theorem xg_xF_ (u : XS) (v : Nat → Int32) : xg (xF_ u v) = xg u := rfl
theorem xe_xF_ (u : XS) (v : Nat → Int32) : xe (xF_ u v) = xe u := rfl
theorem xw_xF_ (u : XS) (v : Nat → Int32) : xw (xF_ u v) = xw u := rfl
theorem xC_xF_ (u : XS) (v : Nat → Int32) : xC (xF_ u v) = xC u := rfl
theorem xc_xF_ (u : XS) (v : Nat → Int32) : xc (xF_ u v) = xc u := rfl
theorem xA_xM_ (u : XS) (v : Nat → Int32) : xA (xM_ u v) = xA u := rfl
theorem xF_xM_ (u : XS) (v : Nat → Int32) : xF (xM_ u v) = xF u := rfl
theorem xM_xM_ (u : XS) (v : Nat → Int32) : xM (xM_ u v) = v := rfl
theorem xS_xM_ (u : XS) (v : Nat → Int32) : xS (xM_ u v) = xS u := rfl
theorem xl_xM_ (u : XS) (v : Nat → Int32) : xl (xM_ u v) = xl u := rfl
theorem xn_xM_ (u : XS) (v : Nat → Int32) : xn (xM_ u v) = xn u := rfl
theorem xa_xM_ (u : XS) (v : Nat → Int32) : xa (xM_ u v) = xa u := rfl
theorem xg_xM_ (u : XS) (v : Nat → Int32) : xg (xM_ u v) = xg u := rfl
theorem xe_xM_ (u : XS) (v : Nat → Int32) : xe (xM_ u v) = xe u := rfl
theorem xw_xM_ (u : XS) (v : Nat → Int32) : xw (xM_ u v) = xw u := rfl
theorem xC_xM_ (u : XS) (v : Nat → Int32) : xC (xM_ u v) = xC u := rfl
theorem xc_xM_ (u : XS) (v : Nat → Int32) : xc (xM_ u v) = xc u := rfl
theorem xA_xS_ (u : XS) (v : Nat → Int32) : xA (xS_ u v) = xA u := rfl
theorem xF_xS_ (u : XS) (v : Nat → Int32) : xF (xS_ u v) = xF u := rfl
theorem xM_xS_ (u : XS) (v : Nat → Int32) : xM (xS_ u v) = xM u := rfl
theorem xS_xS_ (u : XS) (v : Nat → Int32) : xS (xS_ u v) = v := rfl
theorem xl_xS_ (u : XS) (v : Nat → Int32) : xl (xS_ u v) = xl u := rfl
theorem xn_xS_ (u : XS) (v : Nat → Int32) : xn (xS_ u v) = xn u := rfl
theorem xa_xS_ (u : XS) (v : Nat → Int32) : xa (xS_ u v) = xa u := rfl
theorem xg_xS_ (u : XS) (v : Nat → Int32) : xg (xS_ u v) = xg u := rfl
theorem xe_xS_ (u : XS) (v : Nat → Int32) : xe (xS_ u v) = xe u := rfl
theorem xw_xS_ (u : XS) (v : Nat → Int32) : xw (xS_ u v) = xw u := rfl
theorem xC_xS_ (u : XS) (v : Nat → Int32) : xC (xS_ u v) = xC u := rfl
theorem xc_xS_ (u : XS) (v : Nat → Int32) : xc (xS_ u v) = xc u := rfl
theorem xA_xl_ (u : XS) (v : Int32) : xA (xl_ u v) = xA u := rfl
theorem xF_xl_ (u : XS) (v : Int32) : xF (xl_ u v) = xF u := rfl
theorem xM_xl_ (u : XS) (v : Int32) : xM (xl_ u v) = xM u := rfl
theorem xS_xl_ (u : XS) (v : Int32) : xS (xl_ u v) = xS u := rfl
theorem xl_xl_ (u : XS) (v : Int32) : xl (xl_ u v) = v := rfl
theorem xn_xl_ (u : XS) (v : Int32) : xn (xl_ u v) = xn u := rfl
theorem xa_xl_ (u : XS) (v : Int32) : xa (xl_ u v) = xa u := rfl
theorem xg_xl_ (u : XS) (v : Int32) : xg (xl_ u v) = xg u := rfl
theorem xe_xl_ (u : XS) (v : Int32) : xe (xl_ u v) = xe u := rfl
theorem xw_xl_ (u : XS) (v : Int32) : xw (xl_ u v) = xw u := rfl
theorem xC_xl_ (u : XS) (v : Int32) : xC (xl_ u v) = xC u := rfl
theorem xc_xl_ (u : XS) (v : Int32) : xc (xl_ u v) = xc u := rfl
theorem xA_xn_ (u : XS) (v : Int32) : xA (xn_ u v) = xA u := rfl
theorem xF_xn_ (u : XS) (v : Int32) : xF (xn_ u v) = xF u := rfl
theorem xM_xn_ (u : XS) (v : Int32) : xM (xn_ u v) = xM u := rfl
theorem xS_xn_ (u : XS) (v : Int32) : xS (xn_ u v) = xS u := rfl
theorem xl_xn_ (u : XS) (v : Int32) : xl (xn_ u v) = xl u := rfl
theorem xn_xn_ (u : XS) (v : Int32) : xn (xn_ u v) = v := rfl
theorem xa_xn_ (u : XS) (v : Int32) : xa (xn_ u v) = xa u := rfl
theorem xg_xn_ (u : XS) (v : Int32) : xg (xn_ u v) = xg u := rfl
theorem xe_xn_ (u : XS) (v : Int32) : xe (xn_ u v) = xe u := rfl
theorem xw_xn_ (u : XS) (v : Int32) : xw (xn_ u v) = xw u := rfl
theorem xC_xn_ (u : XS) (v : Int32) : xC (xn_ u v) = xC u := rfl
theorem xc_xn_ (u : XS) (v : Int32) : xc (xn_ u v) = xc u := rfl
theorem xA_xa_ (u : XS) (v : Int32) : xA (xa_ u v) = xA u := rfl
theorem xF_xa_ (u : XS) (v : Int32) : xF (xa_ u v) = xF u := rfl
theorem xM_xa_ (u : XS) (v : Int32) : xM (xa_ u v) = xM u := rfl
theorem xS_xa_ (u : XS) (v : Int32) : xS (xa_ u v) = xS u := rfl
theorem xl_xa_ (u : XS) (v : Int32) : xl (xa_ u v) = xl u := rfl
theorem xn_xa_ (u : XS) (v : Int32) : xn (xa_ u v) = xn u := rfl
theorem xa_xa_ (u : XS) (v : Int32) : xa (xa_ u v) = v := rfl
theorem xg_xa_ (u : XS) (v : Int32) : xg (xa_ u v) = xg u := rfl
theorem xe_xa_ (u : XS) (v : Int32) : xe (xa_ u v) = xe u := rfl
theorem xw_xa_ (u : XS) (v : Int32) : xw (xa_ u v) = xw u := rfl
theorem xC_xa_ (u : XS) (v : Int32) : xC (xa_ u v) = xC u := rfl
theorem xc_xa_ (u : XS) (v : Int32) : xc (xa_ u v) = xc u := rfl
theorem xA_xg_ (u : XS) (v : Int32) : xA (xg_ u v) = xA u := rfl
theorem xF_xg_ (u : XS) (v : Int32) : xF (xg_ u v) = xF u := rfl
theorem xM_xg_ (u : XS) (v : Int32) : xM (xg_ u v) = xM u := rfl
theorem xS_xg_ (u : XS) (v : Int32) : xS (xg_ u v) = xS u := rfl
theorem xl_xg_ (u : XS) (v : Int32) : xl (xg_ u v) = xl u := rfl
theorem xn_xg_ (u : XS) (v : Int32) : xn (xg_ u v) = xn u := rfl
theorem xa_xg_ (u : XS) (v : Int32) : xa (xg_ u v) = xa u := rfl
theorem xg_xg_ (u : XS) (v : Int32) : xg (xg_ u v) = v := rfl
theorem xe_xg_ (u : XS) (v : Int32) : xe (xg_ u v) = xe u := rfl
theorem xw_xg_ (u : XS) (v : Int32) : xw (xg_ u v) = xw u := rfl
theorem xC_xg_ (u : XS) (v : Int32) : xC (xg_ u v) = xC u := rfl
theorem xc_xg_ (u : XS) (v : Int32) : xc (xg_ u v) = xc u := rfl
theorem xA_xe_ (u : XS) (v : Int32) : xA (xe_ u v) = xA u := rfl
theorem xF_xe_ (u : XS) (v : Int32) : xF (xe_ u v) = xF u := rfl
theorem xM_xe_ (u : XS) (v : Int32) : xM (xe_ u v) = xM u := rfl
theorem xS_xe_ (u : XS) (v : Int32) : xS (xe_ u v) = xS u := rfl
theorem xl_xe_ (u : XS) (v : Int32) : xl (xe_ u v) = xl u := rfl
theorem xn_xe_ (u : XS) (v : Int32) : xn (xe_ u v) = xn u := rfl
theorem xa_xe_ (u : XS) (v : Int32) : xa (xe_ u v) = xa u := rfl
theorem xg_xe_ (u : XS) (v : Int32) : xg (xe_ u v) = xg u := rfl
theorem xe_xe_ (u : XS) (v : Int32) : xe (xe_ u v) = v := rfl
theorem xw_xe_ (u : XS) (v : Int32) : xw (xe_ u v) = xw u := rfl
theorem xC_xe_ (u : XS) (v : Int32) : xC (xe_ u v) = xC u := rfl
theorem xc_xe_ (u : XS) (v : Int32) : xc (xe_ u v) = xc u := rfl
theorem xA_xw_ (u : XS) (v : Int32) : xA (xw_ u v) = xA u := rfl
theorem xF_xw_ (u : XS) (v : Int32) : xF (xw_ u v) = xF u := rfl
theorem xM_xw_ (u : XS) (v : Int32) : xM (xw_ u v) = xM u := rfl
theorem xS_xw_ (u : XS) (v : Int32) : xS (xw_ u v) = xS u := rfl
theorem xl_xw_ (u : XS) (v : Int32) : xl (xw_ u v) = xl u := rfl
theorem xn_xw_ (u : XS) (v : Int32) : xn (xw_ u v) = xn u := rfl
theorem xa_xw_ (u : XS) (v : Int32) : xa (xw_ u v) = xa u := rfl
theorem xg_xw_ (u : XS) (v : Int32) : xg (xw_ u v) = xg u := rfl
theorem xe_xw_ (u : XS) (v : Int32) : xe (xw_ u v) = xe u := rfl
theorem xw_xw_ (u : XS) (v : Int32) : xw (xw_ u v) = v := rfl
theorem xC_xw_ (u : XS) (v : Int32) : xC (xw_ u v) = xC u := rfl
theorem xc_xw_ (u : XS) (v : Int32) : xc (xw_ u v) = xc u := rfl
theorem xA_xC_ (u : XS) (v : Nat → Int32) : xA (xC_ u v) = xA u := rfl
theorem xF_xC_ (u : XS) (v : Nat → Int32) : xF (xC_ u v) = xF u := rfl
theorem xM_xC_ (u : XS) (v : Nat → Int32) : xM (xC_ u v) = xM u := rfl
theorem xS_xC_ (u : XS) (v : Nat → Int32) : xS (xC_ u v) = xS u := rfl
theorem xl_xC_ (u : XS) (v : Nat → Int32) : xl (xC_ u v) = xl u := rfl
theorem xn_xC_ (u : XS) (v : Nat → Int32) : xn (xC_ u v) = xn u := rfl
theorem xa_xC_ (u : XS) (v : Nat → Int32) : xa (xC_ u v) = xa u := rfl
theorem xg_xC_ (u : XS) (v : Nat → Int32) : xg (xC_ u v) = xg u := rfl
theorem xe_xC_ (u : XS) (v : Nat → Int32) : xe (xC_ u v) = xe u := rfl
theorem xw_xC_ (u : XS) (v : Nat → Int32) : xw (xC_ u v) = xw u := rfl
theorem xC_xC_ (u : XS) (v : Nat → Int32) : xC (xC_ u v) = v := rfl
theorem xc_xC_ (u : XS) (v : Nat → Int32) : xc (xC_ u v) = xc u := rfl
theorem xA_xc_ (u : XS) (v : Int32) : xA (xc_ u v) = xA u := rfl
theorem xF_xc_ (u : XS) (v : Int32) : xF (xc_ u v) = xF u := rfl
theorem xM_xc_ (u : XS) (v : Int32) : xM (xc_ u v) = xM u := rfl
theorem xS_xc_ (u : XS) (v : Int32) : xS (xc_ u v) = xS u := rfl
theorem xl_xc_ (u : XS) (v : Int32) : xl (xc_ u v) = xl u := rfl
theorem xn_xc_ (u : XS) (v : Int32) : xn (xc_ u v) = xn u := rfl
theorem xa_xc_ (u : XS) (v : Int32) : xa (xc_ u v) = xa u := rfl
theorem xg_xc_ (u : XS) (v : Int32) : xg (xc_ u v) = xg u := rfl
theorem xe_xc_ (u : XS) (v : Int32) : xe (xc_ u v) = xe u := rfl
theorem xw_xc_ (u : XS) (v : Int32) : xw (xc_ u v) = xw u := rfl
theorem xC_xc_ (u : XS) (v : Int32) : xC (xc_ u v) = xC u := rfl
theorem xc_xc_ (u : XS) (v : Int32) : xc (xc_ u v) = v := rfl
theorem XS_ext {u v : XS} (h0 : xA u = xA v) (h1 : xF u = xF v) (h2 : xM u = xM v) (h3 : xS u = xS v) (h4 : xl u = xl v) (h5 : xn u = xn v) (h6 : xa u = xa v) (h7 : xg u = xg v) (h8 : xe u = xe v) (h9 : xw u = xw v) (h10 : xC u = xC v) (h11 : xc u = xc v) : u = v := by
  obtain ⟨a0, a1, a2, a3, a4, a5, a6, a7, a8, a9, a10, a11⟩ := u
  obtain ⟨b0, b1, b2, b3, b4, b5, b6, b7, b8, b9, b10, b11⟩ := v
  cases (show a0 = b0 from h0)
  cases (show a1 = b1 from h1)
  cases (show a2 = b2 from h2)
  cases (show a3 = b3 from h3)
  cases (show a4 = b4 from h4)
  cases (show a5 = b5 from h5)
  cases (show a6 = b6 from h6)
  cases (show a7 = b7 from h7)
  cases (show a8 = b8 from h8)
  cases (show a9 = b9 from h9)
  cases (show a10 = b10 from h10)
  cases (show a11 = b11 from h11)
  rfl
abbrev MS : Type := Int32 × Int32 × Int32 × Int32 × Int32 × Int32 × Int32 × Int32 × Int32 × Int32 × (Nat → Int32) × Int32 × Int32 × Int32 × (Nat → Int32)
def mt (u : MS) : Int32 := u.1
def ml (u : MS) : Int32 := u.2.1
def mv (u : MS) : Int32 := u.2.2.1
def ma (u : MS) : Int32 := u.2.2.2.1
def mg (u : MS) : Int32 := u.2.2.2.2.1
def me (u : MS) : Int32 := u.2.2.2.2.2.1
def mw (u : MS) : Int32 := u.2.2.2.2.2.2.1
def mb (u : MS) : Int32 := u.2.2.2.2.2.2.2.1
def md (u : MS) : Int32 := u.2.2.2.2.2.2.2.2.1
def mr (u : MS) : Int32 := u.2.2.2.2.2.2.2.2.2.1
def mV (u : MS) : Nat → Int32 := u.2.2.2.2.2.2.2.2.2.2.1
def mf (u : MS) : Int32 := u.2.2.2.2.2.2.2.2.2.2.2.1
def mh (u : MS) : Int32 := u.2.2.2.2.2.2.2.2.2.2.2.2.1
def mk (u : MS) : Int32 := u.2.2.2.2.2.2.2.2.2.2.2.2.2.1
def mR (u : MS) : Nat → Int32 := u.2.2.2.2.2.2.2.2.2.2.2.2.2.2
def mt_ (u : MS) (v : Int32) : MS := (v, ml u, mv u, ma u, mg u, me u, mw u, mb u, md u, mr u, mV u, mf u, mh u, mk u, mR u)
def ml_ (u : MS) (v : Int32) : MS := (mt u, v, mv u, ma u, mg u, me u, mw u, mb u, md u, mr u, mV u, mf u, mh u, mk u, mR u)
def mv_ (u : MS) (v : Int32) : MS := (mt u, ml u, v, ma u, mg u, me u, mw u, mb u, md u, mr u, mV u, mf u, mh u, mk u, mR u)
def ma_ (u : MS) (v : Int32) : MS := (mt u, ml u, mv u, v, mg u, me u, mw u, mb u, md u, mr u, mV u, mf u, mh u, mk u, mR u)
def mg_ (u : MS) (v : Int32) : MS := (mt u, ml u, mv u, ma u, v, me u, mw u, mb u, md u, mr u, mV u, mf u, mh u, mk u, mR u)
def me_ (u : MS) (v : Int32) : MS := (mt u, ml u, mv u, ma u, mg u, v, mw u, mb u, md u, mr u, mV u, mf u, mh u, mk u, mR u)
def mw_ (u : MS) (v : Int32) : MS := (mt u, ml u, mv u, ma u, mg u, me u, v, mb u, md u, mr u, mV u, mf u, mh u, mk u, mR u)
def mb_ (u : MS) (v : Int32) : MS := (mt u, ml u, mv u, ma u, mg u, me u, mw u, v, md u, mr u, mV u, mf u, mh u, mk u, mR u)
def md_ (u : MS) (v : Int32) : MS := (mt u, ml u, mv u, ma u, mg u, me u, mw u, mb u, v, mr u, mV u, mf u, mh u, mk u, mR u)
def mr_ (u : MS) (v : Int32) : MS := (mt u, ml u, mv u, ma u, mg u, me u, mw u, mb u, md u, v, mV u, mf u, mh u, mk u, mR u)
def mV_ (u : MS) (v : Nat → Int32) : MS := (mt u, ml u, mv u, ma u, mg u, me u, mw u, mb u, md u, mr u, v, mf u, mh u, mk u, mR u)
def mf_ (u : MS) (v : Int32) : MS := (mt u, ml u, mv u, ma u, mg u, me u, mw u, mb u, md u, mr u, mV u, v, mh u, mk u, mR u)
def mh_ (u : MS) (v : Int32) : MS := (mt u, ml u, mv u, ma u, mg u, me u, mw u, mb u, md u, mr u, mV u, mf u, v, mk u, mR u)
def mk_ (u : MS) (v : Int32) : MS := (mt u, ml u, mv u, ma u, mg u, me u, mw u, mb u, md u, mr u, mV u, mf u, mh u, v, mR u)
def mR_ (u : MS) (v : Nat → Int32) : MS := (mt u, ml u, mv u, ma u, mg u, me u, mw u, mb u, md u, mr u, mV u, mf u, mh u, mk u, v)
theorem mt_mt_ (u : MS) (v : Int32) : mt (mt_ u v) = v := rfl
theorem ml_mt_ (u : MS) (v : Int32) : ml (mt_ u v) = ml u := rfl
theorem mv_mt_ (u : MS) (v : Int32) : mv (mt_ u v) = mv u := rfl
theorem ma_mt_ (u : MS) (v : Int32) : ma (mt_ u v) = ma u := rfl
theorem mg_mt_ (u : MS) (v : Int32) : mg (mt_ u v) = mg u := rfl
theorem me_mt_ (u : MS) (v : Int32) : me (mt_ u v) = me u := rfl
theorem mw_mt_ (u : MS) (v : Int32) : mw (mt_ u v) = mw u := rfl
theorem mb_mt_ (u : MS) (v : Int32) : mb (mt_ u v) = mb u := rfl
theorem md_mt_ (u : MS) (v : Int32) : md (mt_ u v) = md u := rfl
theorem mr_mt_ (u : MS) (v : Int32) : mr (mt_ u v) = mr u := rfl
theorem mV_mt_ (u : MS) (v : Int32) : mV (mt_ u v) = mV u := rfl
theorem mf_mt_ (u : MS) (v : Int32) : mf (mt_ u v) = mf u := rfl
theorem mh_mt_ (u : MS) (v : Int32) : mh (mt_ u v) = mh u := rfl
theorem mk_mt_ (u : MS) (v : Int32) : mk (mt_ u v) = mk u := rfl
theorem mR_mt_ (u : MS) (v : Int32) : mR (mt_ u v) = mR u := rfl
theorem mt_ml_ (u : MS) (v : Int32) : mt (ml_ u v) = mt u := rfl
theorem ml_ml_ (u : MS) (v : Int32) : ml (ml_ u v) = v := rfl
theorem mv_ml_ (u : MS) (v : Int32) : mv (ml_ u v) = mv u := rfl
theorem ma_ml_ (u : MS) (v : Int32) : ma (ml_ u v) = ma u := rfl
theorem mg_ml_ (u : MS) (v : Int32) : mg (ml_ u v) = mg u := rfl
theorem me_ml_ (u : MS) (v : Int32) : me (ml_ u v) = me u := rfl
theorem mw_ml_ (u : MS) (v : Int32) : mw (ml_ u v) = mw u := rfl
theorem mb_ml_ (u : MS) (v : Int32) : mb (ml_ u v) = mb u := rfl
theorem md_ml_ (u : MS) (v : Int32) : md (ml_ u v) = md u := rfl
theorem mr_ml_ (u : MS) (v : Int32) : mr (ml_ u v) = mr u := rfl
theorem mV_ml_ (u : MS) (v : Int32) : mV (ml_ u v) = mV u := rfl
theorem mf_ml_ (u : MS) (v : Int32) : mf (ml_ u v) = mf u := rfl
theorem mh_ml_ (u : MS) (v : Int32) : mh (ml_ u v) = mh u := rfl
theorem mk_ml_ (u : MS) (v : Int32) : mk (ml_ u v) = mk u := rfl
theorem mR_ml_ (u : MS) (v : Int32) : mR (ml_ u v) = mR u := rfl
theorem mt_mv_ (u : MS) (v : Int32) : mt (mv_ u v) = mt u := rfl
theorem ml_mv_ (u : MS) (v : Int32) : ml (mv_ u v) = ml u := rfl
theorem mv_mv_ (u : MS) (v : Int32) : mv (mv_ u v) = v := rfl
theorem ma_mv_ (u : MS) (v : Int32) : ma (mv_ u v) = ma u := rfl
theorem mg_mv_ (u : MS) (v : Int32) : mg (mv_ u v) = mg u := rfl
theorem me_mv_ (u : MS) (v : Int32) : me (mv_ u v) = me u := rfl
theorem mw_mv_ (u : MS) (v : Int32) : mw (mv_ u v) = mw u := rfl
theorem mb_mv_ (u : MS) (v : Int32) : mb (mv_ u v) = mb u := rfl
theorem md_mv_ (u : MS) (v : Int32) : md (mv_ u v) = md u := rfl
theorem mr_mv_ (u : MS) (v : Int32) : mr (mv_ u v) = mr u := rfl
theorem mV_mv_ (u : MS) (v : Int32) : mV (mv_ u v) = mV u := rfl
theorem mf_mv_ (u : MS) (v : Int32) : mf (mv_ u v) = mf u := rfl
theorem mh_mv_ (u : MS) (v : Int32) : mh (mv_ u v) = mh u := rfl
theorem mk_mv_ (u : MS) (v : Int32) : mk (mv_ u v) = mk u := rfl
theorem mR_mv_ (u : MS) (v : Int32) : mR (mv_ u v) = mR u := rfl
theorem mt_ma_ (u : MS) (v : Int32) : mt (ma_ u v) = mt u := rfl
theorem ml_ma_ (u : MS) (v : Int32) : ml (ma_ u v) = ml u := rfl
theorem mv_ma_ (u : MS) (v : Int32) : mv (ma_ u v) = mv u := rfl
theorem ma_ma_ (u : MS) (v : Int32) : ma (ma_ u v) = v := rfl
theorem mg_ma_ (u : MS) (v : Int32) : mg (ma_ u v) = mg u := rfl
theorem me_ma_ (u : MS) (v : Int32) : me (ma_ u v) = me u := rfl
theorem mw_ma_ (u : MS) (v : Int32) : mw (ma_ u v) = mw u := rfl
theorem mb_ma_ (u : MS) (v : Int32) : mb (ma_ u v) = mb u := rfl
theorem md_ma_ (u : MS) (v : Int32) : md (ma_ u v) = md u := rfl
theorem mr_ma_ (u : MS) (v : Int32) : mr (ma_ u v) = mr u := rfl
theorem mV_ma_ (u : MS) (v : Int32) : mV (ma_ u v) = mV u := rfl
theorem mf_ma_ (u : MS) (v : Int32) : mf (ma_ u v) = mf u := rfl
theorem mh_ma_ (u : MS) (v : Int32) : mh (ma_ u v) = mh u := rfl
theorem mk_ma_ (u : MS) (v : Int32) : mk (ma_ u v) = mk u := rfl
theorem mR_ma_ (u : MS) (v : Int32) : mR (ma_ u v) = mR u := rfl
theorem mt_mg_ (u : MS) (v : Int32) : mt (mg_ u v) = mt u := rfl
theorem ml_mg_ (u : MS) (v : Int32) : ml (mg_ u v) = ml u := rfl
theorem mv_mg_ (u : MS) (v : Int32) : mv (mg_ u v) = mv u := rfl
theorem ma_mg_ (u : MS) (v : Int32) : ma (mg_ u v) = ma u := rfl
theorem mg_mg_ (u : MS) (v : Int32) : mg (mg_ u v) = v := rfl
theorem me_mg_ (u : MS) (v : Int32) : me (mg_ u v) = me u := rfl
theorem mw_mg_ (u : MS) (v : Int32) : mw (mg_ u v) = mw u := rfl
theorem mb_mg_ (u : MS) (v : Int32) : mb (mg_ u v) = mb u := rfl
theorem md_mg_ (u : MS) (v : Int32) : md (mg_ u v) = md u := rfl
theorem mr_mg_ (u : MS) (v : Int32) : mr (mg_ u v) = mr u := rfl
theorem mV_mg_ (u : MS) (v : Int32) : mV (mg_ u v) = mV u := rfl
theorem mf_mg_ (u : MS) (v : Int32) : mf (mg_ u v) = mf u := rfl
theorem mh_mg_ (u : MS) (v : Int32) : mh (mg_ u v) = mh u := rfl
theorem mk_mg_ (u : MS) (v : Int32) : mk (mg_ u v) = mk u := rfl
theorem mR_mg_ (u : MS) (v : Int32) : mR (mg_ u v) = mR u := rfl
theorem mt_me_ (u : MS) (v : Int32) : mt (me_ u v) = mt u := rfl
theorem ml_me_ (u : MS) (v : Int32) : ml (me_ u v) = ml u := rfl
theorem mv_me_ (u : MS) (v : Int32) : mv (me_ u v) = mv u := rfl
theorem ma_me_ (u : MS) (v : Int32) : ma (me_ u v) = ma u := rfl
theorem mg_me_ (u : MS) (v : Int32) : mg (me_ u v) = mg u := rfl
theorem me_me_ (u : MS) (v : Int32) : me (me_ u v) = v := rfl
theorem mw_me_ (u : MS) (v : Int32) : mw (me_ u v) = mw u := rfl
theorem mb_me_ (u : MS) (v : Int32) : mb (me_ u v) = mb u := rfl
theorem md_me_ (u : MS) (v : Int32) : md (me_ u v) = md u := rfl
theorem mr_me_ (u : MS) (v : Int32) : mr (me_ u v) = mr u := rfl
theorem mV_me_ (u : MS) (v : Int32) : mV (me_ u v) = mV u := rfl
theorem mf_me_ (u : MS) (v : Int32) : mf (me_ u v) = mf u := rfl
theorem mh_me_ (u : MS) (v : Int32) : mh (me_ u v) = mh u := rfl
theorem mk_me_ (u : MS) (v : Int32) : mk (me_ u v) = mk u := rfl
theorem mR_me_ (u : MS) (v : Int32) : mR (me_ u v) = mR u := rfl
theorem mt_mw_ (u : MS) (v : Int32) : mt (mw_ u v) = mt u := rfl
theorem ml_mw_ (u : MS) (v : Int32) : ml (mw_ u v) = ml u := rfl
theorem mv_mw_ (u : MS) (v : Int32) : mv (mw_ u v) = mv u := rfl
theorem ma_mw_ (u : MS) (v : Int32) : ma (mw_ u v) = ma u := rfl
theorem mg_mw_ (u : MS) (v : Int32) : mg (mw_ u v) = mg u := rfl
theorem me_mw_ (u : MS) (v : Int32) : me (mw_ u v) = me u := rfl
theorem mw_mw_ (u : MS) (v : Int32) : mw (mw_ u v) = v := rfl
theorem mb_mw_ (u : MS) (v : Int32) : mb (mw_ u v) = mb u := rfl
theorem md_mw_ (u : MS) (v : Int32) : md (mw_ u v) = md u := rfl
theorem mr_mw_ (u : MS) (v : Int32) : mr (mw_ u v) = mr u := rfl
theorem mV_mw_ (u : MS) (v : Int32) : mV (mw_ u v) = mV u := rfl
theorem mf_mw_ (u : MS) (v : Int32) : mf (mw_ u v) = mf u := rfl
theorem mh_mw_ (u : MS) (v : Int32) : mh (mw_ u v) = mh u := rfl
theorem mk_mw_ (u : MS) (v : Int32) : mk (mw_ u v) = mk u := rfl
theorem mR_mw_ (u : MS) (v : Int32) : mR (mw_ u v) = mR u := rfl
theorem mt_mb_ (u : MS) (v : Int32) : mt (mb_ u v) = mt u := rfl
theorem ml_mb_ (u : MS) (v : Int32) : ml (mb_ u v) = ml u := rfl
theorem mv_mb_ (u : MS) (v : Int32) : mv (mb_ u v) = mv u := rfl
theorem ma_mb_ (u : MS) (v : Int32) : ma (mb_ u v) = ma u := rfl
theorem mg_mb_ (u : MS) (v : Int32) : mg (mb_ u v) = mg u := rfl
theorem me_mb_ (u : MS) (v : Int32) : me (mb_ u v) = me u := rfl
theorem mw_mb_ (u : MS) (v : Int32) : mw (mb_ u v) = mw u := rfl
theorem mb_mb_ (u : MS) (v : Int32) : mb (mb_ u v) = v := rfl
theorem md_mb_ (u : MS) (v : Int32) : md (mb_ u v) = md u := rfl
theorem mr_mb_ (u : MS) (v : Int32) : mr (mb_ u v) = mr u := rfl
theorem mV_mb_ (u : MS) (v : Int32) : mV (mb_ u v) = mV u := rfl
theorem mf_mb_ (u : MS) (v : Int32) : mf (mb_ u v) = mf u := rfl
theorem mh_mb_ (u : MS) (v : Int32) : mh (mb_ u v) = mh u := rfl
theorem mk_mb_ (u : MS) (v : Int32) : mk (mb_ u v) = mk u := rfl
theorem mR_mb_ (u : MS) (v : Int32) : mR (mb_ u v) = mR u := rfl
theorem mt_md_ (u : MS) (v : Int32) : mt (md_ u v) = mt u := rfl
theorem ml_md_ (u : MS) (v : Int32) : ml (md_ u v) = ml u := rfl
theorem mv_md_ (u : MS) (v : Int32) : mv (md_ u v) = mv u := rfl
theorem ma_md_ (u : MS) (v : Int32) : ma (md_ u v) = ma u := rfl
theorem mg_md_ (u : MS) (v : Int32) : mg (md_ u v) = mg u := rfl
theorem me_md_ (u : MS) (v : Int32) : me (md_ u v) = me u := rfl
theorem mw_md_ (u : MS) (v : Int32) : mw (md_ u v) = mw u := rfl
theorem mb_md_ (u : MS) (v : Int32) : mb (md_ u v) = mb u := rfl
theorem md_md_ (u : MS) (v : Int32) : md (md_ u v) = v := rfl
theorem mr_md_ (u : MS) (v : Int32) : mr (md_ u v) = mr u := rfl
theorem mV_md_ (u : MS) (v : Int32) : mV (md_ u v) = mV u := rfl
theorem mf_md_ (u : MS) (v : Int32) : mf (md_ u v) = mf u := rfl
theorem mh_md_ (u : MS) (v : Int32) : mh (md_ u v) = mh u := rfl
theorem mk_md_ (u : MS) (v : Int32) : mk (md_ u v) = mk u := rfl
theorem mR_md_ (u : MS) (v : Int32) : mR (md_ u v) = mR u := rfl
theorem mt_mr_ (u : MS) (v : Int32) : mt (mr_ u v) = mt u := rfl
theorem ml_mr_ (u : MS) (v : Int32) : ml (mr_ u v) = ml u := rfl
theorem mv_mr_ (u : MS) (v : Int32) : mv (mr_ u v) = mv u := rfl
theorem ma_mr_ (u : MS) (v : Int32) : ma (mr_ u v) = ma u := rfl
theorem mg_mr_ (u : MS) (v : Int32) : mg (mr_ u v) = mg u := rfl
theorem me_mr_ (u : MS) (v : Int32) : me (mr_ u v) = me u := rfl
theorem mw_mr_ (u : MS) (v : Int32) : mw (mr_ u v) = mw u := rfl
theorem mb_mr_ (u : MS) (v : Int32) : mb (mr_ u v) = mb u := rfl
theorem md_mr_ (u : MS) (v : Int32) : md (mr_ u v) = md u := rfl
theorem mr_mr_ (u : MS) (v : Int32) : mr (mr_ u v) = v := rfl
theorem mV_mr_ (u : MS) (v : Int32) : mV (mr_ u v) = mV u := rfl
theorem mf_mr_ (u : MS) (v : Int32) : mf (mr_ u v) = mf u := rfl
theorem mh_mr_ (u : MS) (v : Int32) : mh (mr_ u v) = mh u := rfl
theorem mk_mr_ (u : MS) (v : Int32) : mk (mr_ u v) = mk u := rfl
theorem mR_mr_ (u : MS) (v : Int32) : mR (mr_ u v) = mR u := rfl
theorem mt_mV_ (u : MS) (v : Nat → Int32) : mt (mV_ u v) = mt u := rfl
theorem ml_mV_ (u : MS) (v : Nat → Int32) : ml (mV_ u v) = ml u := rfl
theorem mv_mV_ (u : MS) (v : Nat → Int32) : mv (mV_ u v) = mv u := rfl
theorem ma_mV_ (u : MS) (v : Nat → Int32) : ma (mV_ u v) = ma u := rfl
theorem mg_mV_ (u : MS) (v : Nat → Int32) : mg (mV_ u v) = mg u := rfl
theorem me_mV_ (u : MS) (v : Nat → Int32) : me (mV_ u v) = me u := rfl
theorem mw_mV_ (u : MS) (v : Nat → Int32) : mw (mV_ u v) = mw u := rfl
theorem mb_mV_ (u : MS) (v : Nat → Int32) : mb (mV_ u v) = mb u := rfl
theorem md_mV_ (u : MS) (v : Nat → Int32) : md (mV_ u v) = md u := rfl
theorem mr_mV_ (u : MS) (v : Nat → Int32) : mr (mV_ u v) = mr u := rfl
theorem mV_mV_ (u : MS) (v : Nat → Int32) : mV (mV_ u v) = v := rfl
theorem mf_mV_ (u : MS) (v : Nat → Int32) : mf (mV_ u v) = mf u := rfl
theorem mh_mV_ (u : MS) (v : Nat → Int32) : mh (mV_ u v) = mh u := rfl
theorem mk_mV_ (u : MS) (v : Nat → Int32) : mk (mV_ u v) = mk u := rfl
theorem mR_mV_ (u : MS) (v : Nat → Int32) : mR (mV_ u v) = mR u := rfl
theorem mt_mf_ (u : MS) (v : Int32) : mt (mf_ u v) = mt u := rfl
theorem ml_mf_ (u : MS) (v : Int32) : ml (mf_ u v) = ml u := rfl
theorem mv_mf_ (u : MS) (v : Int32) : mv (mf_ u v) = mv u := rfl
theorem ma_mf_ (u : MS) (v : Int32) : ma (mf_ u v) = ma u := rfl
theorem mg_mf_ (u : MS) (v : Int32) : mg (mf_ u v) = mg u := rfl
theorem me_mf_ (u : MS) (v : Int32) : me (mf_ u v) = me u := rfl
theorem mw_mf_ (u : MS) (v : Int32) : mw (mf_ u v) = mw u := rfl
theorem mb_mf_ (u : MS) (v : Int32) : mb (mf_ u v) = mb u := rfl
theorem md_mf_ (u : MS) (v : Int32) : md (mf_ u v) = md u := rfl
theorem mr_mf_ (u : MS) (v : Int32) : mr (mf_ u v) = mr u := rfl
theorem mV_mf_ (u : MS) (v : Int32) : mV (mf_ u v) = mV u := rfl
theorem mf_mf_ (u : MS) (v : Int32) : mf (mf_ u v) = v := rfl
theorem mh_mf_ (u : MS) (v : Int32) : mh (mf_ u v) = mh u := rfl
theorem mk_mf_ (u : MS) (v : Int32) : mk (mf_ u v) = mk u := rfl
theorem mR_mf_ (u : MS) (v : Int32) : mR (mf_ u v) = mR u := rfl
theorem mt_mh_ (u : MS) (v : Int32) : mt (mh_ u v) = mt u := rfl
theorem ml_mh_ (u : MS) (v : Int32) : ml (mh_ u v) = ml u := rfl
theorem mv_mh_ (u : MS) (v : Int32) : mv (mh_ u v) = mv u := rfl
theorem ma_mh_ (u : MS) (v : Int32) : ma (mh_ u v) = ma u := rfl
theorem mg_mh_ (u : MS) (v : Int32) : mg (mh_ u v) = mg u := rfl
theorem me_mh_ (u : MS) (v : Int32) : me (mh_ u v) = me u := rfl
theorem mw_mh_ (u : MS) (v : Int32) : mw (mh_ u v) = mw u := rfl
theorem mb_mh_ (u : MS) (v : Int32) : mb (mh_ u v) = mb u := rfl
theorem md_mh_ (u : MS) (v : Int32) : md (mh_ u v) = md u := rfl
theorem mr_mh_ (u : MS) (v : Int32) : mr (mh_ u v) = mr u := rfl
theorem mV_mh_ (u : MS) (v : Int32) : mV (mh_ u v) = mV u := rfl
theorem mf_mh_ (u : MS) (v : Int32) : mf (mh_ u v) = mf u := rfl
theorem mh_mh_ (u : MS) (v : Int32) : mh (mh_ u v) = v := rfl
theorem mk_mh_ (u : MS) (v : Int32) : mk (mh_ u v) = mk u := rfl
theorem mR_mh_ (u : MS) (v : Int32) : mR (mh_ u v) = mR u := rfl
theorem mt_mk_ (u : MS) (v : Int32) : mt (mk_ u v) = mt u := rfl
theorem ml_mk_ (u : MS) (v : Int32) : ml (mk_ u v) = ml u := rfl
theorem mv_mk_ (u : MS) (v : Int32) : mv (mk_ u v) = mv u := rfl
theorem ma_mk_ (u : MS) (v : Int32) : ma (mk_ u v) = ma u := rfl
theorem mg_mk_ (u : MS) (v : Int32) : mg (mk_ u v) = mg u := rfl
theorem me_mk_ (u : MS) (v : Int32) : me (mk_ u v) = me u := rfl
theorem mw_mk_ (u : MS) (v : Int32) : mw (mk_ u v) = mw u := rfl
theorem mb_mk_ (u : MS) (v : Int32) : mb (mk_ u v) = mb u := rfl
theorem md_mk_ (u : MS) (v : Int32) : md (mk_ u v) = md u := rfl
theorem mr_mk_ (u : MS) (v : Int32) : mr (mk_ u v) = mr u := rfl
theorem mV_mk_ (u : MS) (v : Int32) : mV (mk_ u v) = mV u := rfl
theorem mf_mk_ (u : MS) (v : Int32) : mf (mk_ u v) = mf u := rfl
theorem mh_mk_ (u : MS) (v : Int32) : mh (mk_ u v) = mh u := rfl
theorem mk_mk_ (u : MS) (v : Int32) : mk (mk_ u v) = v := rfl
theorem mR_mk_ (u : MS) (v : Int32) : mR (mk_ u v) = mR u := rfl
theorem mt_mR_ (u : MS) (v : Nat → Int32) : mt (mR_ u v) = mt u := rfl
theorem ml_mR_ (u : MS) (v : Nat → Int32) : ml (mR_ u v) = ml u := rfl
theorem mv_mR_ (u : MS) (v : Nat → Int32) : mv (mR_ u v) = mv u := rfl
theorem ma_mR_ (u : MS) (v : Nat → Int32) : ma (mR_ u v) = ma u := rfl
theorem mg_mR_ (u : MS) (v : Nat → Int32) : mg (mR_ u v) = mg u := rfl
theorem me_mR_ (u : MS) (v : Nat → Int32) : me (mR_ u v) = me u := rfl
theorem mw_mR_ (u : MS) (v : Nat → Int32) : mw (mR_ u v) = mw u := rfl
theorem mb_mR_ (u : MS) (v : Nat → Int32) : mb (mR_ u v) = mb u := rfl
theorem md_mR_ (u : MS) (v : Nat → Int32) : md (mR_ u v) = md u := rfl
theorem mr_mR_ (u : MS) (v : Nat → Int32) : mr (mR_ u v) = mr u := rfl
theorem mV_mR_ (u : MS) (v : Nat → Int32) : mV (mR_ u v) = mV u := rfl
theorem mf_mR_ (u : MS) (v : Nat → Int32) : mf (mR_ u v) = mf u := rfl
theorem mh_mR_ (u : MS) (v : Nat → Int32) : mh (mR_ u v) = mh u := rfl
theorem mk_mR_ (u : MS) (v : Nat → Int32) : mk (mR_ u v) = mk u := rfl
theorem mR_mR_ (u : MS) (v : Nat → Int32) : mR (mR_ u v) = v := rfl
theorem MS_ext {u v : MS} (h0 : mt u = mt v) (h1 : ml u = ml v) (h2 : mv u = mv v) (h3 : ma u = ma v) (h4 : mg u = mg v) (h5 : me u = me v) (h6 : mw u = mw v) (h7 : mb u = mb v) (h8 : md u = md v) (h9 : mr u = mr v) (h10 : mV u = mV v) (h11 : mf u = mf v) (h12 : mh u = mh v) (h13 : mk u = mk v) (h14 : mR u = mR v) : u = v := by
  obtain ⟨a0, a1, a2, a3, a4, a5, a6, a7, a8, a9, a10, a11, a12, a13, a14⟩ := u
  obtain ⟨b0, b1, b2, b3, b4, b5, b6, b7, b8, b9, b10, b11, b12, b13, b14⟩ := v
  cases (show a0 = b0 from h0)
  cases (show a1 = b1 from h1)
  cases (show a2 = b2 from h2)
  cases (show a3 = b3 from h3)
  cases (show a4 = b4 from h4)
  cases (show a5 = b5 from h5)
  cases (show a6 = b6 from h6)
  cases (show a7 = b7 from h7)
  cases (show a8 = b8 from h8)
  cases (show a9 = b9 from h9)
  cases (show a10 = b10 from h10)
  cases (show a11 = b11 from h11)
  cases (show a12 = b12 from h12)
  cases (show a13 = b13 from h13)
  cases (show a14 = b14 from h14)
  rfl
abbrev tyl (cI cZ : ClassId) : List (ClassId × FieldType) := [(cI, .int), (cZ, .boolean)]
/-- the class's six cells: h 0 the object, h 1 active, h 2 flashing, h 3 measures, h 4 soundness, h 5 changes -/
abbrev wX (cI cZ : ClassId) (h : Nat → Nat) (u : XS) : va_W := [(h 0, .inr (0, [.ref (h 1), .ref (h 2), .ref (h 3), .ref (h 4), .int (xl u), .int (xn u), .int (xa u), .int (xg u), .int (xe u), .int (xw u), .ref (h 5), .int (xc u)])), (h 1, .inl (cI, 2, .inl (xA u))), (h 2, .inl (cI, 2, .inl (xF u))), (h 3, .inl (cI, 7, .inl (xM u))), (h 4, .inl (cZ, 2, .inl (xS u))), (h 5, .inl (cI, 300, .inl (xC u)))]
/-- the reference's three cells: h 0 the object, h 1 values, h 2 rows -/
abbrev wM (cI _cZ : ClassId) (h : Nat → Nat) (u : MS) : va_W := [(h 0, .inr (1, [.int (mt u), .int (ml u), .int (mv u), .int (ma u), .int (mg u), .int (me u), .int (mw u), .int (mb u), .int (md u), .int (mr u), .ref (h 1), .int (mf u), .int (mh u), .int (mk u), .ref (h 2)])), (h 1, .inl (cI, 7, .inl (mV u))), (h 2, .inl (cI, 1200, .inl (mR u)))]
abbrev wE (_ : Unit) : va_W := []
/-- a contract's start over a world -/
def PcW (D : va_G) (tys : List (ClassId × FieldType)) (ws : va_W) (sz : Nat) : State → Prop := fun U => U.heap.size = sz ∧ va_P D vwCl ws U.heap ∧ va_K D vwCl tys U ∧ va_D (fun _ => True) ws
/-- the world behind a method -/
def BW {S : Type} (D : va_G) (tys : List (ClassId × FieldType)) (A : Nat → Prop) (wf : S → va_W) : S → State → Prop := fun u t => va_P D vwCl (wf u) t.heap ∧ va_K D vwCl tys t ∧ va_D A (wf u)
abbrev Mi {S : Type} (l : Launch) (y : MethodName) (ws : List Cond) (rm : Room) (D : va_G) (tys : List (ClassId × FieldType)) (wf : S → va_W) (sz : Nat) (u : S) (av : List Value) (post : Int32 → S → Prop) : Prop :=
  Met l y ws rm (va_Pc av (PcW D tys (wf u) sz)) (va_Qi post (BW D tys (va_A (wf u) sz) wf) (va_A (wf u) sz)) 0 0 (va_A (wf u) sz)
abbrev Mv {S : Type} (l : Launch) (y : MethodName) (ws : List Cond) (rm : Room) (D : va_G) (tys : List (ClassId × FieldType)) (wf : S → va_W) (sz : Nat) (u : S) (av : List Value) (post : S → Prop) : Prop :=
  Met l y ws rm (va_Pc av (PcW D tys (wf u) sz)) (va_Qv post (BW D tys (va_A (wf u) sz) wf) (va_A (wf u) sz)) 0 0 (va_A (wf u) sz)
theorem bl_W {D : va_G} {tys : List (ClassId × FieldType)} {ws : va_W} {sz : Nat} {av : List Value} : FrameBlind (va_Pc av (PcW D tys ws sz)) := fun a U g mk q => by
  obtain ⟨q0, q1, qP, qK, qD⟩ := q
  exact ⟨q0, q1, qP, va_K.moved (u := U) (U := U.calling g mk a) (Vm.Alike.refl U.vm) qK, qD⟩
theorem pr_W {D : va_G} {tys : List (ClassId × FieldType)} {ws : va_W} {av : List Value} {s : State} {H : Heap} {A : Nat → Prop} (hP : va_P D vwCl ws H) (hK : va_K D vwCl tys s) (hD : va_D A ws) : ∀ U : State, U.heap = H → s.WarmedH U.vm → va_Pc av (PcW D tys ws H.size) av.toArray U := fun U hU hW =>
  ⟨rfl, by rw [hU], by rw [hU]; exact hP, va_K.moved hW.alike hK, hD.weaken (fun _ _ _ _ => trivial)⟩
theorem af_W {S : Type} {D : va_G} {tys : List (ClassId × FieldType)} {wf : S → va_W} {u : S} {s t : State} {H1 : Heap} {A A1 : Nat → Prop} (hB : BW D tys A1 wf u t) (ht : t.heap = H1) (hvm : s.vm.Alike t.vm) (hF : ∀ q, A1 q → A q) : va_P D vwCl (wf u) H1 ∧ va_K D vwCl tys s ∧ va_D A (wf u) := by
  obtain ⟨hP1, hK1, hD1⟩ := hB
  rw [ht] at hP1
  exact ⟨hP1, va_K.moved hvm.symm hK1, hD1.weaken (fun _ q _ h => hF q.1 h)⟩
theorem af_E {D : va_G} {ws : va_W} {H H1 : Heap} (hP : va_P D vwCl ws H) (hk : ∀ q : Nat, q < H.size → ¬ va_A (wE ()) H.size q → H1[q]? = H[q]?) : va_P D vwCl ws H1 :=
  hP.kept (fun k q hq => hk q.1 (hP k q hq).lt (fun hA => by
    rcases hA with ⟨k9, e9, h9⟩ | h9
    · simp [wE] at h9
    · exact absurd (hP k q hq).lt (Nat.not_lt.mpr h9)))
theorem fr_E {A : Nat → Prop} {H0 H : Heap} {locs : List Loc} (hS : va_S A H0 H locs) (hA : ∀ q, H0.size ≤ q → A q) : ∀ q, va_A (wE ()) H.size q → A q := fun q h => by
  rcases h with ⟨k9, e9, h9⟩ | h9
  · simp [wE] at h9
  · exact hA q (Nat.le_trans hS.1 h9)
theorem pE {D : va_G} {H : Heap} : va_P D vwCl (wE ()) H := fun k q h => by simp [wE] at h
theorem dE {A : Nat → Prop} : va_D A (wE ()) := ⟨fun i j p q h => by simp [wE] at h, fun k q h => by simp [wE] at h⟩
theorem vi_c {x : Int32} {n : Nat} (h : decide (¬ (x < 0 ∨ n ≤ x.toNatClampNeg)) = true) : vp_in x n := of_decide_eq_true (p := ¬ (x < 0 ∨ n ≤ x.toNatClampNeg)) h
theorem vi_2 {x : Int32} (h : x = 0 ∨ x = 1) : vp_in x 2 := by rcases h with rfl | rfl <;> exact vi_c (by decide)
def bz (x : Int32) : Prop := x = 0 ∨ x = 1
theorem bz0 : bz 0 := Or.inl rfl
theorem bz1 : bz 1 := Or.inr rfl
theorem bz_n {x : Int32} (h : bz x) : narrow .boolean (.int x) = .int x := by rcases h with rfl | rfl <;> decide
theorem bz_f {x : Int32} (h : bz x) : fits .boolean (.int x) = true := by rcases h with rfl | rfl <;> decide
theorem bz_v {x : Int32} (h : bz x) : vp_nar .boolean x = x := by rcases h with rfl | rfl <;> decide
theorem bz_s {x : Int32} (h : bz x) : bz (1 - x) := by
  rcases h with rfl | rfl
  · exact Or.inr (by decide)
  · exact Or.inl (by decide)
theorem ti_ne {x k : Int32} {n : Int} (h : ¬ x = k) (hk : k.toInt = n) : x.toInt ≠ n := fun e => h (Int32.toInt_inj.mp (e.trans hk.symm))
def InvX (u : XS) : Prop := bz (xl u) ∧ bz (xn u) ∧ bz (xa u) ∧ bz (xg u) ∧ bz (xe u) ∧ bz (xw u) ∧ ∃ k : Nat, k ≤ 300 ∧ xc u = nI k
theorem InvX.sA {u : XS} (h : InvX u) (f : Nat → Int32) : InvX (xA_ u f) := h
theorem InvX.sF {u : XS} (h : InvX u) (f : Nat → Int32) : InvX (xF_ u f) := h
theorem InvX.sM {u : XS} (h : InvX u) (f : Nat → Int32) : InvX (xM_ u f) := h
theorem InvX.sS {u : XS} (h : InvX u) (f : Nat → Int32) : InvX (xS_ u f) := h
theorem InvX.sC {u : XS} (h : InvX u) (f : Nat → Int32) : InvX (xC_ u f) := h
theorem InvX.sl {u : XS} (h : InvX u) {v : Int32} (hv : bz v) : InvX (xl_ u v) := ⟨hv, h.2⟩
theorem InvX.sn {u : XS} (h : InvX u) {v : Int32} (hv : bz v) : InvX (xn_ u v) := ⟨h.1, hv, h.2.2⟩
theorem InvX.sa {u : XS} (h : InvX u) {v : Int32} (hv : bz v) : InvX (xa_ u v) := ⟨h.1, h.2.1, hv, h.2.2.2⟩
theorem InvX.sg {u : XS} (h : InvX u) {v : Int32} (hv : bz v) : InvX (xg_ u v) := ⟨h.1, h.2.1, h.2.2.1, hv, h.2.2.2.2⟩
theorem InvX.se {u : XS} (h : InvX u) {v : Int32} (hv : bz v) : InvX (xe_ u v) := ⟨h.1, h.2.1, h.2.2.1, h.2.2.2.1, hv, h.2.2.2.2.2⟩
theorem InvX.sw {u : XS} (h : InvX u) {v : Int32} (hv : bz v) : InvX (xw_ u v) := ⟨h.1, h.2.1, h.2.2.1, h.2.2.2.1, h.2.2.2.2.1, hv, h.2.2.2.2.2.2⟩
theorem InvX.cIn {u : XS} (h : InvX u) (c : ¬ (300 : Int32) ≤ xc u) : vp_in (xc u) 300 := by
  obtain ⟨k, hk, e⟩ := h.2.2.2.2.2.2
  rw [e] at c ⊢
  rcases Nat.lt_or_ge k 300 with q | q
  · exact vp_in_nI q (by decide)
  · exact absurd (nI_le (a := 300) (b := k) q (by omega)) c
theorem InvX.sc {u : XS} (h : InvX u) (c : ¬ (300 : Int32) ≤ xc u) : InvX (xc_ u (xc u + 1)) := by
  obtain ⟨h1, h2, h3, h4, h5, h6, k, hk, e⟩ := h
  refine ⟨h1, h2, h3, h4, h5, h6, k + 1, ?_, ?_⟩
  · rcases Nat.lt_or_ge k 300 with q | q
    · exact q
    · exact absurd (by rw [e]; exact nI_le (a := 300) (b := k) q (by omega)) c
  · show xc u + 1 = nI (k + 1)
    rw [e]; exact nI_1 k
theorem InvX.kIn {u : XS} (h : InvX u) {i : Int32} (c0 : ¬ i < 0) (c : ¬ xc u ≤ i) : vp_in i 300 := by
  obtain ⟨k, hk, e⟩ := h.2.2.2.2.2.2
  obtain ⟨j, hj, rfl⟩ := nI_of c0
  rw [e] at c
  refine vp_in_nI ?_ (by decide)
  rcases Nat.lt_or_ge j k with q | q
  · omega
  · exact absurd (nI_le q hj) c
theorem InvX.kIn2 {u : XS} (h : InvX u) {i : Int32} (c0 : ¬ i < 0) (c : i < xc u) : vp_in i 300 := h.kIn c0 (Int32.not_le.mpr c)
theorem vi_7 {x : Int32} (c0 : ¬ x < 0) (c : ¬ (6 : Int32) < x) : vp_in x 7 := by
  obtain ⟨j, hj, rfl⟩ := nI_of c0
  refine vp_in_nI ?_ (by decide)
  rcases Nat.lt_or_ge j 7 with q | q
  · exact q
  · exact absurd (nI_lt (a := 6) (b := j) q hj) c
theorem vi_k {i w : Int32} (c0 : ¬ i < 0) (c1 : ¬ (299 : Int32) < i) (c2 : ¬ w < 0) (c3 : w ≤ 3) : vp_in (4 * i + w) 1200 := by
  obtain ⟨j, hj, rfl⟩ := nI_of c0
  obtain ⟨k, hk, rfl⟩ := nI_of c2
  have h1 : j < 300 := by
    rcases Nat.lt_or_ge j 300 with q | q
    · exact q
    · exact absurd (nI_lt (a := 299) (b := j) q hj) c1
  have h2 : k < 4 := by
    rcases Nat.lt_or_ge k 4 with q | q
    · exact q
    · exact absurd c3 (nI_ge (a := 3) (b := k) q hk)
  have h4 : (4 : Int32) * nI j = nI (4 * j) := pk_mul 4 j
  rw [h4, nI_add]
  exact vp_in_nI (by omega) (by decide)
theorem lx_step {k : Nat} {j : Int32} (h : j = nI (1000 - (k + 1))) (hk : k + 1 ≤ 1000) : j + 1 = nI (1000 - k) := by
  rw [h, nI_1, show 1000 - (k + 1) + 1 = 1000 - k by omega]
theorem lx_lt {k : Nat} {j : Int32} (h : j = nI (1000 - (k + 1))) (hk : k + 1 ≤ 1000) : ¬ (1000 : Int32) ≤ j := by
  rw [h]; exact nI_ge (a := 1000 - (k + 1)) (b := 1000) (by omega) (by decide)
def InvM (n : Nat) (u : MS) : Prop := bz (mg u) ∧ bz (me u) ∧ bz (mw u) ∧ bz (mb u) ∧ bz (md u) ∧ bz (mr u) ∧ ∃ k : Nat, k ≤ n ∧ mk u = nI k
theorem InvM.mono {n n' : Nat} {u : MS} (h : InvM n u) (hn : n ≤ n') : InvM n' u := by
  obtain ⟨h1, h2, h3, h4, h5, h6, k, hk, e⟩ := h
  exact ⟨h1, h2, h3, h4, h5, h6, k, Nat.le_trans hk hn, e⟩
theorem InvM.st {n : Nat} {u : MS} (h : InvM n u) (v : Int32) : InvM n (mt_ u v) := h
theorem InvM.sl {n : Nat} {u : MS} (h : InvM n u) (v : Int32) : InvM n (ml_ u v) := h
theorem InvM.sv {n : Nat} {u : MS} (h : InvM n u) (v : Int32) : InvM n (mv_ u v) := h
theorem InvM.sa {n : Nat} {u : MS} (h : InvM n u) (v : Int32) : InvM n (ma_ u v) := h
theorem InvM.sf {n : Nat} {u : MS} (h : InvM n u) (v : Int32) : InvM n (mf_ u v) := h
theorem InvM.sh {n : Nat} {u : MS} (h : InvM n u) (v : Int32) : InvM n (mh_ u v) := h
theorem InvM.sV {n : Nat} {u : MS} (h : InvM n u) (f : Nat → Int32) : InvM n (mV_ u f) := h
theorem InvM.sR {n : Nat} {u : MS} (h : InvM n u) (f : Nat → Int32) : InvM n (mR_ u f) := h
theorem InvM.sg {n : Nat} {u : MS} (h : InvM n u) {v : Int32} (hv : bz v) : InvM n (mg_ u v) := ⟨hv, h.2⟩
theorem InvM.se {n : Nat} {u : MS} (h : InvM n u) {v : Int32} (hv : bz v) : InvM n (me_ u v) := ⟨h.1, hv, h.2.2⟩
theorem InvM.sw {n : Nat} {u : MS} (h : InvM n u) {v : Int32} (hv : bz v) : InvM n (mw_ u v) := ⟨h.1, h.2.1, hv, h.2.2.2⟩
theorem InvM.sb {n : Nat} {u : MS} (h : InvM n u) {v : Int32} (hv : bz v) : InvM n (mb_ u v) := ⟨h.1, h.2.1, h.2.2.1, hv, h.2.2.2.2⟩
theorem InvM.sd {n : Nat} {u : MS} (h : InvM n u) {v : Int32} (hv : bz v) : InvM n (md_ u v) := ⟨h.1, h.2.1, h.2.2.1, h.2.2.2.1, hv, h.2.2.2.2.2⟩
theorem InvM.sr {n : Nat} {u : MS} (h : InvM n u) {v : Int32} (hv : bz v) : InvM n (mr_ u v) := ⟨h.1, h.2.1, h.2.2.1, h.2.2.2.1, h.2.2.2.2.1, hv, h.2.2.2.2.2.2⟩
theorem InvM.sk {n : Nat} {u : MS} (h : InvM n u) : InvM (n + 1) (mk_ u (mk u + 1)) := by
  obtain ⟨h1, h2, h3, h4, h5, h6, k, hk, e⟩ := h
  refine ⟨h1, h2, h3, h4, h5, h6, k + 1, by omega, ?_⟩
  show mk u + 1 = nI (k + 1)
  rw [e]; exact nI_1 k
theorem InvM.kIn0 {n : Nat} {u : MS} (h : InvM n u) (hn : n ≤ 2000000) (c : ¬ (300 : Int32) ≤ mk u) : vp_in (4 * mk u) 1200 := by
  obtain ⟨k, hk, e⟩ := h.2.2.2.2.2.2
  rw [e] at c ⊢
  have h4 : (4 : Int32) * nI k = nI (4 * k) := pk_mul 4 k
  rw [h4]
  rcases Nat.lt_or_ge k 300 with q | q
  · exact vp_in_nI (by omega) (by decide)
  · exact absurd (nI_le (a := 300) (b := k) q (by omega)) c
theorem InvM.kIn {n : Nat} {u : MS} (h : InvM n u) (hn : n ≤ 2000000) (c : ¬ (300 : Int32) ≤ mk u) (j : Nat) (hj : j < 4) : vp_in (4 * mk u + nI j) 1200 := by
  obtain ⟨k, hk, e⟩ := h.2.2.2.2.2.2
  rw [e] at c ⊢
  have h4 : (4 : Int32) * nI k = nI (4 * k) := pk_mul 4 k
  rw [h4, nI_add]
  rcases Nat.lt_or_ge k 300 with q | q
  · exact vp_in_nI (by omega) (by decide)
  · exact absurd (nI_le (a := 300) (b := k) q (by omega)) c
