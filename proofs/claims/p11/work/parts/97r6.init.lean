/-! a fresh LogRiver: its tape, reader, judge -/
theorem vq_init0 {σ : kx_S} {L : Nat} : vX11_init L σ (fun u => ∃ p6 tb p7 tk ca p8 st na, (xr u 213 L = some p6 ∧ xr u 214 L = some p7 ∧ xr u 215 L = some p8) ∧ (xr u 112 p7 = some tk ∧ xr u 113 p7 = some ca ∧ xr u 192 tk = some p6 ∧ xr u 176 p6 = some tb) ∧ (xt u tk = 12 ∧ xt u ca = 20 ∧ xt u tb = 20 ∧ xn u ca = 500 ∧ xn u tb = 500) ∧ (tb ≠ ca ∧ tb ≠ st ∧ tb ≠ na ∧ ca ≠ st ∧ ca ≠ na) ∧ qj_ p8 st na u ∧ xi u 219 L = -1) := by
  unfold vX11_init vJx4a65c_init_da8c8 vJxc12de_init_da8c8 vJxa1e45_init_da8c8
  intro _ q0 _ _ a0 _ _ b0 _ _ c0 _ hL0 d0 ed0
  intro _ q1 _ _ a1 _ _ b1 _ _ c1 _ hL1 d1 ed1
  intro _ q2 _ _ a2 _ _ b2 _ _ c2 _ hL2 d2 ed2
  intro _ q3 _ _ a3 _ _ b3 _ _ c3 _ hL3 d3 ed3
  intro _ q4 _ _ a4 _ _ b4 _ _ c4 _ hL4 d4 ed4
  intro _ p6 hp6 _ s1 e1
  have hLd : xt d4 L = 13 := by rw [ed4]; exact hL4
  have f_t_L_d4 := hLd
  have ne_L_p6 : L ≠ p6 := fun q => by have h := f_t_L_d4; rw [q, hp6] at h; omega
  have f_t_L_s1 : xt s1 L = 13 := by rw [e1]; exact (va_up_ne _ _ ne_L_p6).trans f_t_L_d4
  have f_t_p6_s1 : xt s1 p6 = 11 := by rw [e1]; exact va_up_self _ _ _
  unfold vX9_init
  intro _ _ _ tb htb _ s2 e2 _ s3 e3 _ s4 e4
  have ne_L_tb : L ≠ tb := fun q => by have h := f_t_L_s1; rw [q, htb] at h; omega
  have ne_p6_tb : p6 ≠ tb := fun q => by have h := f_t_p6_s1; rw [q, htb] at h; omega
  have f_t_L_s2 : xt s2 L = 13 := by rw [e2]; exact (va_up_ne _ _ ne_L_tb).trans f_t_L_s1
  have f_t_p6_s2 : xt s2 p6 = 11 := by rw [e2]; exact (va_up_ne _ _ ne_p6_tb).trans f_t_p6_s1
  have f_t_tb_s2 : xt s2 tb = 20 := by rw [e2]; exact va_up_self _ _ _
  have f_n_tb_s2 : xn s2 tb = (Int32.toNatClampNeg 500) := by rw [e2]; exact va_up_self _ _ _
  have f_t_L_s3 : xt s3 L = 13 := by rw [e3]; exact f_t_L_s2
  have f_t_p6_s3 : xt s3 p6 = 11 := by rw [e3]; exact f_t_p6_s2
  have f_t_tb_s3 : xt s3 tb = 20 := by rw [e3]; exact f_t_tb_s2
  have f_n_tb_s3 : xn s3 tb = (Int32.toNatClampNeg 500) := by rw [e3]; exact f_n_tb_s2
  have f_r_176_p6_s3 : xr s3 176 p6 = some tb := by rw [e3]; exact va_up_self _ _ _
  have f_t_L_s4 : xt s4 L = 13 := by rw [e4]; exact f_t_L_s3
  have f_t_p6_s4 : xt s4 p6 = 11 := by rw [e4]; exact f_t_p6_s3
  have f_t_tb_s4 : xt s4 tb = 20 := by rw [e4]; exact f_t_tb_s3
  have f_n_tb_s4 : xn s4 tb = (Int32.toNatClampNeg 500) := by rw [e4]; exact f_n_tb_s3
  have f_r_176_p6_s4 : xr s4 176 p6 = some tb := by rw [e4]; exact fg_srX f_r_176_p6_s3 (fun h => absurd h.1 (by decide))
  have f_r_213_L_s4 : xr s4 213 L = some p6 := by rw [e4]; exact va_up_self _ _ _
  intro _ p7 hp7 _ s5 e5 _ y6 ey
  have ne_L_p7 : L ≠ p7 := fun q => by have h := f_t_L_s4; rw [q, hp7] at h; omega
  have ne_p6_p7 : p6 ≠ p7 := fun q => by have h := f_t_p6_s4; rw [q, hp7] at h; omega
  have ne_tb_p7 : tb ≠ p7 := fun q => by have h := f_t_tb_s4; rw [q, hp7] at h; omega
  have f_t_L_s5 : xt s5 L = 13 := by rw [e5]; exact (va_up_ne _ _ ne_L_p7).trans f_t_L_s4
  have f_t_p6_s5 : xt s5 p6 = 11 := by rw [e5]; exact (va_up_ne _ _ ne_p6_p7).trans f_t_p6_s4
  have f_t_tb_s5 : xt s5 tb = 20 := by rw [e5]; exact (va_up_ne _ _ ne_tb_p7).trans f_t_tb_s4
  have f_n_tb_s5 : xn s5 tb = (Int32.toNatClampNeg 500) := by rw [e5]; exact f_n_tb_s4
  have f_r_176_p6_s5 : xr s5 176 p6 = some tb := by rw [e5]; exact (va_up_ne _ _ ne_p6_p7).trans f_r_176_p6_s4
  have f_r_213_L_s5 : xr s5 213 L = some p6 := by rw [e5]; exact (va_up_ne _ _ ne_L_p7).trans f_r_213_L_s4
  have f_t_p7_s5 : xt s5 p7 = 7 := by rw [e5]; exact va_up_self _ _ _
  obtain rfl := Option.some.inj (f_r_213_L_s5.symm.trans ey)
  unfold vX5_init vX10_init
  intro _ tk htk _ s6 e6 _ s7 e7 _ s8 e8 _ _ _ ca hca _ s9 e9 _ s10 e10 _ s11 e11
  have ne_L_tk : L ≠ tk := fun q => by have h := f_t_L_s5; rw [q, htk] at h; omega
  have ne_p6_tk : p6 ≠ tk := fun q => by have h := f_t_p6_s5; rw [q, htk] at h; omega
  have ne_tb_tk : tb ≠ tk := fun q => by have h := f_t_tb_s5; rw [q, htk] at h; omega
  have ne_p7_tk : p7 ≠ tk := fun q => by have h := f_t_p7_s5; rw [q, htk] at h; omega
  have f_t_L_s6 : xt s6 L = 13 := by rw [e6]; exact (va_up_ne _ _ ne_L_tk).trans f_t_L_s5
  have f_t_p6_s6 : xt s6 p6 = 11 := by rw [e6]; exact (va_up_ne _ _ ne_p6_tk).trans f_t_p6_s5
  have f_t_tb_s6 : xt s6 tb = 20 := by rw [e6]; exact (va_up_ne _ _ ne_tb_tk).trans f_t_tb_s5
  have f_n_tb_s6 : xn s6 tb = (Int32.toNatClampNeg 500) := by rw [e6]; exact f_n_tb_s5
  have f_r_176_p6_s6 : xr s6 176 p6 = some tb := by rw [e6]; exact (va_up_ne _ _ ne_p6_tk).trans f_r_176_p6_s5
  have f_r_213_L_s6 : xr s6 213 L = some p6 := by rw [e6]; exact (va_up_ne _ _ ne_L_tk).trans f_r_213_L_s5
  have f_t_p7_s6 : xt s6 p7 = 7 := by rw [e6]; exact (va_up_ne _ _ ne_p7_tk).trans f_t_p7_s5
  have f_t_tk_s6 : xt s6 tk = 12 := by rw [e6]; exact va_up_self _ _ _
  have f_t_L_s7 : xt s7 L = 13 := by rw [e7]; exact f_t_L_s6
  have f_t_p6_s7 : xt s7 p6 = 11 := by rw [e7]; exact f_t_p6_s6
  have f_t_tb_s7 : xt s7 tb = 20 := by rw [e7]; exact f_t_tb_s6
  have f_n_tb_s7 : xn s7 tb = (Int32.toNatClampNeg 500) := by rw [e7]; exact f_n_tb_s6
  have f_r_176_p6_s7 : xr s7 176 p6 = some tb := by rw [e7]; exact fg_srX f_r_176_p6_s6 (fun h => absurd h.1 (by decide))
  have f_r_213_L_s7 : xr s7 213 L = some p6 := by rw [e7]; exact fg_srX f_r_213_L_s6 (fun h => absurd h.1 (by decide))
  have f_t_p7_s7 : xt s7 p7 = 7 := by rw [e7]; exact f_t_p7_s6
  have f_t_tk_s7 : xt s7 tk = 12 := by rw [e7]; exact f_t_tk_s6
  have f_r_192_tk_s7 : xr s7 192 tk = some p6 := by rw [e7]; exact va_up_self _ _ _
  have f_t_L_s8 : xt s8 L = 13 := by rw [e8]; exact f_t_L_s7
  have f_t_p6_s8 : xt s8 p6 = 11 := by rw [e8]; exact f_t_p6_s7
  have f_t_tb_s8 : xt s8 tb = 20 := by rw [e8]; exact f_t_tb_s7
  have f_n_tb_s8 : xn s8 tb = (Int32.toNatClampNeg 500) := by rw [e8]; exact f_n_tb_s7
  have f_r_176_p6_s8 : xr s8 176 p6 = some tb := by rw [e8]; exact fg_srX f_r_176_p6_s7 (fun h => absurd h.1 (by decide))
  have f_r_213_L_s8 : xr s8 213 L = some p6 := by rw [e8]; exact fg_srX f_r_213_L_s7 (fun h => absurd h.1 (by decide))
  have f_t_p7_s8 : xt s8 p7 = 7 := by rw [e8]; exact f_t_p7_s7
  have f_t_tk_s8 : xt s8 tk = 12 := by rw [e8]; exact f_t_tk_s7
  have f_r_192_tk_s8 : xr s8 192 tk = some p6 := by rw [e8]; exact fg_srX f_r_192_tk_s7 (fun h => absurd h.1 (by decide))
  have f_r_112_p7_s8 : xr s8 112 p7 = some tk := by rw [e8]; exact va_up_self _ _ _
  have ne_L_ca : L ≠ ca := fun q => by have h := f_t_L_s8; rw [q, hca] at h; omega
  have ne_p6_ca : p6 ≠ ca := fun q => by have h := f_t_p6_s8; rw [q, hca] at h; omega
  have ne_tb_ca : tb ≠ ca := fun q => by have h := f_t_tb_s8; rw [q, hca] at h; omega
  have ne_p7_ca : p7 ≠ ca := fun q => by have h := f_t_p7_s8; rw [q, hca] at h; omega
  have ne_tk_ca : tk ≠ ca := fun q => by have h := f_t_tk_s8; rw [q, hca] at h; omega
  have f_t_L_s9 : xt s9 L = 13 := by rw [e9]; exact (va_up_ne _ _ ne_L_ca).trans f_t_L_s8
  have f_t_p6_s9 : xt s9 p6 = 11 := by rw [e9]; exact (va_up_ne _ _ ne_p6_ca).trans f_t_p6_s8
  have f_t_tb_s9 : xt s9 tb = 20 := by rw [e9]; exact (va_up_ne _ _ ne_tb_ca).trans f_t_tb_s8
  have f_n_tb_s9 : xn s9 tb = (Int32.toNatClampNeg 500) := by rw [e9]; exact (va_up_ne _ _ ne_tb_ca).trans f_n_tb_s8
  have f_r_176_p6_s9 : xr s9 176 p6 = some tb := by rw [e9]; exact f_r_176_p6_s8
  have f_r_213_L_s9 : xr s9 213 L = some p6 := by rw [e9]; exact f_r_213_L_s8
  have f_t_p7_s9 : xt s9 p7 = 7 := by rw [e9]; exact (va_up_ne _ _ ne_p7_ca).trans f_t_p7_s8
  have f_t_tk_s9 : xt s9 tk = 12 := by rw [e9]; exact (va_up_ne _ _ ne_tk_ca).trans f_t_tk_s8
  have f_r_192_tk_s9 : xr s9 192 tk = some p6 := by rw [e9]; exact f_r_192_tk_s8
  have f_r_112_p7_s9 : xr s9 112 p7 = some tk := by rw [e9]; exact f_r_112_p7_s8
  have f_t_ca_s9 : xt s9 ca = 20 := by rw [e9]; exact va_up_self _ _ _
  have f_n_ca_s9 : xn s9 ca = (Int32.toNatClampNeg 500) := by rw [e9]; exact va_up_self _ _ _
  have f_t_L_s10 : xt s10 L = 13 := by rw [e10]; exact f_t_L_s9
  have f_t_p6_s10 : xt s10 p6 = 11 := by rw [e10]; exact f_t_p6_s9
  have f_t_tb_s10 : xt s10 tb = 20 := by rw [e10]; exact f_t_tb_s9
  have f_n_tb_s10 : xn s10 tb = (Int32.toNatClampNeg 500) := by rw [e10]; exact f_n_tb_s9
  have f_r_176_p6_s10 : xr s10 176 p6 = some tb := by rw [e10]; exact fg_srX f_r_176_p6_s9 (fun h => absurd h.1 (by decide))
  have f_r_213_L_s10 : xr s10 213 L = some p6 := by rw [e10]; exact fg_srX f_r_213_L_s9 (fun h => absurd h.1 (by decide))
  have f_t_p7_s10 : xt s10 p7 = 7 := by rw [e10]; exact f_t_p7_s9
  have f_t_tk_s10 : xt s10 tk = 12 := by rw [e10]; exact f_t_tk_s9
  have f_r_192_tk_s10 : xr s10 192 tk = some p6 := by rw [e10]; exact fg_srX f_r_192_tk_s9 (fun h => absurd h.1 (by decide))
  have f_r_112_p7_s10 : xr s10 112 p7 = some tk := by rw [e10]; exact fg_srX f_r_112_p7_s9 (fun h => absurd h.1 (by decide))
  have f_t_ca_s10 : xt s10 ca = 20 := by rw [e10]; exact f_t_ca_s9
  have f_n_ca_s10 : xn s10 ca = (Int32.toNatClampNeg 500) := by rw [e10]; exact f_n_ca_s9
  have f_r_113_p7_s10 : xr s10 113 p7 = some ca := by rw [e10]; exact va_up_self _ _ _
  have f_t_L_s11 : xt s11 L = 13 := by rw [e11]; exact f_t_L_s10
  have f_t_p6_s11 : xt s11 p6 = 11 := by rw [e11]; exact f_t_p6_s10
  have f_t_tb_s11 : xt s11 tb = 20 := by rw [e11]; exact f_t_tb_s10
  have f_n_tb_s11 : xn s11 tb = (Int32.toNatClampNeg 500) := by rw [e11]; exact f_n_tb_s10
  have f_r_176_p6_s11 : xr s11 176 p6 = some tb := by rw [e11]; exact fg_srX f_r_176_p6_s10 (fun h => absurd h.1 (by decide))
  have f_r_213_L_s11 : xr s11 213 L = some p6 := by rw [e11]; exact fg_srX f_r_213_L_s10 (fun h => absurd h.1 (by decide))
  have f_t_p7_s11 : xt s11 p7 = 7 := by rw [e11]; exact f_t_p7_s10
  have f_t_tk_s11 : xt s11 tk = 12 := by rw [e11]; exact f_t_tk_s10
  have f_r_192_tk_s11 : xr s11 192 tk = some p6 := by rw [e11]; exact fg_srX f_r_192_tk_s10 (fun h => absurd h.1 (by decide))
  have f_r_112_p7_s11 : xr s11 112 p7 = some tk := by rw [e11]; exact fg_srX f_r_112_p7_s10 (fun h => absurd h.1 (by decide))
  have f_t_ca_s11 : xt s11 ca = 20 := by rw [e11]; exact f_t_ca_s10
  have f_n_ca_s11 : xn s11 ca = (Int32.toNatClampNeg 500) := by rw [e11]; exact f_n_ca_s10
  have f_r_113_p7_s11 : xr s11 113 p7 = some ca := by rw [e11]; exact fg_srX f_r_113_p7_s10 (fun h => absurd h.1 (by decide))
  have f_r_214_L_s11 : xr s11 214 L = some p7 := by rw [e11]; exact va_up_self _ _ _
  intro _ p8 hp8 _ s12 e12
  have ne_L_p8 : L ≠ p8 := fun q => by have h := f_t_L_s11; rw [q, hp8] at h; omega
  have ne_p6_p8 : p6 ≠ p8 := fun q => by have h := f_t_p6_s11; rw [q, hp8] at h; omega
  have ne_tb_p8 : tb ≠ p8 := fun q => by have h := f_t_tb_s11; rw [q, hp8] at h; omega
  have ne_p7_p8 : p7 ≠ p8 := fun q => by have h := f_t_p7_s11; rw [q, hp8] at h; omega
  have ne_tk_p8 : tk ≠ p8 := fun q => by have h := f_t_tk_s11; rw [q, hp8] at h; omega
  have ne_ca_p8 : ca ≠ p8 := fun q => by have h := f_t_ca_s11; rw [q, hp8] at h; omega
  have f_t_L_s12 : xt s12 L = 13 := by rw [e12]; exact (va_up_ne _ _ ne_L_p8).trans f_t_L_s11
  have f_t_p6_s12 : xt s12 p6 = 11 := by rw [e12]; exact (va_up_ne _ _ ne_p6_p8).trans f_t_p6_s11
  have f_t_tb_s12 : xt s12 tb = 20 := by rw [e12]; exact (va_up_ne _ _ ne_tb_p8).trans f_t_tb_s11
  have f_n_tb_s12 : xn s12 tb = (Int32.toNatClampNeg 500) := by rw [e12]; exact f_n_tb_s11
  have f_r_176_p6_s12 : xr s12 176 p6 = some tb := by rw [e12]; exact (va_up_ne _ _ ne_p6_p8).trans f_r_176_p6_s11
  have f_r_213_L_s12 : xr s12 213 L = some p6 := by rw [e12]; exact (va_up_ne _ _ ne_L_p8).trans f_r_213_L_s11
  have f_t_p7_s12 : xt s12 p7 = 7 := by rw [e12]; exact (va_up_ne _ _ ne_p7_p8).trans f_t_p7_s11
  have f_t_tk_s12 : xt s12 tk = 12 := by rw [e12]; exact (va_up_ne _ _ ne_tk_p8).trans f_t_tk_s11
  have f_r_192_tk_s12 : xr s12 192 tk = some p6 := by rw [e12]; exact (va_up_ne _ _ ne_tk_p8).trans f_r_192_tk_s11
  have f_r_112_p7_s12 : xr s12 112 p7 = some tk := by rw [e12]; exact (va_up_ne _ _ ne_p7_p8).trans f_r_112_p7_s11
  have f_t_ca_s12 : xt s12 ca = 20 := by rw [e12]; exact (va_up_ne _ _ ne_ca_p8).trans f_t_ca_s11
  have f_n_ca_s12 : xn s12 ca = (Int32.toNatClampNeg 500) := by rw [e12]; exact f_n_ca_s11
  have f_r_113_p7_s12 : xr s12 113 p7 = some ca := by rw [e12]; exact (va_up_ne _ _ ne_p7_p8).trans f_r_113_p7_s11
  have f_r_214_L_s12 : xr s12 214 L = some p7 := by rw [e12]; exact (va_up_ne _ _ ne_L_p8).trans f_r_214_L_s11
  have f_t_p8_s12 : xt s12 p8 = 5 := by rw [e12]; exact va_up_self _ _ _
  unfold vX3_init
  intro _ _ _ st hst _ s13 e13 _ s14 e14 _ _ _ na hna _ s15 e15 _ s16 e16 _ s17 e17
  have ne_L_st : L ≠ st := fun q => by have h := f_t_L_s12; rw [q, hst] at h; omega
  have ne_p6_st : p6 ≠ st := fun q => by have h := f_t_p6_s12; rw [q, hst] at h; omega
  have ne_tb_st : tb ≠ st := fun q => by have h := f_t_tb_s12; rw [q, hst] at h; omega
  have ne_p7_st : p7 ≠ st := fun q => by have h := f_t_p7_s12; rw [q, hst] at h; omega
  have ne_tk_st : tk ≠ st := fun q => by have h := f_t_tk_s12; rw [q, hst] at h; omega
  have ne_ca_st : ca ≠ st := fun q => by have h := f_t_ca_s12; rw [q, hst] at h; omega
  have ne_p8_st : p8 ≠ st := fun q => by have h := f_t_p8_s12; rw [q, hst] at h; omega
  have f_t_L_s13 : xt s13 L = 13 := by rw [e13]; exact (va_up_ne _ _ ne_L_st).trans f_t_L_s12
  have f_t_p6_s13 : xt s13 p6 = 11 := by rw [e13]; exact (va_up_ne _ _ ne_p6_st).trans f_t_p6_s12
  have f_t_tb_s13 : xt s13 tb = 20 := by rw [e13]; exact (va_up_ne _ _ ne_tb_st).trans f_t_tb_s12
  have f_n_tb_s13 : xn s13 tb = (Int32.toNatClampNeg 500) := by rw [e13]; exact (va_up_ne _ _ ne_tb_st).trans f_n_tb_s12
  have f_r_176_p6_s13 : xr s13 176 p6 = some tb := by rw [e13]; exact f_r_176_p6_s12
  have f_r_213_L_s13 : xr s13 213 L = some p6 := by rw [e13]; exact f_r_213_L_s12
  have f_t_p7_s13 : xt s13 p7 = 7 := by rw [e13]; exact (va_up_ne _ _ ne_p7_st).trans f_t_p7_s12
  have f_t_tk_s13 : xt s13 tk = 12 := by rw [e13]; exact (va_up_ne _ _ ne_tk_st).trans f_t_tk_s12
  have f_r_192_tk_s13 : xr s13 192 tk = some p6 := by rw [e13]; exact f_r_192_tk_s12
  have f_r_112_p7_s13 : xr s13 112 p7 = some tk := by rw [e13]; exact f_r_112_p7_s12
  have f_t_ca_s13 : xt s13 ca = 20 := by rw [e13]; exact (va_up_ne _ _ ne_ca_st).trans f_t_ca_s12
  have f_n_ca_s13 : xn s13 ca = (Int32.toNatClampNeg 500) := by rw [e13]; exact (va_up_ne _ _ ne_ca_st).trans f_n_ca_s12
  have f_r_113_p7_s13 : xr s13 113 p7 = some ca := by rw [e13]; exact f_r_113_p7_s12
  have f_r_214_L_s13 : xr s13 214 L = some p7 := by rw [e13]; exact f_r_214_L_s12
  have f_t_p8_s13 : xt s13 p8 = 5 := by rw [e13]; exact (va_up_ne _ _ ne_p8_st).trans f_t_p8_s12
  have f_t_st_s13 : xt s13 st = 20 := by rw [e13]; exact va_up_self _ _ _
  have f_n_st_s13 : xn s13 st = (Int32.toNatClampNeg 33) := by rw [e13]; exact va_up_self _ _ _
  have f_t_L_s14 : xt s14 L = 13 := by rw [e14]; exact f_t_L_s13
  have f_t_p6_s14 : xt s14 p6 = 11 := by rw [e14]; exact f_t_p6_s13
  have f_t_tb_s14 : xt s14 tb = 20 := by rw [e14]; exact f_t_tb_s13
  have f_n_tb_s14 : xn s14 tb = (Int32.toNatClampNeg 500) := by rw [e14]; exact f_n_tb_s13
  have f_r_176_p6_s14 : xr s14 176 p6 = some tb := by rw [e14]; exact fg_srX f_r_176_p6_s13 (fun h => absurd h.1 (by decide))
  have f_r_213_L_s14 : xr s14 213 L = some p6 := by rw [e14]; exact fg_srX f_r_213_L_s13 (fun h => absurd h.1 (by decide))
  have f_t_p7_s14 : xt s14 p7 = 7 := by rw [e14]; exact f_t_p7_s13
  have f_t_tk_s14 : xt s14 tk = 12 := by rw [e14]; exact f_t_tk_s13
  have f_r_192_tk_s14 : xr s14 192 tk = some p6 := by rw [e14]; exact fg_srX f_r_192_tk_s13 (fun h => absurd h.1 (by decide))
  have f_r_112_p7_s14 : xr s14 112 p7 = some tk := by rw [e14]; exact fg_srX f_r_112_p7_s13 (fun h => absurd h.1 (by decide))
  have f_t_ca_s14 : xt s14 ca = 20 := by rw [e14]; exact f_t_ca_s13
  have f_n_ca_s14 : xn s14 ca = (Int32.toNatClampNeg 500) := by rw [e14]; exact f_n_ca_s13
  have f_r_113_p7_s14 : xr s14 113 p7 = some ca := by rw [e14]; exact fg_srX f_r_113_p7_s13 (fun h => absurd h.1 (by decide))
  have f_r_214_L_s14 : xr s14 214 L = some p7 := by rw [e14]; exact fg_srX f_r_214_L_s13 (fun h => absurd h.1 (by decide))
  have f_t_p8_s14 : xt s14 p8 = 5 := by rw [e14]; exact f_t_p8_s13
  have f_t_st_s14 : xt s14 st = 20 := by rw [e14]; exact f_t_st_s13
  have f_n_st_s14 : xn s14 st = (Int32.toNatClampNeg 33) := by rw [e14]; exact f_n_st_s13
  have f_r_80_p8_s14 : xr s14 80 p8 = some st := by rw [e14]; exact va_up_self _ _ _
  have ne_L_na : L ≠ na := fun q => by have h := f_t_L_s14; rw [q, hna] at h; omega
  have ne_p6_na : p6 ≠ na := fun q => by have h := f_t_p6_s14; rw [q, hna] at h; omega
  have ne_tb_na : tb ≠ na := fun q => by have h := f_t_tb_s14; rw [q, hna] at h; omega
  have ne_p7_na : p7 ≠ na := fun q => by have h := f_t_p7_s14; rw [q, hna] at h; omega
  have ne_tk_na : tk ≠ na := fun q => by have h := f_t_tk_s14; rw [q, hna] at h; omega
  have ne_ca_na : ca ≠ na := fun q => by have h := f_t_ca_s14; rw [q, hna] at h; omega
  have ne_p8_na : p8 ≠ na := fun q => by have h := f_t_p8_s14; rw [q, hna] at h; omega
  have ne_st_na : st ≠ na := fun q => by have h := f_t_st_s14; rw [q, hna] at h; omega
  have f_t_L_s15 : xt s15 L = 13 := by rw [e15]; exact (va_up_ne _ _ ne_L_na).trans f_t_L_s14
  have f_t_p6_s15 : xt s15 p6 = 11 := by rw [e15]; exact (va_up_ne _ _ ne_p6_na).trans f_t_p6_s14
  have f_t_tb_s15 : xt s15 tb = 20 := by rw [e15]; exact (va_up_ne _ _ ne_tb_na).trans f_t_tb_s14
  have f_n_tb_s15 : xn s15 tb = (Int32.toNatClampNeg 500) := by rw [e15]; exact (va_up_ne _ _ ne_tb_na).trans f_n_tb_s14
  have f_r_176_p6_s15 : xr s15 176 p6 = some tb := by rw [e15]; exact f_r_176_p6_s14
  have f_r_213_L_s15 : xr s15 213 L = some p6 := by rw [e15]; exact f_r_213_L_s14
  have f_t_p7_s15 : xt s15 p7 = 7 := by rw [e15]; exact (va_up_ne _ _ ne_p7_na).trans f_t_p7_s14
  have f_t_tk_s15 : xt s15 tk = 12 := by rw [e15]; exact (va_up_ne _ _ ne_tk_na).trans f_t_tk_s14
  have f_r_192_tk_s15 : xr s15 192 tk = some p6 := by rw [e15]; exact f_r_192_tk_s14
  have f_r_112_p7_s15 : xr s15 112 p7 = some tk := by rw [e15]; exact f_r_112_p7_s14
  have f_t_ca_s15 : xt s15 ca = 20 := by rw [e15]; exact (va_up_ne _ _ ne_ca_na).trans f_t_ca_s14
  have f_n_ca_s15 : xn s15 ca = (Int32.toNatClampNeg 500) := by rw [e15]; exact (va_up_ne _ _ ne_ca_na).trans f_n_ca_s14
  have f_r_113_p7_s15 : xr s15 113 p7 = some ca := by rw [e15]; exact f_r_113_p7_s14
  have f_r_214_L_s15 : xr s15 214 L = some p7 := by rw [e15]; exact f_r_214_L_s14
  have f_t_p8_s15 : xt s15 p8 = 5 := by rw [e15]; exact (va_up_ne _ _ ne_p8_na).trans f_t_p8_s14
  have f_t_st_s15 : xt s15 st = 20 := by rw [e15]; exact (va_up_ne _ _ ne_st_na).trans f_t_st_s14
  have f_n_st_s15 : xn s15 st = (Int32.toNatClampNeg 33) := by rw [e15]; exact (va_up_ne _ _ ne_st_na).trans f_n_st_s14
  have f_r_80_p8_s15 : xr s15 80 p8 = some st := by rw [e15]; exact f_r_80_p8_s14
  have f_t_na_s15 : xt s15 na = 20 := by rw [e15]; exact va_up_self _ _ _
  have f_n_na_s15 : xn s15 na = (Int32.toNatClampNeg 7) := by rw [e15]; exact va_up_self _ _ _
  have f_t_L_s16 : xt s16 L = 13 := by rw [e16]; exact f_t_L_s15
  have f_t_p6_s16 : xt s16 p6 = 11 := by rw [e16]; exact f_t_p6_s15
  have f_t_tb_s16 : xt s16 tb = 20 := by rw [e16]; exact f_t_tb_s15
  have f_n_tb_s16 : xn s16 tb = (Int32.toNatClampNeg 500) := by rw [e16]; exact f_n_tb_s15
  have f_r_176_p6_s16 : xr s16 176 p6 = some tb := by rw [e16]; exact fg_srX f_r_176_p6_s15 (fun h => absurd h.1 (by decide))
  have f_r_213_L_s16 : xr s16 213 L = some p6 := by rw [e16]; exact fg_srX f_r_213_L_s15 (fun h => absurd h.1 (by decide))
  have f_t_p7_s16 : xt s16 p7 = 7 := by rw [e16]; exact f_t_p7_s15
  have f_t_tk_s16 : xt s16 tk = 12 := by rw [e16]; exact f_t_tk_s15
  have f_r_192_tk_s16 : xr s16 192 tk = some p6 := by rw [e16]; exact fg_srX f_r_192_tk_s15 (fun h => absurd h.1 (by decide))
  have f_r_112_p7_s16 : xr s16 112 p7 = some tk := by rw [e16]; exact fg_srX f_r_112_p7_s15 (fun h => absurd h.1 (by decide))
  have f_t_ca_s16 : xt s16 ca = 20 := by rw [e16]; exact f_t_ca_s15
  have f_n_ca_s16 : xn s16 ca = (Int32.toNatClampNeg 500) := by rw [e16]; exact f_n_ca_s15
  have f_r_113_p7_s16 : xr s16 113 p7 = some ca := by rw [e16]; exact fg_srX f_r_113_p7_s15 (fun h => absurd h.1 (by decide))
  have f_r_214_L_s16 : xr s16 214 L = some p7 := by rw [e16]; exact fg_srX f_r_214_L_s15 (fun h => absurd h.1 (by decide))
  have f_t_p8_s16 : xt s16 p8 = 5 := by rw [e16]; exact f_t_p8_s15
  have f_t_st_s16 : xt s16 st = 20 := by rw [e16]; exact f_t_st_s15
  have f_n_st_s16 : xn s16 st = (Int32.toNatClampNeg 33) := by rw [e16]; exact f_n_st_s15
  have f_r_80_p8_s16 : xr s16 80 p8 = some st := by rw [e16]; exact fg_srX f_r_80_p8_s15 (fun h => absurd h.1 (by decide))
  have f_t_na_s16 : xt s16 na = 20 := by rw [e16]; exact f_t_na_s15
  have f_n_na_s16 : xn s16 na = (Int32.toNatClampNeg 7) := by rw [e16]; exact f_n_na_s15
  have f_r_81_p8_s16 : xr s16 81 p8 = some na := by rw [e16]; exact va_up_self _ _ _
  have f_t_L_s17 : xt s17 L = 13 := by rw [e17]; exact f_t_L_s16
  have f_t_p6_s17 : xt s17 p6 = 11 := by rw [e17]; exact f_t_p6_s16
  have f_t_tb_s17 : xt s17 tb = 20 := by rw [e17]; exact f_t_tb_s16
  have f_n_tb_s17 : xn s17 tb = (Int32.toNatClampNeg 500) := by rw [e17]; exact f_n_tb_s16
  have f_r_176_p6_s17 : xr s17 176 p6 = some tb := by rw [e17]; exact fg_srX f_r_176_p6_s16 (fun h => absurd h.1 (by decide))
  have f_r_213_L_s17 : xr s17 213 L = some p6 := by rw [e17]; exact fg_srX f_r_213_L_s16 (fun h => absurd h.1 (by decide))
  have f_t_p7_s17 : xt s17 p7 = 7 := by rw [e17]; exact f_t_p7_s16
  have f_t_tk_s17 : xt s17 tk = 12 := by rw [e17]; exact f_t_tk_s16
  have f_r_192_tk_s17 : xr s17 192 tk = some p6 := by rw [e17]; exact fg_srX f_r_192_tk_s16 (fun h => absurd h.1 (by decide))
  have f_r_112_p7_s17 : xr s17 112 p7 = some tk := by rw [e17]; exact fg_srX f_r_112_p7_s16 (fun h => absurd h.1 (by decide))
  have f_t_ca_s17 : xt s17 ca = 20 := by rw [e17]; exact f_t_ca_s16
  have f_n_ca_s17 : xn s17 ca = (Int32.toNatClampNeg 500) := by rw [e17]; exact f_n_ca_s16
  have f_r_113_p7_s17 : xr s17 113 p7 = some ca := by rw [e17]; exact fg_srX f_r_113_p7_s16 (fun h => absurd h.1 (by decide))
  have f_r_214_L_s17 : xr s17 214 L = some p7 := by rw [e17]; exact fg_srX f_r_214_L_s16 (fun h => absurd h.1 (by decide))
  have f_t_p8_s17 : xt s17 p8 = 5 := by rw [e17]; exact f_t_p8_s16
  have f_t_st_s17 : xt s17 st = 20 := by rw [e17]; exact f_t_st_s16
  have f_n_st_s17 : xn s17 st = (Int32.toNatClampNeg 33) := by rw [e17]; exact f_n_st_s16
  have f_r_80_p8_s17 : xr s17 80 p8 = some st := by rw [e17]; exact fg_srX f_r_80_p8_s16 (fun h => absurd h.1 (by decide))
  have f_t_na_s17 : xt s17 na = 20 := by rw [e17]; exact f_t_na_s16
  have f_n_na_s17 : xn s17 na = (Int32.toNatClampNeg 7) := by rw [e17]; exact f_n_na_s16
  have f_r_81_p8_s17 : xr s17 81 p8 = some na := by rw [e17]; exact fg_srX f_r_81_p8_s16 (fun h => absurd h.1 (by decide))
  have f_r_215_L_s17 : xr s17 215 L = some p8 := by rw [e17]; exact va_up_self _ _ _
  intro _ _ _ p9 hp9 _ s18 e18 _ s19 e19 s20 e20
  have ne_L_p9 : L ≠ p9 := fun q => by have h := f_t_L_s17; rw [q, hp9] at h; omega
  have ne_p6_p9 : p6 ≠ p9 := fun q => by have h := f_t_p6_s17; rw [q, hp9] at h; omega
  have ne_tb_p9 : tb ≠ p9 := fun q => by have h := f_t_tb_s17; rw [q, hp9] at h; omega
  have ne_p7_p9 : p7 ≠ p9 := fun q => by have h := f_t_p7_s17; rw [q, hp9] at h; omega
  have ne_tk_p9 : tk ≠ p9 := fun q => by have h := f_t_tk_s17; rw [q, hp9] at h; omega
  have ne_ca_p9 : ca ≠ p9 := fun q => by have h := f_t_ca_s17; rw [q, hp9] at h; omega
  have ne_p8_p9 : p8 ≠ p9 := fun q => by have h := f_t_p8_s17; rw [q, hp9] at h; omega
  have ne_st_p9 : st ≠ p9 := fun q => by have h := f_t_st_s17; rw [q, hp9] at h; omega
  have ne_na_p9 : na ≠ p9 := fun q => by have h := f_t_na_s17; rw [q, hp9] at h; omega
  have f_t_L_s18 : xt s18 L = 13 := by rw [e18]; exact (va_up_ne _ _ ne_L_p9).trans f_t_L_s17
  have f_t_p6_s18 : xt s18 p6 = 11 := by rw [e18]; exact (va_up_ne _ _ ne_p6_p9).trans f_t_p6_s17
  have f_t_tb_s18 : xt s18 tb = 20 := by rw [e18]; exact (va_up_ne _ _ ne_tb_p9).trans f_t_tb_s17
  have f_n_tb_s18 : xn s18 tb = (Int32.toNatClampNeg 500) := by rw [e18]; exact (va_up_ne _ _ ne_tb_p9).trans f_n_tb_s17
  have f_r_176_p6_s18 : xr s18 176 p6 = some tb := by rw [e18]; exact f_r_176_p6_s17
  have f_r_213_L_s18 : xr s18 213 L = some p6 := by rw [e18]; exact f_r_213_L_s17
  have f_t_p7_s18 : xt s18 p7 = 7 := by rw [e18]; exact (va_up_ne _ _ ne_p7_p9).trans f_t_p7_s17
  have f_t_tk_s18 : xt s18 tk = 12 := by rw [e18]; exact (va_up_ne _ _ ne_tk_p9).trans f_t_tk_s17
  have f_r_192_tk_s18 : xr s18 192 tk = some p6 := by rw [e18]; exact f_r_192_tk_s17
  have f_r_112_p7_s18 : xr s18 112 p7 = some tk := by rw [e18]; exact f_r_112_p7_s17
  have f_t_ca_s18 : xt s18 ca = 20 := by rw [e18]; exact (va_up_ne _ _ ne_ca_p9).trans f_t_ca_s17
  have f_n_ca_s18 : xn s18 ca = (Int32.toNatClampNeg 500) := by rw [e18]; exact (va_up_ne _ _ ne_ca_p9).trans f_n_ca_s17
  have f_r_113_p7_s18 : xr s18 113 p7 = some ca := by rw [e18]; exact f_r_113_p7_s17
  have f_r_214_L_s18 : xr s18 214 L = some p7 := by rw [e18]; exact f_r_214_L_s17
  have f_t_p8_s18 : xt s18 p8 = 5 := by rw [e18]; exact (va_up_ne _ _ ne_p8_p9).trans f_t_p8_s17
  have f_t_st_s18 : xt s18 st = 20 := by rw [e18]; exact (va_up_ne _ _ ne_st_p9).trans f_t_st_s17
  have f_n_st_s18 : xn s18 st = (Int32.toNatClampNeg 33) := by rw [e18]; exact (va_up_ne _ _ ne_st_p9).trans f_n_st_s17
  have f_r_80_p8_s18 : xr s18 80 p8 = some st := by rw [e18]; exact f_r_80_p8_s17
  have f_t_na_s18 : xt s18 na = 20 := by rw [e18]; exact (va_up_ne _ _ ne_na_p9).trans f_t_na_s17
  have f_n_na_s18 : xn s18 na = (Int32.toNatClampNeg 7) := by rw [e18]; exact (va_up_ne _ _ ne_na_p9).trans f_n_na_s17
  have f_r_81_p8_s18 : xr s18 81 p8 = some na := by rw [e18]; exact f_r_81_p8_s17
  have f_r_215_L_s18 : xr s18 215 L = some p8 := by rw [e18]; exact f_r_215_L_s17
  have f_t_p9_s18 : xt s18 p9 = 21 := by rw [e18]; exact va_up_self _ _ _
  have f_n_p9_s18 : xn s18 p9 = (Int32.toNatClampNeg 16) := by rw [e18]; exact va_up_self _ _ _
  have f_t_L_s19 : xt s19 L = 13 := by rw [e19]; exact f_t_L_s18
  have f_t_p6_s19 : xt s19 p6 = 11 := by rw [e19]; exact f_t_p6_s18
  have f_t_tb_s19 : xt s19 tb = 20 := by rw [e19]; exact f_t_tb_s18
  have f_n_tb_s19 : xn s19 tb = (Int32.toNatClampNeg 500) := by rw [e19]; exact f_n_tb_s18
  have f_r_176_p6_s19 : xr s19 176 p6 = some tb := by rw [e19]; exact fg_srX f_r_176_p6_s18 (fun h => absurd h.1 (by decide))
  have f_r_213_L_s19 : xr s19 213 L = some p6 := by rw [e19]; exact fg_srX f_r_213_L_s18 (fun h => absurd h.1 (by decide))
  have f_t_p7_s19 : xt s19 p7 = 7 := by rw [e19]; exact f_t_p7_s18
  have f_t_tk_s19 : xt s19 tk = 12 := by rw [e19]; exact f_t_tk_s18
  have f_r_192_tk_s19 : xr s19 192 tk = some p6 := by rw [e19]; exact fg_srX f_r_192_tk_s18 (fun h => absurd h.1 (by decide))
  have f_r_112_p7_s19 : xr s19 112 p7 = some tk := by rw [e19]; exact fg_srX f_r_112_p7_s18 (fun h => absurd h.1 (by decide))
  have f_t_ca_s19 : xt s19 ca = 20 := by rw [e19]; exact f_t_ca_s18
  have f_n_ca_s19 : xn s19 ca = (Int32.toNatClampNeg 500) := by rw [e19]; exact f_n_ca_s18
  have f_r_113_p7_s19 : xr s19 113 p7 = some ca := by rw [e19]; exact fg_srX f_r_113_p7_s18 (fun h => absurd h.1 (by decide))
  have f_r_214_L_s19 : xr s19 214 L = some p7 := by rw [e19]; exact fg_srX f_r_214_L_s18 (fun h => absurd h.1 (by decide))
  have f_t_p8_s19 : xt s19 p8 = 5 := by rw [e19]; exact f_t_p8_s18
  have f_t_st_s19 : xt s19 st = 20 := by rw [e19]; exact f_t_st_s18
  have f_n_st_s19 : xn s19 st = (Int32.toNatClampNeg 33) := by rw [e19]; exact f_n_st_s18
  have f_r_80_p8_s19 : xr s19 80 p8 = some st := by rw [e19]; exact fg_srX f_r_80_p8_s18 (fun h => absurd h.1 (by decide))
  have f_t_na_s19 : xt s19 na = 20 := by rw [e19]; exact f_t_na_s18
  have f_n_na_s19 : xn s19 na = (Int32.toNatClampNeg 7) := by rw [e19]; exact f_n_na_s18
  have f_r_81_p8_s19 : xr s19 81 p8 = some na := by rw [e19]; exact fg_srX f_r_81_p8_s18 (fun h => absurd h.1 (by decide))
  have f_r_215_L_s19 : xr s19 215 L = some p8 := by rw [e19]; exact fg_srX f_r_215_L_s18 (fun h => absurd h.1 (by decide))
  have f_t_p9_s19 : xt s19 p9 = 21 := by rw [e19]; exact f_t_p9_s18
  have f_n_p9_s19 : xn s19 p9 = (Int32.toNatClampNeg 16) := by rw [e19]; exact f_n_p9_s18
  have f_r_216_L_s19 : xr s19 216 L = some p9 := by rw [e19]; exact va_up_self _ _ _
  have f_t_L_s20 : xt s20 L = 13 := by rw [e20]; exact f_t_L_s19
  have f_t_p6_s20 : xt s20 p6 = 11 := by rw [e20]; exact f_t_p6_s19
  have f_t_tb_s20 : xt s20 tb = 20 := by rw [e20]; exact f_t_tb_s19
  have f_n_tb_s20 : xn s20 tb = (Int32.toNatClampNeg 500) := by rw [e20]; exact f_n_tb_s19
  have f_r_176_p6_s20 : xr s20 176 p6 = some tb := by rw [e20]; exact f_r_176_p6_s19
  have f_r_213_L_s20 : xr s20 213 L = some p6 := by rw [e20]; exact f_r_213_L_s19
  have f_t_p7_s20 : xt s20 p7 = 7 := by rw [e20]; exact f_t_p7_s19
  have f_t_tk_s20 : xt s20 tk = 12 := by rw [e20]; exact f_t_tk_s19
  have f_r_192_tk_s20 : xr s20 192 tk = some p6 := by rw [e20]; exact f_r_192_tk_s19
  have f_r_112_p7_s20 : xr s20 112 p7 = some tk := by rw [e20]; exact f_r_112_p7_s19
  have f_t_ca_s20 : xt s20 ca = 20 := by rw [e20]; exact f_t_ca_s19
  have f_n_ca_s20 : xn s20 ca = (Int32.toNatClampNeg 500) := by rw [e20]; exact f_n_ca_s19
  have f_r_113_p7_s20 : xr s20 113 p7 = some ca := by rw [e20]; exact f_r_113_p7_s19
  have f_r_214_L_s20 : xr s20 214 L = some p7 := by rw [e20]; exact f_r_214_L_s19
  have f_t_p8_s20 : xt s20 p8 = 5 := by rw [e20]; exact f_t_p8_s19
  have f_t_st_s20 : xt s20 st = 20 := by rw [e20]; exact f_t_st_s19
  have f_n_st_s20 : xn s20 st = (Int32.toNatClampNeg 33) := by rw [e20]; exact f_n_st_s19
  have f_r_80_p8_s20 : xr s20 80 p8 = some st := by rw [e20]; exact f_r_80_p8_s19
  have f_t_na_s20 : xt s20 na = 20 := by rw [e20]; exact f_t_na_s19
  have f_n_na_s20 : xn s20 na = (Int32.toNatClampNeg 7) := by rw [e20]; exact f_n_na_s19
  have f_r_81_p8_s20 : xr s20 81 p8 = some na := by rw [e20]; exact f_r_81_p8_s19
  have f_r_215_L_s20 : xr s20 215 L = some p8 := by rw [e20]; exact f_r_215_L_s19
  have f_t_p9_s20 : xt s20 p9 = 21 := by rw [e20]; exact f_t_p9_s19
  have f_n_p9_s20 : xn s20 p9 = (Int32.toNatClampNeg 16) := by rw [e20]; exact f_n_p9_s19
  have f_r_216_L_s20 : xr s20 216 L = some p9 := by rw [e20]; exact f_r_216_L_s19
  refine ⟨p6, tb, p7, tk, ca, p8, st, na, ⟨f_r_213_L_s20, f_r_214_L_s20, f_r_215_L_s20⟩, ⟨f_r_112_p7_s20, f_r_113_p7_s20, f_r_192_tk_s20, f_r_176_p6_s20⟩, ⟨f_t_tk_s20, f_t_ca_s20, f_t_tb_s20, f_n_ca_s20, f_n_tb_s20⟩, ⟨ne_tb_ca, ne_tb_st, ne_tb_na, ne_ca_st, ne_ca_na⟩, ⟨⟨f_r_80_p8_s20, f_r_81_p8_s20, f_n_st_s20, f_n_na_s20, ne_st_na⟩, f_t_p8_s20, f_t_st_s20, f_t_na_s20⟩, ?_⟩
  rw [e20]
  exact va_up_self _ _ _
/-- nothing counted yet, and every byte nought -/
def z0_ (u : kx_S) : Prop := (∀ x, xi u 18 x = 0) ∧ (∀ x, xi u 218 x = 0) ∧ ∀ x i, xai u x i = 0
theorem va0 {F : Nat → Int32} {p x : Nat} (h : F x = 0) : va_up F p 0 x = 0 := by
  by_cases c : x = p
  · rw [c, va_up_self]
  · rw [va_up_ne _ _ c]
    exact h
theorem z0_fw {W : List Nat} (hW : ∀ f ∈ W, f ≠ 18 ∧ f ≠ 218 ∧ f ≠ 1001 ∧ f ≠ 1004) : fw_ z0_ W := by
  intro u h
  obtain ⟨h1, h2, h3⟩ := h
  refine ⟨fun f hf => ⟨fun b v => ⟨fun x => ?_, fun x => ?_, h3⟩, fun b v => ⟨h1, h2, h3⟩, fun b v => ⟨h1, h2, h3⟩⟩, fun q => absurd rfl (hW _ q).2.2.1, fun _ _ _ _ => ⟨h1, h2, h3⟩, fun _ => ⟨fun _ _ _ => ⟨h1, h2, h3⟩, fun _ _ => ⟨h1, h2, h3⟩⟩, fun q => absurd rfl (hW _ q).2.2.2, fun _ => ⟨h1, h2, h3⟩, fun t _ p hp => ⟨fun x => va0 (h1 x), fun x => va0 (h2 x), h3⟩, fun t _ p hp n => ⟨h1, h2, fun x i => ?_⟩⟩
  · refine Eq.trans ?_ (h1 x)
    show (if 18 = f then va_up (u.2.1 f) b v else u.2.1 18) x = u.2.1 18 x
    rw [if_neg (fun e => (hW f hf).1 e.symm)]
  · refine Eq.trans ?_ (h2 x)
    show (if 218 = f then va_up (u.2.1 f) b v else u.2.1 218) x = u.2.1 218 x
    rw [if_neg (fun e => (hW f hf).2.1 e.symm)]
  · show va_up u.2.2.2.2.2.1 p (fun _ => 0) x i = 0
    by_cases c : x = p
    · rw [c, va_up_self]
    · rw [va_up_ne _ _ c]
      exact h3 x i
def A0w_ (w : wt_T) : fu_T := ((fun _ _ => 0, fun _ => []), w, (0, fun _ => 0, fun _ => []), fun _ => 0, -1)
theorem K0_ {w : wt_T} (h : w_ok 0 w) : fKn_ 0 0 0 0 (A0w_ w) := by
  have n : ∀ r : Nat, ¬ r < 0 := Nat.not_lt_zero
  refine ⟨⟨⟨⟨fun r hr => absurd hr (n r), fun k g hg => absurd hg (List.not_mem_nil), fun k => List.nodup_nil, fun r c hr => absurd hr (n r), fun r hr => absurd hr (n r), fun g hg => absurd hg (n g)⟩, ⟨fun j _ => Nat.zero_le _, fun j _ => Nat.zero_le _⟩, fun r hr => absurd hr (n r)⟩, fun x _ => by show ¬ (0 : Int32) = 1; decide, ⟨by decide, fun k hk => absurd hk (n k)⟩⟩, ⟨fun r _ _ => rfl, fun x _ => rfl, fun r c _ _ _ => ⟨rfl, rfl⟩, fun r _ => ⟨rfl, rfl, rfl⟩⟩, h, ⟨Nat.zero_le _, fun l hl => absurd hl (n l)⟩, fun i _ => by show ¬ (0 : Int32) = -1; decide⟩
theorem vk_0 {a : ra_T} {k : Nat} (h : vk_ 0 a k) : False := by
  rcases h with ⟨r, c, h1, _⟩ | ⟨r, h1, _⟩
  · exact Nat.not_lt_zero r h1
  · exact Nat.not_lt_zero r h1
theorem C0_ {q O : Nat} {w : wt_T} {u : kx_S} (Z : yZ_ 0 s0_ q O u) (V : ∃ p6 tb p7 tk ca p8 st na, (xr u 213 q = some p6 ∧ xr u 214 q = some p7 ∧ xr u 215 q = some p8) ∧ (xr u 112 p7 = some tk ∧ xr u 113 p7 = some ca ∧ xr u 192 tk = some p6 ∧ xr u 176 p6 = some tb) ∧ (xt u tk = 12 ∧ xt u ca = 20 ∧ xt u tb = 20 ∧ xn u ca = 500 ∧ xn u tb = 500) ∧ (tb ≠ ca ∧ tb ≠ st ∧ tb ≠ na ∧ ca ≠ st ∧ ca ≠ na) ∧ qj_ p8 st na u ∧ xi u 219 q = -1) (z : z0_ u) (hV : Yw_ 0 w q u) : fCn_ 0 0 0 0 (A0w_ w) q u := by
  obtain ⟨g, κ, B, n, eg, eO, J, hn, hB⟩ := Z
  obtain ⟨p6, tb, p7, tk, ca, p8, st, na, ⟨v1, v2, v3⟩, v4, v5, v6, v7, v8⟩ := V
  subst eg
  obtain rfl := Option.some.inj ((yg6 J).1.symm.trans v1)
  obtain rfl := Option.some.inj ((yg7 J).1.symm.trans v2)
  obtain rfl := Option.some.inj ((yg8 J).1.symm.trans v3)
  obtain ⟨z1, z2, z3⟩ := z
  have nn : ∀ r : Nat, ¬ r < 0 := Nat.not_lt_zero
  have s0 : ∀ x, (xi u 18 x).toInt = ((0 : Nat) : Int) := fun x => by rw [z1]; rfl
  refine ⟨g, fun _ _ => 0, fun _ => 0, st, na, tk, ca, tb, gG_fr J (fun _ _ => rfl), fun r hr => absurd hr (nn r), ⟨⟨fun k hk => (vk_0 hk).elim, fun r c hr => absurd hr (nn r), fun r hr => absurd hr (nn r), fun r hr => absurd hr (nn r)⟩, ⟨s0 _, fun r hr => absurd hr (nn r)⟩, fun r hr => absurd hr (nn r), fun k hk => (vk_0 hk).elim, ⟨s0 _, fun r hr => absurd hr (nn r)⟩, ⟨s0 _, Nat.zero_le _, fun r hr => absurd hr (nn r)⟩, v7, ⟨s0 _, Nat.zero_le _, fun r hr => absurd hr (nn r), fun r hr => absurd hr (nn r)⟩, z2 _, ⟨s0 _, Nat.zero_le _, fun r hr => absurd hr (nn r)⟩⟩, ⟨v4, v5, v6, fun i hi => absurd hi (nn i), fun i _ => z3 tb i, v8⟩, hV⟩
