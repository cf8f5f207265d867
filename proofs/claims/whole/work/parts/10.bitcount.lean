-- Long.bitCount counts the bits
def cj_tb (x : Int64) (i : Nat) : Bool := x.toBitVec.getLsbD i
def cj_pop (x : Int64) : Nat := cj_cnt (cj_tb x) 64
theorem cj_tb_lN (N i : Nat) : cj_tb (lN N) i = (decide (i < 64) && N.testBit i) := by
  show (BitVec.ofNat 64 N).getLsbD i = _
  rw [BitVec.getLsbD_ofNat]
theorem cj_pop_lN {N : Nat} : cj_pop (lN N) = cj_cnt N.testBit 64 := cj_cnt_congr (fun i hi => by rw [cj_tb_lN]; simp [hi])
theorem cj_shrN {n : Nat} (k c : Nat) (hn : n < 2 ^ 64) (hk : k < 64) (hc : 2 ^ k = c) : ((lN n).toUInt64 >>> ((nI k).toInt64.toUInt64 &&& Int64.toUInt64 63)).toInt64 = lN (n / c) := by
  rw [← hc]
  exact wb_shr hn hk
theorem cj_last7 (t : Nat) : (lN t).toInt32 &&& nI 127 = nI (t % 128) := by
  rw [lN_i, pk_and (nI t) 7 (by decide)]
  have : (nI t).toBitVec.toNat = t % 2 ^ 32 := by
    show (BitVec.ofNat 32 t).toNat = _
    rw [BitVec.toNat_ofNat]
  rw [this]
  congr 1
  omega
theorem cj_s1le (n m : Nat) : cj_s1 n m ≤ n := Nat.sub_le _ _
theorem cj_s2le (n m : Nat) : cj_s2 n m ≤ m + m := Nat.add_le_add Nat.and_le_right Nat.and_le_right
theorem cj_s3le (n m : Nat) : cj_s3 n m ≤ m := Nat.and_le_right
set_option maxRecDepth 100000 in
set_option maxHeartbeats 4000000 in
theorem c_J_bitCount (l : Launch) (D : va_G) (kd : Nat → ClassId) (w0 : va_W) (x : Int64) : cj_Mi (S := Unit) l yJ_bitCount cJ_bitCount 2 (some .int) 0 D kd [.long x] w0 (fun r _ => r = nI (cj_pop x)) (fun _ => w0) := by
  refine cj_ofi (by decide) (Nat.le_of_ble_eq_true rfl) ?_
  intro p e s m below meth c A ls X hr V hl
  obtain ⟨⟨hx, hb, hml, hown, hts⟩, hK, hlk⟩ := id X
  have hl : lv_has ls 2 [(0, .long x)] := hl
  obtain ⟨N, hN, rfl⟩ := wb_of x
  refine lv_lload_n hx hb dJ_bitCount_0 rfl (lv_at hl 0 rfl) ?_
  refine lv_lload_n hx hb dJ_bitCount_1 rfl (lv_at hl 0 rfl) ?_
  refine lv_iconst (v := nI 1) hx hb dJ_bitCount_2 (by decide) ?_
  refine lv_lushr hx hb dJ_bitCount_3 (cj_shrN 1 2 hN (by decide) rfl) ?_
  refine lv_ldc2 hx hb hown (hts _ kl_J_314) dJ_bitCount_4 ?_
  refine cj_tl (z := lN 0x5555555555555555) (by decide) ?_
  refine lv_land hx hb dJ_bitCount_7 ?_
  refine cj_tl (wb_and (by omega) (by decide)) ?_
  refine lv_lsub hx hb dJ_bitCount_8 ?_
  refine cj_tl (z := lN (cj_s1 N 0x5555555555555555)) (lN_sub (Nat.le_trans Nat.and_le_left (Nat.div_le_self _ _))) ?_
  have h1 : cj_s1 N 0x5555555555555555 < 2 ^ 64 := Nat.lt_of_le_of_lt (cj_s1le _ _) hN
  generalize e1 : cj_s1 N 0x5555555555555555 = v1 at h1 ⊢
  refine lv_lstore_n (lv' := [(0, .long (lN v1))]) hx hb dJ_bitCount_9 rfl hl (by decide) rfl (fun ls hl => ?_)
  refine lv_lload_n hx hb dJ_bitCount_10 rfl (lv_at hl 0 rfl) ?_
  refine lv_ldc2 hx hb hown (hts _ kl_J_316) dJ_bitCount_11 ?_
  refine cj_tl (z := lN 0x3333333333333333) (by decide) ?_
  refine lv_land hx hb dJ_bitCount_14 ?_
  refine cj_tl (wb_and h1 (by decide)) ?_
  refine lv_lload_n hx hb dJ_bitCount_15 rfl (lv_at hl 0 rfl) ?_
  refine lv_iconst (v := nI 2) hx hb dJ_bitCount_16 (by decide) ?_
  refine lv_lushr hx hb dJ_bitCount_17 (cj_shrN 2 4 h1 (by decide) rfl) ?_
  refine lv_ldc2 hx hb hown (hts _ kl_J_316) dJ_bitCount_18 ?_
  refine cj_tl (z := lN 0x3333333333333333) (by decide) ?_
  refine lv_land hx hb dJ_bitCount_21 ?_
  refine cj_tl (wb_and (by omega) (by decide)) ?_
  refine lv_ladd hx hb dJ_bitCount_22 ?_
  refine cj_tl (z := lN (cj_s2 v1 0x3333333333333333)) (lN_add _ _) ?_
  have h2 : cj_s2 v1 0x3333333333333333 ≤ 0x6666666666666666 := cj_s2le _ _
  generalize e2 : cj_s2 v1 0x3333333333333333 = v2 at h2 ⊢
  refine lv_lstore_n (lv' := [(0, .long (lN v2))]) hx hb dJ_bitCount_23 rfl hl (by decide) rfl (fun ls hl => ?_)
  refine lv_lload_n hx hb dJ_bitCount_24 rfl (lv_at hl 0 rfl) ?_
  refine lv_lload_n hx hb dJ_bitCount_25 rfl (lv_at hl 0 rfl) ?_
  refine lv_iconst (v := nI 4) hx hb dJ_bitCount_26 (by decide) ?_
  refine lv_lushr hx hb dJ_bitCount_27 (cj_shrN 4 16 (by omega) (by decide) rfl) ?_
  refine lv_ladd hx hb dJ_bitCount_28 ?_
  refine cj_tl (lN_add _ _) ?_
  refine lv_ldc2 hx hb hown (hts _ kl_J_318) dJ_bitCount_29 ?_
  refine cj_tl (z := lN 0x0f0f0f0f0f0f0f0f) (by decide) ?_
  refine lv_land hx hb dJ_bitCount_32 ?_
  refine cj_tl (z := lN (cj_s3 v2 0x0f0f0f0f0f0f0f0f)) (wb_and (by omega) (by decide)) ?_
  have h3 : cj_s3 v2 0x0f0f0f0f0f0f0f0f ≤ 0x0f0f0f0f0f0f0f0f := cj_s3le _ _
  generalize e3 : cj_s3 v2 0x0f0f0f0f0f0f0f0f = v3 at h3 ⊢
  refine lv_lstore_n (lv' := [(0, .long (lN v3))]) hx hb dJ_bitCount_33 rfl hl (by decide) rfl (fun ls hl => ?_)
  refine lv_lload_n hx hb dJ_bitCount_34 rfl (lv_at hl 0 rfl) ?_
  refine lv_lload_n hx hb dJ_bitCount_35 rfl (lv_at hl 0 rfl) ?_
  refine lv_bipush (v := nI 8) hx hb dJ_bitCount_36 (by decide) ?_
  refine lv_lushr hx hb dJ_bitCount_38 (cj_shrN 8 256 (by omega) (by decide) rfl) ?_
  refine lv_ladd hx hb dJ_bitCount_39 ?_
  refine cj_tl (lN_add _ _) ?_
  generalize e4 : v3 + v3 / 256 = v4
  refine lv_lstore_n (lv' := [(0, .long (lN v4))]) hx hb dJ_bitCount_40 rfl hl (by decide) rfl (fun ls hl => ?_)
  refine lv_lload_n hx hb dJ_bitCount_41 rfl (lv_at hl 0 rfl) ?_
  refine lv_lload_n hx hb dJ_bitCount_42 rfl (lv_at hl 0 rfl) ?_
  refine lv_bipush (v := nI 16) hx hb dJ_bitCount_43 (by decide) ?_
  refine lv_lushr hx hb dJ_bitCount_45 (cj_shrN 16 65536 (by omega) (by decide) rfl) ?_
  refine lv_ladd hx hb dJ_bitCount_46 ?_
  refine cj_tl (lN_add _ _) ?_
  generalize e5 : v4 + v4 / 65536 = v5
  refine lv_lstore_n (lv' := [(0, .long (lN v5))]) hx hb dJ_bitCount_47 rfl hl (by decide) rfl (fun ls hl => ?_)
  refine lv_lload_n hx hb dJ_bitCount_48 rfl (lv_at hl 0 rfl) ?_
  refine lv_lload_n hx hb dJ_bitCount_49 rfl (lv_at hl 0 rfl) ?_
  refine lv_bipush (v := nI 32) hx hb dJ_bitCount_50 (by decide) ?_
  refine lv_lushr hx hb dJ_bitCount_52 (cj_shrN 32 4294967296 (by omega) (by decide) rfl) ?_
  refine lv_ladd hx hb dJ_bitCount_53 ?_
  refine cj_tl (lN_add _ _) ?_
  generalize e6 : v5 + v5 / 4294967296 = v6
  refine lv_lstore_n (lv' := [(0, .long (lN v6))]) hx hb dJ_bitCount_54 rfl hl (by decide) rfl (fun ls hl => ?_)
  refine lv_lload_n hx hb dJ_bitCount_55 rfl (lv_at hl 0 rfl) ?_
  refine lv_l2i hx hb dJ_bitCount_56 rfl ?_
  refine lv_bipush (v := nI 127) hx hb dJ_bitCount_57 (by decide) ?_
  refine lv_iand hx hb dJ_bitCount_59 ?_
  refine cj_ti (cj_last7 _) ?_
  refine cj_reti () X hr V ?_ dJ_bitCount_60
  show nI (v6 % 128) = nI (cj_pop (lN N))
  rw [cj_pop_lN, ← (cj_swar N hN).1]
  unfold cj_all cj_fold
  rw [e1, e2, e3]
  dsimp only
  rw [e4, e5, e6]
