set_option maxRecDepth 100000 in
theorem bo_J9_max_f86c9 (l : Launch) : ∀ q ∈ bt_J9_max_f86c9, bz_rw bz_P l bm_J9_max_f86c9 q := by
  refine bz_ac (show bz_ok RJ9 cJ9_max_f86c9 0 (bz_lload 0 1) from bz_o_lload_n (k := 0) (i := 0) (by decide +kernel) rfl) ?_
  refine bz_ac (show bz_ok RJ9 cJ9_max_f86c9 1 (bz_lload 2 1) from bz_o_lload_n (k := 2) (i := 2) (by decide +kernel) rfl) ?_
  refine bz_ac (show bz_ok RJ9 cJ9_max_f86c9 2 (bz_lcmp) from bz_o_lcmp (by decide +kernel)) ?_
  refine bz_ac (show bz_ok RJ9 cJ9_max_f86c9 3 (bz_if_lt 10) from bz_o_if_lt (off := 7) (t := 10) (by decide +kernel) (by decide)) ?_
  refine bz_ac (show bz_ok RJ9 cJ9_max_f86c9 6 (bz_lload 0 1) from bz_o_lload_n (k := 0) (i := 0) (by decide +kernel) rfl) ?_
  refine bz_ac (show bz_ok RJ9 cJ9_max_f86c9 7 (bz_goto 11) from bz_o_goto (off := 4) (t := 11) (by decide +kernel) (by decide)) ?_
  refine bz_ac (show bz_ok RJ9 cJ9_max_f86c9 10 (bz_lload 2 1) from bz_o_lload_n (k := 2) (i := 2) (by decide +kernel) rfl) ?_
  refine bz_ac (show bz_rok cJ9_max_f86c9 (some .long) 11 2 from Or.inr (Or.inr (Or.inl ⟨rfl, rfl, by decide +kernel⟩))) ?_
  exact bz_an
set_option maxRecDepth 100000 in
theorem bo_X10_match (l : Launch) : ∀ q ∈ bt_X10_match, bz_rw bz_P l bm_X10_match q := by
  refine bz_ac (show bz_ok RX10 cX10_match 0 (bz_iload 1 1) from bz_o_iload_n (k := 1) (i := 1) (by decide +kernel) rfl) ?_
  refine bz_ac (show bz_ok RX10 cX10_match 1 (bz_push (.int 1) 1) from bz_o_iconst (n := 1) (v := 1) (by decide +kernel) (by decide)) ?_
  refine bz_ac (show bz_ok RX10 cX10_match 2 (bz_push (.int 8) 2) from bz_o_bipush (n := 8) (v := 8) (by decide +kernel) (by decide)) ?_
  refine bz_ac (show bz_cok bz_P l RX10 cX10_match 2 50 4 mX10_isWithin 3 0 from bz_cS' (own := RX10) (idx := 83) (n := 3) bp_X10_isWithin bq_X10_isWithin (by decide +kernel) (bz_tb 322 (by decide +kernel) (by decide +kernel)) (bz_tb 323 (by decide +kernel) (by decide +kernel)) rfl (by decide) (by decide)) ?_
  refine bz_ac (show bz_ok RX10 cX10_match 7 (bz_if_eq 67) from bz_o_if_eq (off := 60) (t := 67) (by decide +kernel) (by decide)) ?_
  refine bz_ac (show bz_ok RX10 cX10_match 10 (bz_iload 2 1) from bz_o_iload_n (k := 2) (i := 2) (by decide +kernel) rfl) ?_
  refine bz_ac (show bz_ok RX10 cX10_match 11 (bz_push (.int 0) 1) from bz_o_iconst (n := 0) (v := 0) (by decide +kernel) (by decide)) ?_
  refine bz_ac (show bz_ok RX10 cX10_match 12 (bz_push (.int 10) 2) from bz_o_bipush (n := 10) (v := 10) (by decide +kernel) (by decide)) ?_
  refine bz_ac (show bz_cok bz_P l RX10 cX10_match 2 50 14 mX10_isWithin 3 0 from bz_cS' (own := RX10) (idx := 83) (n := 3) bp_X10_isWithin bq_X10_isWithin (by decide +kernel) (bz_tb 322 (by decide +kernel) (by decide +kernel)) (bz_tb 323 (by decide +kernel) (by decide +kernel)) rfl (by decide) (by decide)) ?_
  refine bz_ac (show bz_ok RX10 cX10_match 17 (bz_if_eq 67) from bz_o_if_eq (off := 50) (t := 67) (by decide +kernel) (by decide)) ?_
  refine bz_ac (show bz_ok RX10 cX10_match 20 (bz_iload 3 1) from bz_o_iload_n (k := 3) (i := 3) (by decide +kernel) rfl) ?_
  refine bz_ac (show bz_ok RX10 cX10_match 21 (bz_push (.int 0) 1) from bz_o_iconst (n := 0) (v := 0) (by decide +kernel) (by decide)) ?_
  refine bz_ac (show bz_ok RX10 cX10_match 22 (bz_iload 1 1) from bz_o_iload_n (k := 1) (i := 1) (by decide +kernel) rfl) ?_
  refine bz_ac (show bz_ok RX10 cX10_match 23 (bz_push (.int 1) 1) from bz_o_iconst (n := 1) (v := 1) (by decide +kernel) (by decide)) ?_
  refine bz_ac (show bz_ok RX10 cX10_match 24 (bz_isub) from bz_o_isub (by decide +kernel)) ?_
  refine bz_ac (show bz_cok bz_P l RX10 cX10_match 2 50 25 mX10_isWithin 3 0 from bz_cS' (own := RX10) (idx := 83) (n := 3) bp_X10_isWithin bq_X10_isWithin (by decide +kernel) (bz_tb 322 (by decide +kernel) (by decide +kernel)) (bz_tb 323 (by decide +kernel) (by decide +kernel)) rfl (by decide) (by decide)) ?_
  refine bz_ac (show bz_ok RX10 cX10_match 28 (bz_if_eq 67) from bz_o_if_eq (off := 39) (t := 67) (by decide +kernel) (by decide)) ?_
  refine bz_ac (show bz_ok RX10 cX10_match 31 (bz_iload 4 2) from bz_o_iload (i := 4) (by decide +kernel)) ?_
  refine bz_ac (show bz_ok RX10 cX10_match 33 (bz_push (.int 0) 1) from bz_o_iconst (n := 0) (v := 0) (by decide +kernel) (by decide)) ?_
  refine bz_ac (show bz_ok RX10 cX10_match 34 (bz_iload 1 1) from bz_o_iload_n (k := 1) (i := 1) (by decide +kernel) rfl) ?_
  refine bz_ac (show bz_ok RX10 cX10_match 35 (bz_push (.int 1) 1) from bz_o_iconst (n := 1) (v := 1) (by decide +kernel) (by decide)) ?_
  refine bz_ac (show bz_ok RX10 cX10_match 36 (bz_isub) from bz_o_isub (by decide +kernel)) ?_
  refine bz_ac (show bz_cok bz_P l RX10 cX10_match 2 50 37 mX10_isWithin 3 0 from bz_cS' (own := RX10) (idx := 83) (n := 3) bp_X10_isWithin bq_X10_isWithin (by decide +kernel) (bz_tb 322 (by decide +kernel) (by decide +kernel)) (bz_tb 323 (by decide +kernel) (by decide +kernel)) rfl (by decide) (by decide)) ?_
  refine bz_ac (show bz_ok RX10 cX10_match 40 (bz_if_eq 67) from bz_o_if_eq (off := 27) (t := 67) (by decide +kernel) (by decide)) ?_
  refine bz_ac (show bz_ok RX10 cX10_match 43 (bz_iload 5 2) from bz_o_iload (i := 5) (by decide +kernel)) ?_
  refine bz_ac (show bz_ok RX10 cX10_match 45 (bz_push (.int 0) 1) from bz_o_iconst (n := 0) (v := 0) (by decide +kernel) (by decide)) ?_
  refine bz_ac (show bz_ok RX10 cX10_match 46 (bz_push (.int 1) 1) from bz_o_iconst (n := 1) (v := 1) (by decide +kernel) (by decide)) ?_
  refine bz_ac (show bz_cok bz_P l RX10 cX10_match 2 50 47 mX10_isWithin 3 0 from bz_cS' (own := RX10) (idx := 83) (n := 3) bp_X10_isWithin bq_X10_isWithin (by decide +kernel) (bz_tb 322 (by decide +kernel) (by decide +kernel)) (bz_tb 323 (by decide +kernel) (by decide +kernel)) rfl (by decide) (by decide)) ?_
  refine bz_ac (show bz_ok RX10 cX10_match 50 (bz_if_eq 67) from bz_o_if_eq (off := 17) (t := 67) (by decide +kernel) (by decide)) ?_
  refine bz_ac (show bz_ok RX10 cX10_match 53 (bz_iload 6 2) from bz_o_iload (i := 6) (by decide +kernel)) ?_
  refine bz_ac (show bz_ok RX10 cX10_match 55 (bz_push (.int 0) 1) from bz_o_iconst (n := 0) (v := 0) (by decide +kernel) (by decide)) ?_
  refine bz_ac (show bz_ok RX10 cX10_match 56 (bz_push (.int 1) 1) from bz_o_iconst (n := 1) (v := 1) (by decide +kernel) (by decide)) ?_
  refine bz_ac (show bz_cok bz_P l RX10 cX10_match 2 50 57 mX10_isWithin 3 0 from bz_cS' (own := RX10) (idx := 83) (n := 3) bp_X10_isWithin bq_X10_isWithin (by decide +kernel) (bz_tb 322 (by decide +kernel) (by decide +kernel)) (bz_tb 323 (by decide +kernel) (by decide +kernel)) rfl (by decide) (by decide)) ?_
  refine bz_ac (show bz_ok RX10 cX10_match 60 (bz_if_eq 67) from bz_o_if_eq (off := 7) (t := 67) (by decide +kernel) (by decide)) ?_
  refine bz_ac (show bz_ok RX10 cX10_match 63 (bz_push (.int 1) 1) from bz_o_iconst (n := 1) (v := 1) (by decide +kernel) (by decide)) ?_
  refine bz_ac (show bz_ok RX10 cX10_match 64 (bz_goto 68) from bz_o_goto (off := 4) (t := 68) (by decide +kernel) (by decide)) ?_
  refine bz_ac (show bz_ok RX10 cX10_match 67 (bz_push (.int 0) 1) from bz_o_iconst (n := 0) (v := 0) (by decide +kernel) (by decide)) ?_
  refine bz_ac (show bz_ok RX10 cX10_match 68 (bz_istore 7 2) from bz_o_istore (i := 7) (by decide +kernel)) ?_
  refine bz_ac (show bz_ok RX10 cX10_match 70 (bz_iload 7 2) from bz_o_iload (i := 7) (by decide +kernel)) ?_
  refine bz_ac (show bz_ok RX10 cX10_match 72 (bz_if_ne 79) from bz_o_if_ne (off := 7) (t := 79) (by decide +kernel) (by decide)) ?_
  refine bz_ac (show bz_ok RX10 cX10_match 75 (bz_push (.long (-1000000000000000002)) 3) from bz_o_ldc2 (own := RX10) (i := 228) (v := (-1000000000000000002)) (by decide +kernel) (bz_tb 612 (by decide +kernel) (by decide +kernel))) ?_
  refine bz_ac (show bz_rok cX10_match (some .long) 78 2 from Or.inr (Or.inr (Or.inl ⟨rfl, rfl, by decide +kernel⟩))) ?_
  refine bz_ac (show bz_ok RX10 cX10_match 79 (bz_iload 1 1) from bz_o_iload_n (k := 1) (i := 1) (by decide +kernel) rfl) ?_
  refine bz_ac (show bz_ok RX10 cX10_match 80 (bz_iload 3 1) from bz_o_iload_n (k := 3) (i := 3) (by decide +kernel) rfl) ?_
  refine bz_ac (show bz_ok RX10 cX10_match 81 (bz_isub) from bz_o_isub (by decide +kernel)) ?_
  refine bz_ac (show bz_ok RX10 cX10_match 82 (bz_istore 8 2) from bz_o_istore (i := 8) (by decide +kernel)) ?_
  refine bz_ac (show bz_ok RX10 cX10_match 84 (bz_iload 1 1) from bz_o_iload_n (k := 1) (i := 1) (by decide +kernel) rfl) ?_
  refine bz_ac (show bz_ok RX10 cX10_match 85 (bz_iload 4 2) from bz_o_iload (i := 4) (by decide +kernel)) ?_
  refine bz_ac (show bz_ok RX10 cX10_match 87 (bz_isub) from bz_o_isub (by decide +kernel)) ?_
  refine bz_ac (show bz_ok RX10 cX10_match 88 (bz_istore 9 2) from bz_o_istore (i := 9) (by decide +kernel)) ?_
  refine bz_ac (show bz_ok RX10 cX10_match 90 (bz_push (.int 10) 2) from bz_o_bipush (n := 10) (v := 10) (by decide +kernel) (by decide)) ?_
  refine bz_ac (show bz_ok RX10 cX10_match 92 (bz_iload 8 2) from bz_o_iload (i := 8) (by decide +kernel)) ?_
  refine bz_ac (show bz_ok RX10 cX10_match 94 (bz_iload 9 2) from bz_o_iload (i := 9) (by decide +kernel)) ?_
  refine bz_ac (show bz_ok RX10 cX10_match 96 (bz_iadd) from bz_o_iadd (by decide +kernel)) ?_
  refine bz_ac (show bz_ok RX10 cX10_match 97 (bz_push (.int 1) 1) from bz_o_iconst (n := 1) (v := 1) (by decide +kernel) (by decide)) ?_
  refine bz_ac (show bz_ok RX10 cX10_match 98 (bz_isub) from bz_o_isub (by decide +kernel)) ?_
  refine bz_ac (show bz_cok bz_P l RX10 cX10_match 2 50 99 mX2_power 2 0 from bz_cS' (own := RX10) (idx := 230) (n := 2) bp_X2_power bq_X2_power (by decide +kernel) (bz_tb 613 (by decide +kernel) (by decide +kernel)) (bz_tb 614 (by decide +kernel) (by decide +kernel)) rfl (by decide) (by decide)) ?_
  refine bz_ac (show bz_ok RX10 cX10_match 102 (bz_lstore 10 2) from bz_o_lstore (i := 10) (by decide +kernel)) ?_
  refine bz_ac (show bz_ok RX10 cX10_match 104 (bz_iload 5 2) from bz_o_iload (i := 5) (by decide +kernel)) ?_
  refine bz_ac (show bz_ok RX10 cX10_match 106 (bz_if_ne 120) from bz_o_if_ne (off := 14) (t := 120) (by decide +kernel) (by decide)) ?_
  refine bz_ac (show bz_ok RX10 cX10_match 109 (bz_iload 8 2) from bz_o_iload (i := 8) (by decide +kernel)) ?_
  refine bz_ac (show bz_ok RX10 cX10_match 111 (bz_iload 9 2) from bz_o_iload (i := 9) (by decide +kernel)) ?_
  refine bz_ac (show bz_ok RX10 cX10_match 113 (bz_iload 2 1) from bz_o_iload_n (k := 2) (i := 2) (by decide +kernel) rfl) ?_
  refine bz_ac (show bz_cok bz_P l RX10 cX10_match 2 50 114 mX2_winning 3 0 from bz_cS' (own := RX10) (idx := 235) (n := 3) bp_X2_winning bq_X2_winning (by decide +kernel) (bz_tb 616 (by decide +kernel) (by decide +kernel)) (bz_tb 617 (by decide +kernel) (by decide +kernel)) rfl (by decide) (by decide)) ?_
  refine bz_ac (show bz_ok RX10 cX10_match 117 (bz_goto 128) from bz_o_goto (off := 11) (t := 128) (by decide +kernel) (by decide)) ?_
  refine bz_ac (show bz_ok RX10 cX10_match 120 (bz_iload 8 2) from bz_o_iload (i := 8) (by decide +kernel)) ?_
  refine bz_ac (show bz_ok RX10 cX10_match 122 (bz_iload 9 2) from bz_o_iload (i := 9) (by decide +kernel)) ?_
  refine bz_ac (show bz_ok RX10 cX10_match 124 (bz_iload 2 1) from bz_o_iload_n (k := 2) (i := 2) (by decide +kernel) rfl) ?_
  refine bz_ac (show bz_cok bz_P l RX10 cX10_match 2 50 125 mX2_games 3 0 from bz_cS' (own := RX10) (idx := 239) (n := 3) bp_X2_games bq_X2_games (by decide +kernel) (bz_tb 623 (by decide +kernel) (by decide +kernel)) (bz_tb 624 (by decide +kernel) (by decide +kernel)) rfl (by decide) (by decide)) ?_
  refine bz_ac (show bz_ok RX10 cX10_match 128 (bz_lstore 12 2) from bz_o_lstore (i := 12) (by decide +kernel)) ?_
  refine bz_ac (show bz_ok RX10 cX10_match 130 (bz_push (.long 1) 1) from bz_o_lconst (n := 1) (v := 1) (by decide +kernel) (by decide)) ?_
  refine bz_ac (show bz_ok RX10 cX10_match 131 (bz_lload 12 2) from bz_o_lload (i := 12) (by decide +kernel)) ?_
  refine bz_ac (show bz_ok RX10 cX10_match 133 (bz_lload 10 2) from bz_o_lload (i := 10) (by decide +kernel)) ?_
  refine bz_ac (show bz_cok bz_P l RX10 cX10_match 2 50 135 mX2_commonDivisor 2 0 from bz_cS' (own := RX10) (idx := 242) (n := 2) bp_X2_commonDivisor bq_X2_commonDivisor (by decide +kernel) (bz_tb 626 (by decide +kernel) (by decide +kernel)) (bz_tb 627 (by decide +kernel) (by decide +kernel)) rfl (by decide) (by decide)) ?_
  refine bz_ac (show bz_cok bz_P l RX10 cX10_match 2 50 138 mJ9_max_f86c9 2 0 from bz_cS' (own := RX10) (idx := 246) (n := 2) bp_J9_max_f86c9 bq_J9_max_f86c9 (by decide +kernel) (bz_tb 629 (by decide +kernel) (by decide +kernel)) (bz_tb 630 (by decide +kernel) (by decide +kernel)) rfl (by decide) (by decide)) ?_
  refine bz_ac (show bz_ok RX10 cX10_match 141 (bz_lstore 14 2) from bz_o_lstore (i := 14) (by decide +kernel)) ?_
  refine bz_ac (show bz_ok RX10 cX10_match 143 (bz_iload 6 2) from bz_o_iload (i := 6) (by decide +kernel)) ?_
  refine bz_ac (show bz_ok RX10 cX10_match 145 (bz_if_ne 156) from bz_o_if_ne (off := 11) (t := 156) (by decide +kernel) (by decide)) ?_
  refine bz_ac (show bz_ok RX10 cX10_match 148 (bz_lload 12 2) from bz_o_lload (i := 12) (by decide +kernel)) ?_
  refine bz_ac (show bz_ok RX10 cX10_match 150 (bz_lload 14 2) from bz_o_lload (i := 14) (by decide +kernel)) ?_
  refine bz_ac (show bz_ok RX10 cX10_match 152 (bz_ldiv) from bz_o_ldiv (by decide +kernel)) ?_
  refine bz_ac (show bz_ok RX10 cX10_match 153 (bz_goto 161) from bz_o_goto (off := 8) (t := 161) (by decide +kernel) (by decide)) ?_
  refine bz_ac (show bz_ok RX10 cX10_match 156 (bz_lload 10 2) from bz_o_lload (i := 10) (by decide +kernel)) ?_
  refine bz_ac (show bz_ok RX10 cX10_match 158 (bz_lload 14 2) from bz_o_lload (i := 14) (by decide +kernel)) ?_
  refine bz_ac (show bz_ok RX10 cX10_match 160 (bz_ldiv) from bz_o_ldiv (by decide +kernel)) ?_
  refine bz_ac (show bz_rok cX10_match (some .long) 161 2 from Or.inr (Or.inr (Or.inl ⟨rfl, rfl, by decide +kernel⟩))) ?_
  exact bz_an
set_option maxRecDepth 100000 in
theorem bo_X10_season (l : Launch) : ∀ q ∈ bt_X10_season, bz_rw bz_P l bm_X10_season q := by
  refine bz_ac (show bz_ok RX10 cX10_season 0 (bz_iload 1 1) from bz_o_iload_n (k := 1) (i := 1) (by decide +kernel) rfl) ?_
  refine bz_ac (show bz_ok RX10 cX10_season 1 (bz_push (.int 0) 1) from bz_o_iconst (n := 0) (v := 0) (by decide +kernel) (by decide)) ?_
  refine bz_ac (show bz_ok RX10 cX10_season 2 (bz_push (.int 9999) 3) from bz_o_sipush (n := 9999) (v := 9999) (by decide +kernel) (by decide)) ?_
  refine bz_ac (show bz_cok bz_P l RX10 cX10_season 5 130 5 mX10_isWithin 3 0 from bz_cS' (own := RX10) (idx := 83) (n := 3) bp_X10_isWithin bq_X10_isWithin (by decide +kernel) (bz_tb 322 (by decide +kernel) (by decide +kernel)) (bz_tb 323 (by decide +kernel) (by decide +kernel)) rfl (by decide) (by decide)) ?_
  refine bz_ac (show bz_ok RX10 cX10_season 8 (bz_if_eq 30) from bz_o_if_eq (off := 22) (t := 30) (by decide +kernel) (by decide)) ?_
  refine bz_ac (show bz_ok RX10 cX10_season 11 (bz_iload 2 1) from bz_o_iload_n (k := 2) (i := 2) (by decide +kernel) rfl) ?_
  refine bz_ac (show bz_ok RX10 cX10_season 12 (bz_push (.int 1) 1) from bz_o_iconst (n := 1) (v := 1) (by decide +kernel) (by decide)) ?_
  refine bz_ac (show bz_ok RX10 cX10_season 13 (bz_push (.int 99) 2) from bz_o_bipush (n := 99) (v := 99) (by decide +kernel) (by decide)) ?_
  refine bz_ac (show bz_cok bz_P l RX10 cX10_season 5 130 15 mX10_isWithin 3 0 from bz_cS' (own := RX10) (idx := 83) (n := 3) bp_X10_isWithin bq_X10_isWithin (by decide +kernel) (bz_tb 322 (by decide +kernel) (by decide +kernel)) (bz_tb 323 (by decide +kernel) (by decide +kernel)) rfl (by decide) (by decide)) ?_
  refine bz_ac (show bz_ok RX10 cX10_season 18 (bz_if_eq 30) from bz_o_if_eq (off := 12) (t := 30) (by decide +kernel) (by decide)) ?_
  refine bz_ac (show bz_ok RX10 cX10_season 21 (bz_iload 3 1) from bz_o_iload_n (k := 3) (i := 3) (by decide +kernel) rfl) ?_
  refine bz_ac (show bz_ok RX10 cX10_season 22 (bz_push (.int 0) 1) from bz_o_iconst (n := 0) (v := 0) (by decide +kernel) (by decide)) ?_
  refine bz_ac (show bz_ok RX10 cX10_season 23 (bz_push (.int 2) 1) from bz_o_iconst (n := 2) (v := 2) (by decide +kernel) (by decide)) ?_
  refine bz_ac (show bz_cok bz_P l RX10 cX10_season 5 130 24 mX10_isWithin 3 0 from bz_cS' (own := RX10) (idx := 83) (n := 3) bp_X10_isWithin bq_X10_isWithin (by decide +kernel) (bz_tb 322 (by decide +kernel) (by decide +kernel)) (bz_tb 323 (by decide +kernel) (by decide +kernel)) rfl (by decide) (by decide)) ?_
  refine bz_ac (show bz_ok RX10 cX10_season 27 (bz_if_ne 33) from bz_o_if_ne (off := 6) (t := 33) (by decide +kernel) (by decide)) ?_
  refine bz_ac (show bz_ok RX10 cX10_season 30 (bz_push (.int (-2)) 2) from bz_o_bipush (n := (-2)) (v := (-2)) (by decide +kernel) (by decide)) ?_
  refine bz_ac (show bz_rok cX10_season (some .int) 32 1 from Or.inr (Or.inl ⟨rfl, rfl, by decide +kernel⟩)) ?_
  refine bz_ac (show bz_ok RX10 cX10_season 33 (bz_aload 0 1) from bz_o_aload_n (k := 0) (i := 0) (by decide +kernel) rfl) ?_
  refine bz_ac (show bz_ok RX10 cX10_season 34 (bz_getR 9 3) from bz_o_getR (ci := 9) (k := 3) (idx := 33) (C := RX10) (T := TX10) (N := 8) rfl bh_9 rfl rfl (bz_tb 287 (by decide +kernel) (by decide +kernel)) rfl (by decide +kernel)) ?_
  refine bz_ac (show bz_ok RX10 cX10_season 37 (bz_iload 1 1) from bz_o_iload_n (k := 1) (i := 1) (by decide +kernel) rfl) ?_
  refine bz_ac (show bz_ok RX10 cX10_season 38 (bz_iload 2 1) from bz_o_iload_n (k := 2) (i := 2) (by decide +kernel) rfl) ?_
  refine bz_ac (show bz_ok RX10 cX10_season 39 (bz_aload 0 1) from bz_o_aload_n (k := 0) (i := 0) (by decide +kernel) rfl) ?_
  refine bz_ac (show bz_ok RX10 cX10_season 40 (bz_getR 9 0) from bz_o_getR (ci := 9) (k := 0) (idx := 12) (C := RX10) (T := TX10) (N := 8) rfl bh_9 rfl rfl (bz_tb 284 (by decide +kernel) (by decide +kernel)) rfl (by decide +kernel)) ?_
  refine bz_ac (show bz_cok bz_P l RX10 cX10_season 5 130 43 mX8_runSeason 4 8 from bz_cV' (own := RX10) (idx := 251) (ci := 7) (N := 8) (T := TX8) (n := 3) bp_X8_runSeason bq_X8_runSeason (by decide +kernel) (bz_tb 636 (by decide +kernel) (by decide +kernel)) (bz_tb 637 (by decide +kernel) (by decide +kernel)) (bz_tb 638 (by decide +kernel) (by decide +kernel)) rfl rfl (by decide) (by decide)) ?_
  refine bz_ac (show bz_ok RX10 cX10_season 46 (bz_iload 3 1) from bz_o_iload_n (k := 3) (i := 3) (by decide +kernel) rfl) ?_
  refine bz_ac (show bz_ok RX10 cX10_season 47 (bz_switch [(0, 72), (1, 83)] 94) from bz_o_lookup (df := 47) (ps := #[(0, 25), (1, 36)]) (len := 25) (cs := [(0, 72), (1, 83)]) (d := 94) (by decide +kernel) (by decide) (by decide +kernel) (by decide)) ?_
  refine bz_ac (show bz_ok RX10 cX10_season 72 (bz_aload 0 1) from bz_o_aload_n (k := 0) (i := 0) (by decide +kernel) rfl) ?_
  refine bz_ac (show bz_ok RX10 cX10_season 73 (bz_getR 9 3) from bz_o_getR (ci := 9) (k := 3) (idx := 33) (C := RX10) (T := TX10) (N := 8) rfl bh_9 rfl rfl (bz_tb 287 (by decide +kernel) (by decide +kernel)) rfl (by decide +kernel)) ?_
  refine bz_ac (show bz_ok RX10 cX10_season 76 (bz_getR 7 0) from bz_o_getR (ci := 7) (k := 0) (idx := 119) (C := RX8) (T := TX8) (N := 8) rfl bh_7 rfl rfl (bz_tb 172 (by decide +kernel) (by decide +kernel)) rfl (by decide +kernel)) ?_
  refine bz_ac (show bz_ok RX10 cX10_season 79 (bz_getI 5 1) from bz_o_getI (ci := 5) (k := 1) (idx := 87) (C := RX6) (T := TX6) (N := 4) rfl bh_5 rfl rfl (bz_tb 80 (by decide +kernel) (by decide +kernel)) (Or.inl rfl) (by decide +kernel)) ?_
  refine bz_ac (show bz_rok cX10_season (some .int) 82 1 from Or.inr (Or.inl ⟨rfl, rfl, by decide +kernel⟩)) ?_
  refine bz_ac (show bz_ok RX10 cX10_season 83 (bz_aload 0 1) from bz_o_aload_n (k := 0) (i := 0) (by decide +kernel) rfl) ?_
  refine bz_ac (show bz_ok RX10 cX10_season 84 (bz_getR 9 3) from bz_o_getR (ci := 9) (k := 3) (idx := 33) (C := RX10) (T := TX10) (N := 8) rfl bh_9 rfl rfl (bz_tb 287 (by decide +kernel) (by decide +kernel)) rfl (by decide +kernel)) ?_
  refine bz_ac (show bz_ok RX10 cX10_season 87 (bz_getR 7 0) from bz_o_getR (ci := 7) (k := 0) (idx := 119) (C := RX8) (T := TX8) (N := 8) rfl bh_7 rfl rfl (bz_tb 172 (by decide +kernel) (by decide +kernel)) rfl (by decide +kernel)) ?_
  refine bz_ac (show bz_ok RX10 cX10_season 90 (bz_getI 5 2) from bz_o_getI (ci := 5) (k := 2) (idx := 91) (C := RX6) (T := TX6) (N := 4) rfl bh_5 rfl rfl (bz_tb 84 (by decide +kernel) (by decide +kernel)) (Or.inl rfl) (by decide +kernel)) ?_
  refine bz_ac (show bz_rok cX10_season (some .int) 93 1 from Or.inr (Or.inl ⟨rfl, rfl, by decide +kernel⟩)) ?_
  refine bz_ac (show bz_ok RX10 cX10_season 94 (bz_aload 0 1) from bz_o_aload_n (k := 0) (i := 0) (by decide +kernel) rfl) ?_
  refine bz_ac (show bz_ok RX10 cX10_season 95 (bz_getR 9 3) from bz_o_getR (ci := 9) (k := 3) (idx := 33) (C := RX10) (T := TX10) (N := 8) rfl bh_9 rfl rfl (bz_tb 287 (by decide +kernel) (by decide +kernel)) rfl (by decide +kernel)) ?_
  refine bz_ac (show bz_ok RX10 cX10_season 98 (bz_getR 7 0) from bz_o_getR (ci := 7) (k := 0) (idx := 119) (C := RX8) (T := TX8) (N := 8) rfl bh_7 rfl rfl (bz_tb 172 (by decide +kernel) (by decide +kernel)) rfl (by decide +kernel)) ?_
  refine bz_ac (show bz_cok bz_P l RX10 cX10_season 5 130 101 mX6_howManyDown 1 6 from bz_cV' (own := RX10) (idx := 122) (ci := 5) (N := 4) (T := TX6) (n := 0) bp_X6_howManyDown bq_X6_howManyDown (by decide +kernel) (bz_tb 476 (by decide +kernel) (by decide +kernel)) (bz_tb 477 (by decide +kernel) (by decide +kernel)) (bz_tb 478 (by decide +kernel) (by decide +kernel)) rfl rfl (by decide) (by decide)) ?_
  refine bz_ac (show bz_rok cX10_season (some .int) 104 1 from Or.inr (Or.inl ⟨rfl, rfl, by decide +kernel⟩)) ?_
  exact bz_an
set_option maxRecDepth 100000 in
theorem bo_X10_image (l : Launch) : ∀ q ∈ bt_X10_image, bz_rw bz_P l bm_X10_image q := by
  refine bz_ac (show bz_ok RX10 cX10_image 0 (bz_iload 1 1) from bz_o_iload_n (k := 1) (i := 1) (by decide +kernel) rfl) ?_
  refine bz_ac (show bz_ok RX10 cX10_image 1 (bz_push (.int 0) 1) from bz_o_iconst (n := 0) (v := 0) (by decide +kernel) (by decide)) ?_
  refine bz_ac (show bz_ok RX10 cX10_image 2 (bz_push (.int 1) 1) from bz_o_iconst (n := 1) (v := 1) (by decide +kernel) (by decide)) ?_
  refine bz_ac (show bz_cok bz_P l RX10 cX10_image 2 44 3 mX10_isWithin 3 0 from bz_cS' (own := RX10) (idx := 83) (n := 3) bp_X10_isWithin bq_X10_isWithin (by decide +kernel) (bz_tb 322 (by decide +kernel) (by decide +kernel)) (bz_tb 323 (by decide +kernel) (by decide +kernel)) rfl (by decide) (by decide)) ?_
  refine bz_ac (show bz_ok RX10 cX10_image 6 (bz_if_ne 12) from bz_o_if_ne (off := 6) (t := 12) (by decide +kernel) (by decide)) ?_
  refine bz_ac (show bz_ok RX10 cX10_image 9 (bz_push (.int (-2)) 2) from bz_o_bipush (n := (-2)) (v := (-2)) (by decide +kernel) (by decide)) ?_
  refine bz_ac (show bz_rok cX10_image (some .int) 11 1 from Or.inr (Or.inl ⟨rfl, rfl, by decide +kernel⟩)) ?_
  refine bz_ac (show bz_ok RX10 cX10_image 12 (bz_aload 0 1) from bz_o_aload_n (k := 0) (i := 0) (by decide +kernel) rfl) ?_
  refine bz_ac (show bz_ok RX10 cX10_image 13 (bz_getR 9 7) from bz_o_getR (ci := 9) (k := 7) (idx := 60) (C := RX10) (T := TX10) (N := 8) rfl bh_9 rfl rfl (bz_tb 291 (by decide +kernel) (by decide +kernel)) rfl (by decide +kernel)) ?_
  refine bz_ac (show bz_ok RX10 cX10_image 16 (bz_iload 1 1) from bz_o_iload_n (k := 1) (i := 1) (by decide +kernel) rfl) ?_
  refine bz_ac (show bz_ok RX10 cX10_image 17 (bz_aald) from bz_o_aald (by decide +kernel)) ?_
  refine bz_ac (show bz_ok RX10 cX10_image 18 (bz_aload 0 1) from bz_o_aload_n (k := 0) (i := 0) (by decide +kernel) rfl) ?_
  refine bz_ac (show bz_ok RX10 cX10_image 19 (bz_getR 9 0) from bz_o_getR (ci := 9) (k := 0) (idx := 12) (C := RX10) (T := TX10) (N := 8) rfl bh_9 rfl rfl (bz_tb 284 (by decide +kernel) (by decide +kernel)) rfl (by decide +kernel)) ?_
  refine bz_ac (show bz_ok RX10 cX10_image 22 (bz_aload 0 1) from bz_o_aload_n (k := 0) (i := 0) (by decide +kernel) rfl) ?_
  refine bz_ac (show bz_ok RX10 cX10_image 23 (bz_getR 9 1) from bz_o_getR (ci := 9) (k := 1) (idx := 19) (C := RX10) (T := TX10) (N := 8) rfl bh_9 rfl rfl (bz_tb 285 (by decide +kernel) (by decide +kernel)) rfl (by decide +kernel)) ?_
  refine bz_ac (show bz_cok bz_P l RX10 cX10_image 2 44 26 mX1_keep 3 2 from bz_cV' (own := RX10) (idx := 255) (ci := 1) (N := 3) (T := TX1) (n := 2) bp_X1_keep bq_X1_keep (by decide +kernel) (bz_tb 645 (by decide +kernel) (by decide +kernel)) (bz_tb 646 (by decide +kernel) (by decide +kernel)) (bz_tb 647 (by decide +kernel) (by decide +kernel)) rfl rfl (by decide) (by decide)) ?_
  refine bz_ac (show bz_ok RX10 cX10_image 29 (bz_push (.int 1) 1) from bz_o_iconst (n := 1) (v := 1) (by decide +kernel) (by decide)) ?_
  refine bz_ac (show bz_rok cX10_image (some .int) 30 1 from Or.inr (Or.inl ⟨rfl, rfl, by decide +kernel⟩)) ?_
  exact bz_an
set_option maxRecDepth 100000 in
theorem bo_X10_restore (l : Launch) : ∀ q ∈ bt_X10_restore, bz_rw bz_P l bm_X10_restore q := by
  refine bz_ac (show bz_ok RX10 cX10_restore 0 (bz_iload 1 1) from bz_o_iload_n (k := 1) (i := 1) (by decide +kernel) rfl) ?_
  refine bz_ac (show bz_ok RX10 cX10_restore 1 (bz_push (.int 0) 1) from bz_o_iconst (n := 0) (v := 0) (by decide +kernel) (by decide)) ?_
  refine bz_ac (show bz_ok RX10 cX10_restore 2 (bz_push (.int 1) 1) from bz_o_iconst (n := 1) (v := 1) (by decide +kernel) (by decide)) ?_
  refine bz_ac (show bz_cok bz_P l RX10 cX10_restore 1 22 3 mX10_isWithin 3 0 from bz_cS' (own := RX10) (idx := 83) (n := 3) bp_X10_isWithin bq_X10_isWithin (by decide +kernel) (bz_tb 322 (by decide +kernel) (by decide +kernel)) (bz_tb 323 (by decide +kernel) (by decide +kernel)) rfl (by decide) (by decide)) ?_
  refine bz_ac (show bz_ok RX10 cX10_restore 6 (bz_if_ne 12) from bz_o_if_ne (off := 6) (t := 12) (by decide +kernel) (by decide)) ?_
  refine bz_ac (show bz_ok RX10 cX10_restore 9 (bz_push (.int (-2)) 2) from bz_o_bipush (n := (-2)) (v := (-2)) (by decide +kernel) (by decide)) ?_
  refine bz_ac (show bz_rok cX10_restore (some .int) 11 1 from Or.inr (Or.inl ⟨rfl, rfl, by decide +kernel⟩)) ?_
  refine bz_ac (show bz_ok RX10 cX10_restore 12 (bz_aload 0 1) from bz_o_aload_n (k := 0) (i := 0) (by decide +kernel) rfl) ?_
  refine bz_ac (show bz_ok RX10 cX10_restore 13 (bz_getR 9 7) from bz_o_getR (ci := 9) (k := 7) (idx := 60) (C := RX10) (T := TX10) (N := 8) rfl bh_9 rfl rfl (bz_tb 291 (by decide +kernel) (by decide +kernel)) rfl (by decide +kernel)) ?_
  refine bz_ac (show bz_ok RX10 cX10_restore 16 (bz_iload 1 1) from bz_o_iload_n (k := 1) (i := 1) (by decide +kernel) rfl) ?_
  refine bz_ac (show bz_ok RX10 cX10_restore 17 (bz_aald) from bz_o_aald (by decide +kernel)) ?_
  refine bz_ac (show bz_ok RX10 cX10_restore 18 (bz_getI 1 2) from bz_o_getI (ci := 1) (k := 2) (idx := 259) (C := RX1) (T := TX1) (N := 3) rfl bh_1 rfl rfl (bz_tb 276 (by decide +kernel) (by decide +kernel)) (Or.inr rfl) (by decide +kernel)) ?_
  refine bz_ac (show bz_ok RX10 cX10_restore 21 (bz_if_ne 27) from bz_o_if_ne (off := 6) (t := 27) (by decide +kernel) (by decide)) ?_
  refine bz_ac (show bz_ok RX10 cX10_restore 24 (bz_push (.int (-3)) 2) from bz_o_bipush (n := (-3)) (v := (-3)) (by decide +kernel) (by decide)) ?_
  refine bz_ac (show bz_rok cX10_restore (some .int) 26 1 from Or.inr (Or.inl ⟨rfl, rfl, by decide +kernel⟩)) ?_
  refine bz_ac (show bz_ok RX10 cX10_restore 27 (bz_aload 0 1) from bz_o_aload_n (k := 0) (i := 0) (by decide +kernel) rfl) ?_
  refine bz_ac (show bz_ok RX10 cX10_restore 28 (bz_getR 9 0) from bz_o_getR (ci := 9) (k := 0) (idx := 12) (C := RX10) (T := TX10) (N := 8) rfl bh_9 rfl rfl (bz_tb 284 (by decide +kernel) (by decide +kernel)) rfl (by decide +kernel)) ?_
  refine bz_ac (show bz_ok RX10 cX10_restore 31 (bz_aload 0 1) from bz_o_aload_n (k := 0) (i := 0) (by decide +kernel) rfl) ?_
  refine bz_ac (show bz_ok RX10 cX10_restore 32 (bz_getR 9 7) from bz_o_getR (ci := 9) (k := 7) (idx := 60) (C := RX10) (T := TX10) (N := 8) rfl bh_9 rfl rfl (bz_tb 291 (by decide +kernel) (by decide +kernel)) rfl (by decide +kernel)) ?_
  refine bz_ac (show bz_ok RX10 cX10_restore 35 (bz_iload 1 1) from bz_o_iload_n (k := 1) (i := 1) (by decide +kernel) rfl) ?_
  refine bz_ac (show bz_ok RX10 cX10_restore 36 (bz_aald) from bz_o_aald (by decide +kernel)) ?_
  refine bz_ac (show bz_ok RX10 cX10_restore 37 (bz_getR 1 0) from bz_o_getR (ci := 1) (k := 0) (idx := 263) (C := RX1) (T := TX1) (N := 3) rfl bh_1 rfl rfl (bz_tb 272 (by decide +kernel) (by decide +kernel)) rfl (by decide +kernel)) ?_
  refine bz_ac (show bz_cok bz_P l RX10 cX10_restore 1 22 40 mX6_copy 2 6 from bz_cV' (own := RX10) (idx := 134) (ci := 5) (N := 4) (T := TX6) (n := 1) bp_X6_copy bq_X6_copy (by decide +kernel) (bz_tb 488 (by decide +kernel) (by decide +kernel)) (bz_tb 396 (by decide +kernel) (by decide +kernel)) (bz_tb 397 (by decide +kernel) (by decide +kernel)) rfl rfl (by decide) (by decide)) ?_
  refine bz_ac (show bz_ok RX10 cX10_restore 43 (bz_aload 0 1) from bz_o_aload_n (k := 0) (i := 0) (by decide +kernel) rfl) ?_
  refine bz_ac (show bz_ok RX10 cX10_restore 44 (bz_getR 9 1) from bz_o_getR (ci := 9) (k := 1) (idx := 19) (C := RX10) (T := TX10) (N := 8) rfl bh_9 rfl rfl (bz_tb 285 (by decide +kernel) (by decide +kernel)) rfl (by decide +kernel)) ?_
  refine bz_ac (show bz_ok RX10 cX10_restore 47 (bz_aload 0 1) from bz_o_aload_n (k := 0) (i := 0) (by decide +kernel) rfl) ?_
  refine bz_ac (show bz_ok RX10 cX10_restore 48 (bz_getR 9 7) from bz_o_getR (ci := 9) (k := 7) (idx := 60) (C := RX10) (T := TX10) (N := 8) rfl bh_9 rfl rfl (bz_tb 291 (by decide +kernel) (by decide +kernel)) rfl (by decide +kernel)) ?_
  refine bz_ac (show bz_ok RX10 cX10_restore 51 (bz_iload 1 1) from bz_o_iload_n (k := 1) (i := 1) (by decide +kernel) rfl) ?_
  refine bz_ac (show bz_ok RX10 cX10_restore 52 (bz_aald) from bz_o_aald (by decide +kernel)) ?_
  refine bz_ac (show bz_ok RX10 cX10_restore 53 (bz_getR 1 1) from bz_o_getR (ci := 1) (k := 1) (idx := 264) (C := RX1) (T := TX1) (N := 3) rfl bh_1 rfl rfl (bz_tb 274 (by decide +kernel) (by decide +kernel)) rfl (by decide +kernel)) ?_
  refine bz_ac (show bz_cok bz_P l RX10 cX10_restore 1 22 56 mX4_copy 2 4 from bz_cV' (own := RX10) (idx := 265) (ci := 3) (N := 3) (T := TX4) (n := 1) bp_X4_copy bq_X4_copy (by decide +kernel) (bz_tb 658 (by decide +kernel) (by decide +kernel)) (bz_tb 651 (by decide +kernel) (by decide +kernel)) (bz_tb 652 (by decide +kernel) (by decide +kernel)) rfl rfl (by decide) (by decide)) ?_
  refine bz_ac (show bz_ok RX10 cX10_restore 59 (bz_push (.int 1) 1) from bz_o_iconst (n := 1) (v := 1) (by decide +kernel) (by decide)) ?_
  refine bz_ac (show bz_rok cX10_restore (some .int) 60 1 from Or.inr (Or.inl ⟨rfl, rfl, by decide +kernel⟩)) ?_
  exact bz_an
set_option maxRecDepth 100000 in
theorem bo_X10_told (l : Launch) : ∀ q ∈ bt_X10_told, bz_rw bz_P l bm_X10_told q := by
  refine bz_ac (show bz_ok RX10 cX10_told 0 (bz_iload 1 1) from bz_o_iload_n (k := 1) (i := 1) (by decide +kernel) rfl) ?_
  refine bz_ac (show bz_ok RX10 cX10_told 1 (bz_switch (bz_mk 0 [36, 44, 52, 60, 68]) 76) from bz_o_table (df := 75) (offs := #[35, 43, 51, 59, 67]) (len := 35) (lo := 0) (hi := 4) (ts := [36, 44, 52, 60, 68]) (d := 76) (by decide +kernel) (by decide) (by decide +kernel) (by decide)) ?_
  refine bz_ac (show bz_ok RX10 cX10_told 36 (bz_aload 0 1) from bz_o_aload_n (k := 0) (i := 0) (by decide +kernel) rfl) ?_
  refine bz_ac (show bz_ok RX10 cX10_told 37 (bz_getR 9 2) from bz_o_getR (ci := 9) (k := 2) (idx := 26) (C := RX10) (T := TX10) (N := 8) rfl bh_9 rfl rfl (bz_tb 286 (by decide +kernel) (by decide +kernel)) rfl (by decide +kernel)) ?_
  refine bz_ac (show bz_ok RX10 cX10_told 40 (bz_getI 2 1) from bz_o_getI (ci := 2) (k := 1) (idx := 97) (C := RX3) (T := TX3) (N := 2) rfl bh_2 rfl rfl (bz_tb 124 (by decide +kernel) (by decide +kernel)) (Or.inl rfl) (by decide +kernel)) ?_
  refine bz_ac (show bz_rok cX10_told (some .int) 43 1 from Or.inr (Or.inl ⟨rfl, rfl, by decide +kernel⟩)) ?_
  refine bz_ac (show bz_ok RX10 cX10_told 44 (bz_aload 0 1) from bz_o_aload_n (k := 0) (i := 0) (by decide +kernel) rfl) ?_
  refine bz_ac (show bz_ok RX10 cX10_told 45 (bz_getR 9 0) from bz_o_getR (ci := 9) (k := 0) (idx := 12) (C := RX10) (T := TX10) (N := 8) rfl bh_9 rfl rfl (bz_tb 284 (by decide +kernel) (by decide +kernel)) rfl (by decide +kernel)) ?_
  refine bz_ac (show bz_ok RX10 cX10_told 48 (bz_getI 5 1) from bz_o_getI (ci := 5) (k := 1) (idx := 87) (C := RX6) (T := TX6) (N := 4) rfl bh_5 rfl rfl (bz_tb 80 (by decide +kernel) (by decide +kernel)) (Or.inl rfl) (by decide +kernel)) ?_
  refine bz_ac (show bz_rok cX10_told (some .int) 51 1 from Or.inr (Or.inl ⟨rfl, rfl, by decide +kernel⟩)) ?_
  refine bz_ac (show bz_ok RX10 cX10_told 52 (bz_aload 0 1) from bz_o_aload_n (k := 0) (i := 0) (by decide +kernel) rfl) ?_
  refine bz_ac (show bz_ok RX10 cX10_told 53 (bz_getR 9 0) from bz_o_getR (ci := 9) (k := 0) (idx := 12) (C := RX10) (T := TX10) (N := 8) rfl bh_9 rfl rfl (bz_tb 284 (by decide +kernel) (by decide +kernel)) rfl (by decide +kernel)) ?_
  refine bz_ac (show bz_ok RX10 cX10_told 56 (bz_getI 5 2) from bz_o_getI (ci := 5) (k := 2) (idx := 91) (C := RX6) (T := TX6) (N := 4) rfl bh_5 rfl rfl (bz_tb 84 (by decide +kernel) (by decide +kernel)) (Or.inl rfl) (by decide +kernel)) ?_
  refine bz_ac (show bz_rok cX10_told (some .int) 59 1 from Or.inr (Or.inl ⟨rfl, rfl, by decide +kernel⟩)) ?_
  refine bz_ac (show bz_ok RX10 cX10_told 60 (bz_aload 0 1) from bz_o_aload_n (k := 0) (i := 0) (by decide +kernel) rfl) ?_
  refine bz_ac (show bz_ok RX10 cX10_told 61 (bz_getR 9 0) from bz_o_getR (ci := 9) (k := 0) (idx := 12) (C := RX10) (T := TX10) (N := 8) rfl bh_9 rfl rfl (bz_tb 284 (by decide +kernel) (by decide +kernel)) rfl (by decide +kernel)) ?_
  refine bz_ac (show bz_ok RX10 cX10_told 64 (bz_getI 5 3) from bz_o_getI (ci := 5) (k := 3) (idx := 125) (C := RX6) (T := TX6) (N := 4) rfl bh_5 rfl rfl (bz_tb 87 (by decide +kernel) (by decide +kernel)) (Or.inl rfl) (by decide +kernel)) ?_
  refine bz_ac (show bz_rok cX10_told (some .int) 67 1 from Or.inr (Or.inl ⟨rfl, rfl, by decide +kernel⟩)) ?_
  refine bz_ac (show bz_ok RX10 cX10_told 68 (bz_aload 0 1) from bz_o_aload_n (k := 0) (i := 0) (by decide +kernel) rfl) ?_
  refine bz_ac (show bz_ok RX10 cX10_told 69 (bz_getR 9 1) from bz_o_getR (ci := 9) (k := 1) (idx := 19) (C := RX10) (T := TX10) (N := 8) rfl bh_9 rfl rfl (bz_tb 285 (by decide +kernel) (by decide +kernel)) rfl (by decide +kernel)) ?_
  refine bz_ac (show bz_ok RX10 cX10_told 72 (bz_getI 3 2) from bz_o_getI (ci := 3) (k := 2) (idx := 205) (C := RX4) (T := TX4) (N := 3) rfl bh_3 rfl rfl (bz_tb 107 (by decide +kernel) (by decide +kernel)) (Or.inl rfl) (by decide +kernel)) ?_
  refine bz_ac (show bz_rok cX10_told (some .int) 75 1 from Or.inr (Or.inl ⟨rfl, rfl, by decide +kernel⟩)) ?_
  refine bz_ac (show bz_ok RX10 cX10_told 76 (bz_iload 1 1) from bz_o_iload_n (k := 1) (i := 1) (by decide +kernel) rfl) ?_
  refine bz_ac (show bz_ok RX10 cX10_told 77 (bz_push (.int 10) 2) from bz_o_bipush (n := 10) (v := 10) (by decide +kernel) (by decide)) ?_
  refine bz_ac (show bz_ok RX10 cX10_told 79 (bz_push (.int 12) 2) from bz_o_bipush (n := 12) (v := 12) (by decide +kernel) (by decide)) ?_
  refine bz_ac (show bz_cok bz_P l RX10 cX10_told 3 62 81 mX10_isWithin 3 0 from bz_cS' (own := RX10) (idx := 83) (n := 3) bp_X10_isWithin bq_X10_isWithin (by decide +kernel) (bz_tb 322 (by decide +kernel) (by decide +kernel)) (bz_tb 323 (by decide +kernel) (by decide +kernel)) rfl (by decide) (by decide)) ?_
  refine bz_ac (show bz_ok RX10 cX10_told 84 (bz_if_eq 101) from bz_o_if_eq (off := 17) (t := 101) (by decide +kernel) (by decide)) ?_
  refine bz_ac (show bz_ok RX10 cX10_told 87 (bz_aload 0 1) from bz_o_aload_n (k := 0) (i := 0) (by decide +kernel) rfl) ?_
  refine bz_ac (show bz_ok RX10 cX10_told 88 (bz_getR 9 0) from bz_o_getR (ci := 9) (k := 0) (idx := 12) (C := RX10) (T := TX10) (N := 8) rfl bh_9 rfl rfl (bz_tb 284 (by decide +kernel) (by decide +kernel)) rfl (by decide +kernel)) ?_
  refine bz_ac (show bz_ok RX10 cX10_told 91 (bz_iload 1 1) from bz_o_iload_n (k := 1) (i := 1) (by decide +kernel) rfl) ?_
  refine bz_ac (show bz_ok RX10 cX10_told 92 (bz_push (.int 10) 2) from bz_o_bipush (n := 10) (v := 10) (by decide +kernel) (by decide)) ?_
  refine bz_ac (show bz_ok RX10 cX10_told 94 (bz_isub) from bz_o_isub (by decide +kernel)) ?_
  refine bz_ac (show bz_cok bz_P l RX10 cX10_told 3 62 95 mX6_cellOrNone 2 6 from bz_cV' (own := RX10) (idx := 76) (ci := 5) (N := 4) (T := TX6) (n := 1) bp_X6_cellOrNone bq_X6_cellOrNone (by decide +kernel) (bz_tb 332 (by decide +kernel) (by decide +kernel)) (bz_tb 333 (by decide +kernel) (by decide +kernel)) (bz_tb 334 (by decide +kernel) (by decide +kernel)) rfl rfl (by decide) (by decide)) ?_
  refine bz_ac (show bz_ok RX10 cX10_told 98 (bz_goto 103) from bz_o_goto (off := 5) (t := 103) (by decide +kernel) (by decide)) ?_
  refine bz_ac (show bz_ok RX10 cX10_told 101 (bz_push (.int (-2)) 2) from bz_o_bipush (n := (-2)) (v := (-2)) (by decide +kernel) (by decide)) ?_
  refine bz_ac (show bz_rok cX10_told (some .int) 103 1 from Or.inr (Or.inl ⟨rfl, rfl, by decide +kernel⟩)) ?_
  exact bz_an
set_option maxRecDepth 100000 in
theorem bo_X11_in (l : Launch) : ∀ q ∈ bt_X11_in, bz_rw bz_P l bm_X11_in q := by
  refine bz_ac (show bz_ok RX11 cX11_in 0 (bz_lload 0 1) from bz_o_lload_n (k := 0) (i := 0) (by decide +kernel) rfl) ?_
  refine bz_ac (show bz_ok RX11 cX11_in 1 (bz_lload 2 1) from bz_o_lload_n (k := 2) (i := 2) (by decide +kernel) rfl) ?_
  refine bz_ac (show bz_ok RX11 cX11_in 2 (bz_lcmp) from bz_o_lcmp (by decide +kernel)) ?_
  refine bz_ac (show bz_ok RX11 cX11_in 3 (bz_if_lt 17) from bz_o_if_lt (off := 14) (t := 17) (by decide +kernel) (by decide)) ?_
  refine bz_ac (show bz_ok RX11 cX11_in 6 (bz_lload 0 1) from bz_o_lload_n (k := 0) (i := 0) (by decide +kernel) rfl) ?_
  refine bz_ac (show bz_ok RX11 cX11_in 7 (bz_lload 4 2) from bz_o_lload (i := 4) (by decide +kernel)) ?_
  refine bz_ac (show bz_ok RX11 cX11_in 9 (bz_lcmp) from bz_o_lcmp (by decide +kernel)) ?_
  refine bz_ac (show bz_ok RX11 cX11_in 10 (bz_if_gt 17) from bz_o_if_gt (off := 7) (t := 17) (by decide +kernel) (by decide)) ?_
  refine bz_ac (show bz_ok RX11 cX11_in 13 (bz_push (.int 1) 1) from bz_o_iconst (n := 1) (v := 1) (by decide +kernel) (by decide)) ?_
  refine bz_ac (show bz_ok RX11 cX11_in 14 (bz_goto 18) from bz_o_goto (off := 4) (t := 18) (by decide +kernel) (by decide)) ?_
  refine bz_ac (show bz_ok RX11 cX11_in 17 (bz_push (.int 0) 1) from bz_o_iconst (n := 0) (v := 0) (by decide +kernel) (by decide)) ?_
  refine bz_ac (show bz_rok cX11_in (some .boolean) 18 3 from Or.inr (Or.inr (Or.inr ⟨rfl, rfl, by decide +kernel⟩))) ?_
  exact bz_an
set_option maxRecDepth 100000 in
theorem bo_X11_isBall (l : Launch) : ∀ q ∈ bt_X11_isBall, bz_rw bz_P l bm_X11_isBall q := by
  refine bz_ac (show bz_ok RX11 cX11_isBall 0 (bz_iload 0 1) from bz_o_iload_n (k := 0) (i := 0) (by decide +kernel) rfl) ?_
  refine bz_ac (show bz_ok RX11 cX11_isBall 1 (bz_i2l) from bz_o_i2l (by decide +kernel)) ?_
  refine bz_ac (show bz_ok RX11 cX11_isBall 2 (bz_push (.long 0) 1) from bz_o_lconst (n := 0) (v := 0) (by decide +kernel) (by decide)) ?_
  refine bz_ac (show bz_ok RX11 cX11_isBall 3 (bz_push (.long 2) 3) from bz_o_ldc2 (own := RX11) (i := 73) (v := 2) (by decide +kernel) (bz_tb 808 (by decide +kernel) (by decide +kernel))) ?_
  refine bz_ac (show bz_cok bz_P l RX11 cX11_isBall 1 25 6 mX11_in 3 0 from bz_cS' (own := RX11) (idx := 75) (n := 3) bp_X11_in bq_X11_in (by decide +kernel) (bz_tb 809 (by decide +kernel) (by decide +kernel)) (bz_tb 810 (by decide +kernel) (by decide +kernel)) rfl (by decide) (by decide)) ?_
  refine bz_ac (show bz_rok cX11_isBall (some .boolean) 9 3 from Or.inr (Or.inr (Or.inr ⟨rfl, rfl, by decide +kernel⟩))) ?_
  exact bz_an
set_option maxRecDepth 100000 in
theorem bo_X11_isCell (l : Launch) : ∀ q ∈ bt_X11_isCell, bz_rw bz_P l bm_X11_isCell q := by
  refine bz_ac (show bz_ok RX11 cX11_isCell 0 (bz_iload 0 1) from bz_o_iload_n (k := 0) (i := 0) (by decide +kernel) rfl) ?_
  refine bz_ac (show bz_ok RX11 cX11_isCell 1 (bz_i2l) from bz_o_i2l (by decide +kernel)) ?_
  refine bz_ac (show bz_ok RX11 cX11_isCell 2 (bz_push (.long 0) 1) from bz_o_lconst (n := 0) (v := 0) (by decide +kernel) (by decide)) ?_
  refine bz_ac (show bz_ok RX11 cX11_isCell 3 (bz_push (.long 44) 3) from bz_o_ldc2 (own := RX11) (i := 79) (v := 44) (by decide +kernel) (bz_tb 818 (by decide +kernel) (by decide +kernel))) ?_
  refine bz_ac (show bz_cok bz_P l RX11 cX11_isCell 1 25 6 mX11_in 3 0 from bz_cS' (own := RX11) (idx := 75) (n := 3) bp_X11_in bq_X11_in (by decide +kernel) (bz_tb 809 (by decide +kernel) (by decide +kernel)) (bz_tb 810 (by decide +kernel) (by decide +kernel)) rfl (by decide) (by decide)) ?_
  refine bz_ac (show bz_rok cX11_isCell (some .boolean) 9 3 from Or.inr (Or.inr (Or.inr ⟨rfl, rfl, by decide +kernel⟩))) ?_
  exact bz_an
set_option maxRecDepth 100000 in
theorem bo_X11_isPocket (l : Launch) : ∀ q ∈ bt_X11_isPocket, bz_rw bz_P l bm_X11_isPocket q := by
  refine bz_ac (show bz_ok RX11 cX11_isPocket 0 (bz_iload 0 1) from bz_o_iload_n (k := 0) (i := 0) (by decide +kernel) rfl) ?_
  refine bz_ac (show bz_ok RX11 cX11_isPocket 1 (bz_push (.int 9) 2) from bz_o_bipush (n := 9) (v := 9) (by decide +kernel) (by decide)) ?_
  refine bz_ac (show bz_ok RX11 cX11_isPocket 3 (bz_idiv) from bz_o_idiv (by decide +kernel)) ?_
  refine bz_ac (show bz_ok RX11 cX11_isPocket 4 (bz_if_eq 15) from bz_o_if_eq (off := 11) (t := 15) (by decide +kernel) (by decide)) ?_
  refine bz_ac (show bz_ok RX11 cX11_isPocket 7 (bz_iload 0 1) from bz_o_iload_n (k := 0) (i := 0) (by decide +kernel) rfl) ?_
  refine bz_ac (show bz_ok RX11 cX11_isPocket 8 (bz_push (.int 9) 2) from bz_o_bipush (n := 9) (v := 9) (by decide +kernel) (by decide)) ?_
  refine bz_ac (show bz_ok RX11 cX11_isPocket 10 (bz_idiv) from bz_o_idiv (by decide +kernel)) ?_
  refine bz_ac (show bz_ok RX11 cX11_isPocket 11 (bz_push (.int 4) 1) from bz_o_iconst (n := 4) (v := 4) (by decide +kernel) (by decide)) ?_
  refine bz_ac (show bz_ok RX11 cX11_isPocket 12 (bz_ic_ne 28) from bz_o_ic_ne (off := 16) (t := 28) (by decide +kernel) (by decide)) ?_
  refine bz_ac (show bz_ok RX11 cX11_isPocket 15 (bz_iload 0 1) from bz_o_iload_n (k := 0) (i := 0) (by decide +kernel) rfl) ?_
  refine bz_ac (show bz_ok RX11 cX11_isPocket 16 (bz_push (.int 9) 2) from bz_o_bipush (n := 9) (v := 9) (by decide +kernel) (by decide)) ?_
  refine bz_ac (show bz_ok RX11 cX11_isPocket 18 (bz_irem) from bz_o_irem (by decide +kernel)) ?_
  refine bz_ac (show bz_ok RX11 cX11_isPocket 19 (bz_push (.int 4) 1) from bz_o_iconst (n := 4) (v := 4) (by decide +kernel) (by decide)) ?_
  refine bz_ac (show bz_ok RX11 cX11_isPocket 20 (bz_irem) from bz_o_irem (by decide +kernel)) ?_
  refine bz_ac (show bz_ok RX11 cX11_isPocket 21 (bz_if_ne 28) from bz_o_if_ne (off := 7) (t := 28) (by decide +kernel) (by decide)) ?_
  refine bz_ac (show bz_ok RX11 cX11_isPocket 24 (bz_push (.int 1) 1) from bz_o_iconst (n := 1) (v := 1) (by decide +kernel) (by decide)) ?_
  refine bz_ac (show bz_ok RX11 cX11_isPocket 25 (bz_goto 29) from bz_o_goto (off := 4) (t := 29) (by decide +kernel) (by decide)) ?_
  refine bz_ac (show bz_ok RX11 cX11_isPocket 28 (bz_push (.int 0) 1) from bz_o_iconst (n := 0) (v := 0) (by decide +kernel) (by decide)) ?_
  refine bz_ac (show bz_rok cX11_isPocket (some .boolean) 29 3 from Or.inr (Or.inr (Or.inr ⟨rfl, rfl, by decide +kernel⟩))) ?_
  exact bz_an
set_option maxRecDepth 100000 in
theorem bo_X11_isPlace (l : Launch) : ∀ q ∈ bt_X11_isPlace, bz_rw bz_P l bm_X11_isPlace q := by
  refine bz_ac (show bz_ok RX11 cX11_isPlace 0 (bz_iload 0 1) from bz_o_iload_n (k := 0) (i := 0) (by decide +kernel) rfl) ?_
  refine bz_ac (show bz_cok bz_P l RX11 cX11_isPlace 2 45 1 mX11_isCell 1 0 from bz_cS' (own := RX11) (idx := 81) (n := 1) bp_X11_isCell bq_X11_isCell (by decide +kernel) (bz_tb 815 (by decide +kernel) (by decide +kernel)) (bz_tb 816 (by decide +kernel) (by decide +kernel)) rfl (by decide) (by decide)) ?_
  refine bz_ac (show bz_ok RX11 cX11_isPlace 4 (bz_if_eq 18) from bz_o_if_eq (off := 14) (t := 18) (by decide +kernel) (by decide)) ?_
  refine bz_ac (show bz_ok RX11 cX11_isPlace 7 (bz_iload 0 1) from bz_o_iload_n (k := 0) (i := 0) (by decide +kernel) rfl) ?_
  refine bz_ac (show bz_cok bz_P l RX11 cX11_isPlace 2 45 8 mX11_isPocket 1 0 from bz_cS' (own := RX11) (idx := 85) (n := 1) bp_X11_isPocket bq_X11_isPocket (by decide +kernel) (bz_tb 819 (by decide +kernel) (by decide +kernel)) (bz_tb 820 (by decide +kernel) (by decide +kernel)) rfl (by decide) (by decide)) ?_
  refine bz_ac (show bz_ok RX11 cX11_isPlace 11 (bz_if_ne 18) from bz_o_if_ne (off := 7) (t := 18) (by decide +kernel) (by decide)) ?_
  refine bz_ac (show bz_ok RX11 cX11_isPlace 14 (bz_push (.int 1) 1) from bz_o_iconst (n := 1) (v := 1) (by decide +kernel) (by decide)) ?_
  refine bz_ac (show bz_ok RX11 cX11_isPlace 15 (bz_goto 19) from bz_o_goto (off := 4) (t := 19) (by decide +kernel) (by decide)) ?_
  refine bz_ac (show bz_ok RX11 cX11_isPlace 18 (bz_push (.int 0) 1) from bz_o_iconst (n := 0) (v := 0) (by decide +kernel) (by decide)) ?_
  refine bz_ac (show bz_rok cX11_isPlace (some .boolean) 19 3 from Or.inr (Or.inr (Or.inr ⟨rfl, rfl, by decide +kernel⟩))) ?_
  exact bz_an
set_option maxRecDepth 100000 in
theorem bo_X11_home (l : Launch) : ∀ q ∈ bt_X11_home, bz_rw bz_P l bm_X11_home q := by
  refine bz_ac (show bz_ok RX11 cX11_home 0 (bz_iload 0 1) from bz_o_iload_n (k := 0) (i := 0) (by decide +kernel) rfl) ?_
  refine bz_ac (show bz_ok RX11 cX11_home 1 (bz_if_ne 9) from bz_o_if_ne (off := 8) (t := 9) (by decide +kernel) (by decide)) ?_
  refine bz_ac (show bz_ok RX11 cX11_home 4 (bz_push (.int 10) 2) from bz_o_bipush (n := 10) (v := 10) (by decide +kernel) (by decide)) ?_
  refine bz_ac (show bz_ok RX11 cX11_home 6 (bz_goto 21) from bz_o_goto (off := 15) (t := 21) (by decide +kernel) (by decide)) ?_
  refine bz_ac (show bz_ok RX11 cX11_home 9 (bz_iload 0 1) from bz_o_iload_n (k := 0) (i := 0) (by decide +kernel) rfl) ?_
  refine bz_ac (show bz_ok RX11 cX11_home 10 (bz_push (.int 1) 1) from bz_o_iconst (n := 1) (v := 1) (by decide +kernel) (by decide)) ?_
  refine bz_ac (show bz_ok RX11 cX11_home 11 (bz_ic_ne 19) from bz_o_ic_ne (off := 8) (t := 19) (by decide +kernel) (by decide)) ?_
  refine bz_ac (show bz_ok RX11 cX11_home 14 (bz_push (.int 16) 2) from bz_o_bipush (n := 16) (v := 16) (by decide +kernel) (by decide)) ?_
  refine bz_ac (show bz_ok RX11 cX11_home 16 (bz_goto 21) from bz_o_goto (off := 5) (t := 21) (by decide +kernel) (by decide)) ?_
  refine bz_ac (show bz_ok RX11 cX11_home 19 (bz_push (.int 24) 2) from bz_o_bipush (n := 24) (v := 24) (by decide +kernel) (by decide)) ?_
  refine bz_ac (show bz_rok cX11_home (some .int) 21 1 from Or.inr (Or.inl ⟨rfl, rfl, by decide +kernel⟩)) ?_
  exact bz_an
set_option maxRecDepth 100000 in
theorem bo_X11_downwards (l : Launch) : ∀ q ∈ bt_X11_downwards, bz_rw bz_P l bm_X11_downwards q := by
  refine bz_ac (show bz_ok RX11 cX11_downwards 0 (bz_iload 0 1) from bz_o_iload_n (k := 0) (i := 0) (by decide +kernel) rfl) ?_
  refine bz_ac (show bz_ok RX11 cX11_downwards 1 (bz_if_eq 15) from bz_o_if_eq (off := 14) (t := 15) (by decide +kernel) (by decide)) ?_
  refine bz_ac (show bz_ok RX11 cX11_downwards 4 (bz_iload 0 1) from bz_o_iload_n (k := 0) (i := 0) (by decide +kernel) rfl) ?_
  refine bz_ac (show bz_ok RX11 cX11_downwards 5 (bz_push (.int 1) 1) from bz_o_iconst (n := 1) (v := 1) (by decide +kernel) (by decide)) ?_
  refine bz_ac (show bz_ok RX11 cX11_downwards 6 (bz_ic_eq 15) from bz_o_ic_eq (off := 9) (t := 15) (by decide +kernel) (by decide)) ?_
  refine bz_ac (show bz_ok RX11 cX11_downwards 9 (bz_iload 0 1) from bz_o_iload_n (k := 0) (i := 0) (by decide +kernel) rfl) ?_
  refine bz_ac (show bz_ok RX11 cX11_downwards 10 (bz_push (.int 7) 2) from bz_o_bipush (n := 7) (v := 7) (by decide +kernel) (by decide)) ?_
  refine bz_ac (show bz_ok RX11 cX11_downwards 12 (bz_ic_ne 19) from bz_o_ic_ne (off := 7) (t := 19) (by decide +kernel) (by decide)) ?_
  refine bz_ac (show bz_ok RX11 cX11_downwards 15 (bz_push (.int (-1)) 1) from bz_o_iconst (n := (-1)) (v := (-1)) (by decide +kernel) (by decide)) ?_
  refine bz_ac (show bz_ok RX11 cX11_downwards 16 (bz_goto 35) from bz_o_goto (off := 19) (t := 35) (by decide +kernel) (by decide)) ?_
  refine bz_ac (show bz_ok RX11 cX11_downwards 19 (bz_iload 0 1) from bz_o_iload_n (k := 0) (i := 0) (by decide +kernel) rfl) ?_
  refine bz_ac (show bz_ok RX11 cX11_downwards 20 (bz_push (.int 2) 1) from bz_o_iconst (n := 2) (v := 2) (by decide +kernel) (by decide)) ?_
  refine bz_ac (show bz_ok RX11 cX11_downwards 21 (bz_ic_eq 30) from bz_o_ic_eq (off := 9) (t := 30) (by decide +kernel) (by decide)) ?_
  refine bz_ac (show bz_ok RX11 cX11_downwards 24 (bz_iload 0 1) from bz_o_iload_n (k := 0) (i := 0) (by decide +kernel) rfl) ?_
  refine bz_ac (show bz_ok RX11 cX11_downwards 25 (bz_push (.int 6) 2) from bz_o_bipush (n := 6) (v := 6) (by decide +kernel) (by decide)) ?_
  refine bz_ac (show bz_ok RX11 cX11_downwards 27 (bz_ic_ne 34) from bz_o_ic_ne (off := 7) (t := 34) (by decide +kernel) (by decide)) ?_
  refine bz_ac (show bz_ok RX11 cX11_downwards 30 (bz_push (.int 0) 1) from bz_o_iconst (n := 0) (v := 0) (by decide +kernel) (by decide)) ?_
  refine bz_ac (show bz_ok RX11 cX11_downwards 31 (bz_goto 35) from bz_o_goto (off := 4) (t := 35) (by decide +kernel) (by decide)) ?_
  refine bz_ac (show bz_ok RX11 cX11_downwards 34 (bz_push (.int 1) 1) from bz_o_iconst (n := 1) (v := 1) (by decide +kernel) (by decide)) ?_
  refine bz_ac (show bz_rok cX11_downwards (some .int) 35 1 from Or.inr (Or.inl ⟨rfl, rfl, by decide +kernel⟩)) ?_
  exact bz_an
set_option maxRecDepth 100000 in
theorem bo_X11_across (l : Launch) : ∀ q ∈ bt_X11_across, bz_rw bz_P l bm_X11_across q := by
  refine bz_ac (show bz_ok RX11 cX11_across 0 (bz_iload 0 1) from bz_o_iload_n (k := 0) (i := 0) (by decide +kernel) rfl) ?_
  refine bz_ac (show bz_ok RX11 cX11_across 1 (bz_if_eq 9) from bz_o_if_eq (off := 8) (t := 9) (by decide +kernel) (by decide)) ?_
  refine bz_ac (show bz_ok RX11 cX11_across 4 (bz_iload 0 1) from bz_o_iload_n (k := 0) (i := 0) (by decide +kernel) rfl) ?_
  refine bz_ac (show bz_ok RX11 cX11_across 5 (bz_push (.int 4) 1) from bz_o_iconst (n := 4) (v := 4) (by decide +kernel) (by decide)) ?_
  refine bz_ac (show bz_ok RX11 cX11_across 6 (bz_ic_ne 13) from bz_o_ic_ne (off := 7) (t := 13) (by decide +kernel) (by decide)) ?_
  refine bz_ac (show bz_ok RX11 cX11_across 9 (bz_push (.int 0) 1) from bz_o_iconst (n := 0) (v := 0) (by decide +kernel) (by decide)) ?_
  refine bz_ac (show bz_ok RX11 cX11_across 10 (bz_goto 23) from bz_o_goto (off := 13) (t := 23) (by decide +kernel) (by decide)) ?_
  refine bz_ac (show bz_ok RX11 cX11_across 13 (bz_iload 0 1) from bz_o_iload_n (k := 0) (i := 0) (by decide +kernel) rfl) ?_
  refine bz_ac (show bz_ok RX11 cX11_across 14 (bz_push (.int 4) 1) from bz_o_iconst (n := 4) (v := 4) (by decide +kernel) (by decide)) ?_
  refine bz_ac (show bz_ok RX11 cX11_across 15 (bz_ic_ge 22) from bz_o_ic_ge (off := 7) (t := 22) (by decide +kernel) (by decide)) ?_
  refine bz_ac (show bz_ok RX11 cX11_across 18 (bz_push (.int 1) 1) from bz_o_iconst (n := 1) (v := 1) (by decide +kernel) (by decide)) ?_
  refine bz_ac (show bz_ok RX11 cX11_across 19 (bz_goto 23) from bz_o_goto (off := 4) (t := 23) (by decide +kernel) (by decide)) ?_
  refine bz_ac (show bz_ok RX11 cX11_across 22 (bz_push (.int (-1)) 1) from bz_o_iconst (n := (-1)) (v := (-1)) (by decide +kernel) (by decide)) ?_
  refine bz_ac (show bz_rok cX11_across (some .int) 23 1 from Or.inr (Or.inl ⟨rfl, rfl, by decide +kernel⟩)) ?_
  exact bz_an
set_option maxRecDepth 100000 in
theorem bo_X11_turned (l : Launch) : ∀ q ∈ bt_X11_turned, bz_rw bz_P l bm_X11_turned q := by
  refine bz_ac (show bz_ok RX11 cX11_turned 0 (bz_iload 0 1) from bz_o_iload_n (k := 0) (i := 0) (by decide +kernel) rfl) ?_
  refine bz_ac (show bz_ok RX11 cX11_turned 1 (bz_push (.int 9) 2) from bz_o_bipush (n := 9) (v := 9) (by decide +kernel) (by decide)) ?_
  refine bz_ac (show bz_ok RX11 cX11_turned 3 (bz_idiv) from bz_o_idiv (by decide +kernel)) ?_
  refine bz_ac (show bz_ok RX11 cX11_turned 4 (bz_iload 1 1) from bz_o_iload_n (k := 1) (i := 1) (by decide +kernel) rfl) ?_
  refine bz_ac (show bz_cok bz_P l RX11 cX11_turned 1 25 5 mX11_downwards 1 0 from bz_cS' (own := RX11) (idx := 88) (n := 1) bp_X11_downwards bq_X11_downwards (by decide +kernel) (bz_tb 911 (by decide +kernel) (by decide +kernel)) (bz_tb 912 (by decide +kernel) (by decide +kernel)) rfl (by decide) (by decide)) ?_
  refine bz_ac (show bz_ok RX11 cX11_turned 8 (bz_iadd) from bz_o_iadd (by decide +kernel)) ?_
  refine bz_ac (show bz_ok RX11 cX11_turned 9 (bz_i2l) from bz_o_i2l (by decide +kernel)) ?_
  refine bz_ac (show bz_ok RX11 cX11_turned 10 (bz_push (.long 0) 1) from bz_o_lconst (n := 0) (v := 0) (by decide +kernel) (by decide)) ?_
  refine bz_ac (show bz_ok RX11 cX11_turned 11 (bz_push (.long 4) 3) from bz_o_ldc2 (own := RX11) (i := 91) (v := 4) (by decide +kernel) (bz_tb 914 (by decide +kernel) (by decide +kernel))) ?_
  refine bz_ac (show bz_cok bz_P l RX11 cX11_turned 1 25 14 mX11_in 3 0 from bz_cS' (own := RX11) (idx := 75) (n := 3) bp_X11_in bq_X11_in (by decide +kernel) (bz_tb 809 (by decide +kernel) (by decide +kernel)) (bz_tb 810 (by decide +kernel) (by decide +kernel)) rfl (by decide) (by decide)) ?_
  refine bz_ac (show bz_ok RX11 cX11_turned 17 (bz_if_ne 24) from bz_o_if_ne (off := 7) (t := 24) (by decide +kernel) (by decide)) ?_
  refine bz_ac (show bz_ok RX11 cX11_turned 20 (bz_push (.int 1) 1) from bz_o_iconst (n := 1) (v := 1) (by decide +kernel) (by decide)) ?_
  refine bz_ac (show bz_ok RX11 cX11_turned 21 (bz_goto 25) from bz_o_goto (off := 4) (t := 25) (by decide +kernel) (by decide)) ?_
  refine bz_ac (show bz_ok RX11 cX11_turned 24 (bz_push (.int 0) 1) from bz_o_iconst (n := 0) (v := 0) (by decide +kernel) (by decide)) ?_
  refine bz_ac (show bz_ok RX11 cX11_turned 25 (bz_istore 2 1) from bz_o_istore_n (k := 2) (i := 2) (by decide +kernel) rfl) ?_
  refine bz_ac (show bz_ok RX11 cX11_turned 26 (bz_iload 0 1) from bz_o_iload_n (k := 0) (i := 0) (by decide +kernel) rfl) ?_
  refine bz_ac (show bz_ok RX11 cX11_turned 27 (bz_push (.int 9) 2) from bz_o_bipush (n := 9) (v := 9) (by decide +kernel) (by decide)) ?_
  refine bz_ac (show bz_ok RX11 cX11_turned 29 (bz_irem) from bz_o_irem (by decide +kernel)) ?_
  refine bz_ac (show bz_ok RX11 cX11_turned 30 (bz_iload 1 1) from bz_o_iload_n (k := 1) (i := 1) (by decide +kernel) rfl) ?_
  refine bz_ac (show bz_cok bz_P l RX11 cX11_turned 1 25 31 mX11_across 1 0 from bz_cS' (own := RX11) (idx := 93) (n := 1) bp_X11_across bq_X11_across (by decide +kernel) (bz_tb 915 (by decide +kernel) (by decide +kernel)) (bz_tb 916 (by decide +kernel) (by decide +kernel)) rfl (by decide) (by decide)) ?_
  refine bz_ac (show bz_ok RX11 cX11_turned 34 (bz_iadd) from bz_o_iadd (by decide +kernel)) ?_
  refine bz_ac (show bz_ok RX11 cX11_turned 35 (bz_i2l) from bz_o_i2l (by decide +kernel)) ?_
  refine bz_ac (show bz_ok RX11 cX11_turned 36 (bz_push (.long 0) 1) from bz_o_lconst (n := 0) (v := 0) (by decide +kernel) (by decide)) ?_
  refine bz_ac (show bz_ok RX11 cX11_turned 37 (bz_push (.long 8) 3) from bz_o_ldc2 (own := RX11) (i := 96) (v := 8) (by decide +kernel) (bz_tb 918 (by decide +kernel) (by decide +kernel))) ?_
  refine bz_ac (show bz_cok bz_P l RX11 cX11_turned 1 25 40 mX11_in 3 0 from bz_cS' (own := RX11) (idx := 75) (n := 3) bp_X11_in bq_X11_in (by decide +kernel) (bz_tb 809 (by decide +kernel) (by decide +kernel)) (bz_tb 810 (by decide +kernel) (by decide +kernel)) rfl (by decide) (by decide)) ?_
  refine bz_ac (show bz_ok RX11 cX11_turned 43 (bz_if_ne 50) from bz_o_if_ne (off := 7) (t := 50) (by decide +kernel) (by decide)) ?_
  refine bz_ac (show bz_ok RX11 cX11_turned 46 (bz_push (.int 1) 1) from bz_o_iconst (n := 1) (v := 1) (by decide +kernel) (by decide)) ?_
  refine bz_ac (show bz_ok RX11 cX11_turned 47 (bz_goto 51) from bz_o_goto (off := 4) (t := 51) (by decide +kernel) (by decide)) ?_
  refine bz_ac (show bz_ok RX11 cX11_turned 50 (bz_push (.int 0) 1) from bz_o_iconst (n := 0) (v := 0) (by decide +kernel) (by decide)) ?_
  refine bz_ac (show bz_ok RX11 cX11_turned 51 (bz_istore 3 1) from bz_o_istore_n (k := 3) (i := 3) (by decide +kernel) rfl) ?_
  refine bz_ac (show bz_ok RX11 cX11_turned 52 (bz_iload 2 1) from bz_o_iload_n (k := 2) (i := 2) (by decide +kernel) rfl) ?_
  refine bz_ac (show bz_ok RX11 cX11_turned 53 (bz_if_eq 66) from bz_o_if_eq (off := 13) (t := 66) (by decide +kernel) (by decide)) ?_
  refine bz_ac (show bz_ok RX11 cX11_turned 56 (bz_push (.int 12) 2) from bz_o_bipush (n := 12) (v := 12) (by decide +kernel) (by decide)) ?_
  refine bz_ac (show bz_ok RX11 cX11_turned 58 (bz_iload 1 1) from bz_o_iload_n (k := 1) (i := 1) (by decide +kernel) rfl) ?_
  refine bz_ac (show bz_ok RX11 cX11_turned 59 (bz_isub) from bz_o_isub (by decide +kernel)) ?_
  refine bz_ac (show bz_ok RX11 cX11_turned 60 (bz_push (.int 8) 2) from bz_o_bipush (n := 8) (v := 8) (by decide +kernel) (by decide)) ?_
  refine bz_ac (show bz_ok RX11 cX11_turned 62 (bz_irem) from bz_o_irem (by decide +kernel)) ?_
  refine bz_ac (show bz_ok RX11 cX11_turned 63 (bz_goto 67) from bz_o_goto (off := 4) (t := 67) (by decide +kernel) (by decide)) ?_
  refine bz_ac (show bz_ok RX11 cX11_turned 66 (bz_iload 1 1) from bz_o_iload_n (k := 1) (i := 1) (by decide +kernel) rfl) ?_
  refine bz_ac (show bz_ok RX11 cX11_turned 67 (bz_istore 4 2) from bz_o_istore (i := 4) (by decide +kernel)) ?_
  refine bz_ac (show bz_ok RX11 cX11_turned 69 (bz_iload 3 1) from bz_o_iload_n (k := 3) (i := 3) (by decide +kernel) rfl) ?_
  refine bz_ac (show bz_ok RX11 cX11_turned 70 (bz_if_eq 84) from bz_o_if_eq (off := 14) (t := 84) (by decide +kernel) (by decide)) ?_
  refine bz_ac (show bz_ok RX11 cX11_turned 73 (bz_push (.int 8) 2) from bz_o_bipush (n := 8) (v := 8) (by decide +kernel) (by decide)) ?_
  refine bz_ac (show bz_ok RX11 cX11_turned 75 (bz_iload 4 2) from bz_o_iload (i := 4) (by decide +kernel)) ?_
  refine bz_ac (show bz_ok RX11 cX11_turned 77 (bz_isub) from bz_o_isub (by decide +kernel)) ?_
  refine bz_ac (show bz_ok RX11 cX11_turned 78 (bz_push (.int 8) 2) from bz_o_bipush (n := 8) (v := 8) (by decide +kernel) (by decide)) ?_
  refine bz_ac (show bz_ok RX11 cX11_turned 80 (bz_irem) from bz_o_irem (by decide +kernel)) ?_
  refine bz_ac (show bz_ok RX11 cX11_turned 81 (bz_goto 86) from bz_o_goto (off := 5) (t := 86) (by decide +kernel) (by decide)) ?_
  refine bz_ac (show bz_ok RX11 cX11_turned 84 (bz_iload 4 2) from bz_o_iload (i := 4) (by decide +kernel)) ?_
  refine bz_ac (show bz_rok cX11_turned (some .int) 86 1 from Or.inr (Or.inl ⟨rfl, rfl, by decide +kernel⟩)) ?_
  exact bz_an
set_option maxRecDepth 100000 in
theorem bo_X11_ahead (l : Launch) : ∀ q ∈ bt_X11_ahead, bz_rw bz_P l bm_X11_ahead q := by
  refine bz_ac (show bz_ok RX11 cX11_ahead 0 (bz_iload 0 1) from bz_o_iload_n (k := 0) (i := 0) (by decide +kernel) rfl) ?_
  refine bz_ac (show bz_ok RX11 cX11_ahead 1 (bz_push (.int 9) 2) from bz_o_bipush (n := 9) (v := 9) (by decide +kernel) (by decide)) ?_
  refine bz_ac (show bz_ok RX11 cX11_ahead 3 (bz_iload 1 1) from bz_o_iload_n (k := 1) (i := 1) (by decide +kernel) rfl) ?_
  refine bz_ac (show bz_cok bz_P l RX11 cX11_ahead 1 20 4 mX11_downwards 1 0 from bz_cS' (own := RX11) (idx := 88) (n := 1) bp_X11_downwards bq_X11_downwards (by decide +kernel) (bz_tb 911 (by decide +kernel) (by decide +kernel)) (bz_tb 912 (by decide +kernel) (by decide +kernel)) rfl (by decide) (by decide)) ?_
  refine bz_ac (show bz_ok RX11 cX11_ahead 7 (bz_imul) from bz_o_imul (by decide +kernel)) ?_
  refine bz_ac (show bz_ok RX11 cX11_ahead 8 (bz_iadd) from bz_o_iadd (by decide +kernel)) ?_
  refine bz_ac (show bz_ok RX11 cX11_ahead 9 (bz_iload 1 1) from bz_o_iload_n (k := 1) (i := 1) (by decide +kernel) rfl) ?_
  refine bz_ac (show bz_cok bz_P l RX11 cX11_ahead 1 20 10 mX11_across 1 0 from bz_cS' (own := RX11) (idx := 93) (n := 1) bp_X11_across bq_X11_across (by decide +kernel) (bz_tb 915 (by decide +kernel) (by decide +kernel)) (bz_tb 916 (by decide +kernel) (by decide +kernel)) rfl (by decide) (by decide)) ?_
  refine bz_ac (show bz_ok RX11 cX11_ahead 13 (bz_iadd) from bz_o_iadd (by decide +kernel)) ?_
  refine bz_ac (show bz_rok cX11_ahead (some .int) 14 1 from Or.inr (Or.inl ⟨rfl, rfl, by decide +kernel⟩)) ?_
  exact bz_an
set_option maxRecDepth 100000 in
theorem bo_X11_ballOn (l : Launch) : ∀ q ∈ bt_X11_ballOn, bz_rw bz_P l bm_X11_ballOn q := by
  refine bz_ac (show bz_ok RX11 cX11_ballOn 0 (bz_push (.int (-6)) 2) from bz_o_bipush (n := (-6)) (v := (-6)) (by decide +kernel) (by decide)) ?_
  refine bz_ac (show bz_ok RX11 cX11_ballOn 2 (bz_istore 2 1) from bz_o_istore_n (k := 2) (i := 2) (by decide +kernel) rfl) ?_
  refine bz_ac (show bz_ok RX11 cX11_ballOn 3 (bz_push (.int 0) 1) from bz_o_iconst (n := 0) (v := 0) (by decide +kernel) (by decide)) ?_
  refine bz_ac (show bz_ok RX11 cX11_ballOn 4 (bz_istore 3 1) from bz_o_istore_n (k := 3) (i := 3) (by decide +kernel) rfl) ?_
  refine bz_ac (show bz_ok RX11 cX11_ballOn 5 (bz_iload 3 1) from bz_o_iload_n (k := 3) (i := 3) (by decide +kernel) rfl) ?_
  refine bz_ac (show bz_ok RX11 cX11_ballOn 6 (bz_push (.int 3) 1) from bz_o_iconst (n := 3) (v := 3) (by decide +kernel) (by decide)) ?_
  refine bz_ac (show bz_ok RX11 cX11_ballOn 7 (bz_ic_ge 32) from bz_o_ic_ge (off := 25) (t := 32) (by decide +kernel) (by decide)) ?_
  refine bz_ac (show bz_ok RX11 cX11_ballOn 10 (bz_aload 0 1) from bz_o_aload_n (k := 0) (i := 0) (by decide +kernel) rfl) ?_
  refine bz_ac (show bz_ok RX11 cX11_ballOn 11 (bz_getR 10 0) from bz_o_getR (ci := 10) (k := 0) (idx := 7) (C := RX11) (T := TX11) (N := 42) rfl bh_10 rfl rfl (bz_tb 672 (by decide +kernel) (by decide +kernel)) rfl (by decide +kernel)) ?_
  refine bz_ac (show bz_ok RX11 cX11_ballOn 14 (bz_iload 3 1) from bz_o_iload_n (k := 3) (i := 3) (by decide +kernel) rfl) ?_
  refine bz_ac (show bz_ok RX11 cX11_ballOn 15 (bz_iald) from bz_o_iald (by decide +kernel)) ?_
  refine bz_ac (show bz_ok RX11 cX11_ballOn 16 (bz_iload 1 1) from bz_o_iload_n (k := 1) (i := 1) (by decide +kernel) rfl) ?_
  refine bz_ac (show bz_ok RX11 cX11_ballOn 17 (bz_ic_ne 24) from bz_o_ic_ne (off := 7) (t := 24) (by decide +kernel) (by decide)) ?_
  refine bz_ac (show bz_ok RX11 cX11_ballOn 20 (bz_iload 3 1) from bz_o_iload_n (k := 3) (i := 3) (by decide +kernel) rfl) ?_
  refine bz_ac (show bz_ok RX11 cX11_ballOn 21 (bz_goto 25) from bz_o_goto (off := 4) (t := 25) (by decide +kernel) (by decide)) ?_
  refine bz_ac (show bz_ok RX11 cX11_ballOn 24 (bz_iload 2 1) from bz_o_iload_n (k := 2) (i := 2) (by decide +kernel) rfl) ?_
  refine bz_ac (show bz_ok RX11 cX11_ballOn 25 (bz_istore 2 1) from bz_o_istore_n (k := 2) (i := 2) (by decide +kernel) rfl) ?_
  refine bz_ac (show bz_ok RX11 cX11_ballOn 26 (bz_iinc 3 1) from bz_o_iinc (i := 3) (n := 1) (v := 1) (by decide +kernel) (by decide)) ?_
  refine bz_ac (show bz_ok RX11 cX11_ballOn 29 (bz_goto 5) from bz_o_goto (off := (-24)) (t := 5) (by decide +kernel) (by decide)) ?_
  refine bz_ac (show bz_ok RX11 cX11_ballOn 32 (bz_iload 2 1) from bz_o_iload_n (k := 2) (i := 2) (by decide +kernel) rfl) ?_
  refine bz_ac (show bz_rok cX11_ballOn (some .int) 33 1 from Or.inr (Or.inl ⟨rfl, rfl, by decide +kernel⟩)) ?_
  exact bz_an
set_option maxRecDepth 100000 in
theorem bo_X11_ball (l : Launch) : ∀ q ∈ bt_X11_ball, bz_rw bz_P l bm_X11_ball q := by
  refine bz_ac (show bz_ok RX11 cX11_ball 0 (bz_iload 1 1) from bz_o_iload_n (k := 1) (i := 1) (by decide +kernel) rfl) ?_
  refine bz_ac (show bz_cok bz_P l RX11 cX11_ball 3 65 1 mX11_isBall 1 0 from bz_cS' (own := RX11) (idx := 98) (n := 1) bp_X11_isBall bq_X11_isBall (by decide +kernel) (bz_tb 805 (by decide +kernel) (by decide +kernel)) (bz_tb 806 (by decide +kernel) (by decide +kernel)) rfl (by decide) (by decide)) ?_
  refine bz_ac (show bz_ok RX11 cX11_ball 4 (bz_if_eq 19) from bz_o_if_eq (off := 15) (t := 19) (by decide +kernel) (by decide)) ?_
  refine bz_ac (show bz_ok RX11 cX11_ball 7 (bz_iload 2 1) from bz_o_iload_n (k := 2) (i := 2) (by decide +kernel) rfl) ?_
  refine bz_ac (show bz_ok RX11 cX11_ball 8 (bz_push (.int (-1)) 1) from bz_o_iconst (n := (-1)) (v := (-1)) (by decide +kernel) (by decide)) ?_
  refine bz_ac (show bz_ok RX11 cX11_ball 9 (bz_ic_eq 21) from bz_o_ic_eq (off := 12) (t := 21) (by decide +kernel) (by decide)) ?_
  refine bz_ac (show bz_ok RX11 cX11_ball 12 (bz_iload 2 1) from bz_o_iload_n (k := 2) (i := 2) (by decide +kernel) rfl) ?_
  refine bz_ac (show bz_cok bz_P l RX11 cX11_ball 3 65 13 mX11_isPlace 1 0 from bz_cS' (own := RX11) (idx := 101) (n := 1) bp_X11_isPlace bq_X11_isPlace (by decide +kernel) (bz_tb 812 (by decide +kernel) (by decide +kernel)) (bz_tb 813 (by decide +kernel) (by decide +kernel)) rfl (by decide) (by decide)) ?_
  refine bz_ac (show bz_ok RX11 cX11_ball 16 (bz_if_ne 21) from bz_o_if_ne (off := 5) (t := 21) (by decide +kernel) (by decide)) ?_
  refine bz_ac (show bz_ok RX11 cX11_ball 19 (bz_push (.int (-1)) 1) from bz_o_iconst (n := (-1)) (v := (-1)) (by decide +kernel) (by decide)) ?_
  refine bz_ac (show bz_rok cX11_ball (some .int) 20 1 from Or.inr (Or.inl ⟨rfl, rfl, by decide +kernel⟩)) ?_
  refine bz_ac (show bz_ok RX11 cX11_ball 21 (bz_iload 2 1) from bz_o_iload_n (k := 2) (i := 2) (by decide +kernel) rfl) ?_
  refine bz_ac (show bz_ok RX11 cX11_ball 22 (bz_if_ge 30) from bz_o_if_ge (off := 8) (t := 30) (by decide +kernel) (by decide)) ?_
  refine bz_ac (show bz_ok RX11 cX11_ball 25 (bz_push (.int (-6)) 2) from bz_o_bipush (n := (-6)) (v := (-6)) (by decide +kernel) (by decide)) ?_
  refine bz_ac (show bz_ok RX11 cX11_ball 27 (bz_goto 35) from bz_o_goto (off := 8) (t := 35) (by decide +kernel) (by decide)) ?_
  refine bz_ac (show bz_ok RX11 cX11_ball 30 (bz_aload 0 1) from bz_o_aload_n (k := 0) (i := 0) (by decide +kernel) rfl) ?_
  refine bz_ac (show bz_ok RX11 cX11_ball 31 (bz_iload 2 1) from bz_o_iload_n (k := 2) (i := 2) (by decide +kernel) rfl) ?_
  refine bz_ac (show bz_cok bz_P l RX11 cX11_ball 3 65 32 mX11_ballOn 2 11 from bz_cV' (own := RX11) (idx := 104) (ci := 10) (N := 42) (T := TX11) (n := 1) bp_X11_ballOn bq_X11_ballOn (by decide +kernel) (bz_tb 822 (by decide +kernel) (by decide +kernel)) (bz_tb 824 (by decide +kernel) (by decide +kernel)) (bz_tb 12 (by decide +kernel) (by decide +kernel)) rfl rfl (by decide) (by decide)) ?_
  refine bz_ac (show bz_ok RX11 cX11_ball 35 (bz_istore 3 1) from bz_o_istore_n (k := 3) (i := 3) (by decide +kernel) rfl) ?_
  refine bz_ac (show bz_ok RX11 cX11_ball 36 (bz_iload 3 1) from bz_o_iload_n (k := 3) (i := 3) (by decide +kernel) rfl) ?_
  refine bz_ac (show bz_ok RX11 cX11_ball 37 (bz_if_lt 48) from bz_o_if_lt (off := 11) (t := 48) (by decide +kernel) (by decide)) ?_
  refine bz_ac (show bz_ok RX11 cX11_ball 40 (bz_iload 3 1) from bz_o_iload_n (k := 3) (i := 3) (by decide +kernel) rfl) ?_
  refine bz_ac (show bz_ok RX11 cX11_ball 41 (bz_iload 1 1) from bz_o_iload_n (k := 1) (i := 1) (by decide +kernel) rfl) ?_
  refine bz_ac (show bz_ok RX11 cX11_ball 42 (bz_ic_eq 48) from bz_o_ic_eq (off := 6) (t := 48) (by decide +kernel) (by decide)) ?_
  refine bz_ac (show bz_ok RX11 cX11_ball 45 (bz_push (.int (-3)) 2) from bz_o_bipush (n := (-3)) (v := (-3)) (by decide +kernel) (by decide)) ?_
  refine bz_ac (show bz_rok cX11_ball (some .int) 47 1 from Or.inr (Or.inl ⟨rfl, rfl, by decide +kernel⟩)) ?_
  refine bz_ac (show bz_ok RX11 cX11_ball 48 (bz_aload 0 1) from bz_o_aload_n (k := 0) (i := 0) (by decide +kernel) rfl) ?_
  refine bz_ac (show bz_ok RX11 cX11_ball 49 (bz_getR 10 0) from bz_o_getR (ci := 10) (k := 0) (idx := 7) (C := RX11) (T := TX11) (N := 42) rfl bh_10 rfl rfl (bz_tb 672 (by decide +kernel) (by decide +kernel)) rfl (by decide +kernel)) ?_
  refine bz_ac (show bz_ok RX11 cX11_ball 52 (bz_iload 1 1) from bz_o_iload_n (k := 1) (i := 1) (by decide +kernel) rfl) ?_
  refine bz_ac (show bz_ok RX11 cX11_ball 53 (bz_iald) from bz_o_iald (by decide +kernel)) ?_
  refine bz_ac (show bz_ok RX11 cX11_ball 54 (bz_istore 4 2) from bz_o_istore (i := 4) (by decide +kernel)) ?_
  refine bz_ac (show bz_ok RX11 cX11_ball 56 (bz_aload 0 1) from bz_o_aload_n (k := 0) (i := 0) (by decide +kernel) rfl) ?_
  refine bz_ac (show bz_ok RX11 cX11_ball 57 (bz_getR 10 0) from bz_o_getR (ci := 10) (k := 0) (idx := 7) (C := RX11) (T := TX11) (N := 42) rfl bh_10 rfl rfl (bz_tb 672 (by decide +kernel) (by decide +kernel)) rfl (by decide +kernel)) ?_
  refine bz_ac (show bz_ok RX11 cX11_ball 60 (bz_iload 1 1) from bz_o_iload_n (k := 1) (i := 1) (by decide +kernel) rfl) ?_
  refine bz_ac (show bz_ok RX11 cX11_ball 61 (bz_iload 2 1) from bz_o_iload_n (k := 2) (i := 2) (by decide +kernel) rfl) ?_
  refine bz_ac (show bz_ok RX11 cX11_ball 62 (bz_if_ge 70) from bz_o_if_ge (off := 8) (t := 70) (by decide +kernel) (by decide)) ?_
  refine bz_ac (show bz_ok RX11 cX11_ball 65 (bz_push (.int (-6)) 2) from bz_o_bipush (n := (-6)) (v := (-6)) (by decide +kernel) (by decide)) ?_
  refine bz_ac (show bz_ok RX11 cX11_ball 67 (bz_goto 71) from bz_o_goto (off := 4) (t := 71) (by decide +kernel) (by decide)) ?_
  refine bz_ac (show bz_ok RX11 cX11_ball 70 (bz_iload 2 1) from bz_o_iload_n (k := 2) (i := 2) (by decide +kernel) rfl) ?_
  refine bz_ac (show bz_ok RX11 cX11_ball 71 (bz_iast) from bz_o_iast (by decide +kernel)) ?_
  refine bz_ac (show bz_ok RX11 cX11_ball 72 (bz_iload 4 2) from bz_o_iload (i := 4) (by decide +kernel)) ?_
  refine bz_ac (show bz_rok cX11_ball (some .int) 74 1 from Or.inr (Or.inl ⟨rfl, rfl, by decide +kernel⟩)) ?_
  exact bz_an
set_option maxRecDepth 100000 in
theorem bo_X11_score (l : Launch) : ∀ q ∈ bt_X11_score, bz_rw bz_P l bm_X11_score q := by
  refine bz_ac (show bz_ok RX11 cX11_score 0 (bz_iload 1 1) from bz_o_iload_n (k := 1) (i := 1) (by decide +kernel) rfl) ?_
  refine bz_ac (show bz_ok RX11 cX11_score 1 (bz_i2l) from bz_o_i2l (by decide +kernel)) ?_
  refine bz_ac (show bz_ok RX11 cX11_score 2 (bz_push (.long 0) 1) from bz_o_lconst (n := 0) (v := 0) (by decide +kernel) (by decide)) ?_
  refine bz_ac (show bz_ok RX11 cX11_score 3 (bz_push (.long 99) 3) from bz_o_ldc2 (own := RX11) (i := 107) (v := 99) (by decide +kernel) (bz_tb 830 (by decide +kernel) (by decide +kernel))) ?_
  refine bz_ac (show bz_cok bz_P l RX11 cX11_score 1 25 6 mX11_in 3 0 from bz_cS' (own := RX11) (idx := 75) (n := 3) bp_X11_in bq_X11_in (by decide +kernel) (bz_tb 809 (by decide +kernel) (by decide +kernel)) (bz_tb 810 (by decide +kernel) (by decide +kernel)) rfl (by decide) (by decide)) ?_
  refine bz_ac (show bz_ok RX11 cX11_score 9 (bz_if_eq 24) from bz_o_if_eq (off := 15) (t := 24) (by decide +kernel) (by decide)) ?_
  refine bz_ac (show bz_ok RX11 cX11_score 12 (bz_iload 2 1) from bz_o_iload_n (k := 2) (i := 2) (by decide +kernel) rfl) ?_
  refine bz_ac (show bz_ok RX11 cX11_score 13 (bz_i2l) from bz_o_i2l (by decide +kernel)) ?_
  refine bz_ac (show bz_ok RX11 cX11_score 14 (bz_push (.long 0) 1) from bz_o_lconst (n := 0) (v := 0) (by decide +kernel) (by decide)) ?_
  refine bz_ac (show bz_ok RX11 cX11_score 15 (bz_push (.long 99) 3) from bz_o_ldc2 (own := RX11) (i := 107) (v := 99) (by decide +kernel) (bz_tb 830 (by decide +kernel) (by decide +kernel))) ?_
  refine bz_ac (show bz_cok bz_P l RX11 cX11_score 1 25 18 mX11_in 3 0 from bz_cS' (own := RX11) (idx := 75) (n := 3) bp_X11_in bq_X11_in (by decide +kernel) (bz_tb 809 (by decide +kernel) (by decide +kernel)) (bz_tb 810 (by decide +kernel) (by decide +kernel)) rfl (by decide) (by decide)) ?_
  refine bz_ac (show bz_ok RX11 cX11_score 21 (bz_if_ne 27) from bz_o_if_ne (off := 6) (t := 27) (by decide +kernel) (by decide)) ?_
  refine bz_ac (show bz_ok RX11 cX11_score 24 (bz_push (.int (-2)) 2) from bz_o_bipush (n := (-2)) (v := (-2)) (by decide +kernel) (by decide)) ?_
  refine bz_ac (show bz_rok cX11_score (some .int) 26 1 from Or.inr (Or.inl ⟨rfl, rfl, by decide +kernel⟩)) ?_
  refine bz_ac (show bz_ok RX11 cX11_score 27 (bz_push (.int 100) 2) from bz_o_bipush (n := 100) (v := 100) (by decide +kernel) (by decide)) ?_
  refine bz_ac (show bz_ok RX11 cX11_score 29 (bz_aload 0 1) from bz_o_aload_n (k := 0) (i := 0) (by decide +kernel) rfl) ?_
  refine bz_ac (show bz_ok RX11 cX11_score 30 (bz_getI 10 1) from bz_o_getI (ci := 10) (k := 1) (idx := 109) (C := RX11) (T := TX11) (N := 42) rfl bh_10 rfl rfl (bz_tb 673 (by decide +kernel) (by decide +kernel)) (Or.inl rfl) (by decide +kernel)) ?_
  refine bz_ac (show bz_ok RX11 cX11_score 33 (bz_imul) from bz_o_imul (by decide +kernel)) ?_
  refine bz_ac (show bz_ok RX11 cX11_score 34 (bz_aload 0 1) from bz_o_aload_n (k := 0) (i := 0) (by decide +kernel) rfl) ?_
  refine bz_ac (show bz_ok RX11 cX11_score 35 (bz_getI 10 2) from bz_o_getI (ci := 10) (k := 2) (idx := 113) (C := RX11) (T := TX11) (N := 42) rfl bh_10 rfl rfl (bz_tb 674 (by decide +kernel) (by decide +kernel)) (Or.inl rfl) (by decide +kernel)) ?_
  refine bz_ac (show bz_ok RX11 cX11_score 38 (bz_iadd) from bz_o_iadd (by decide +kernel)) ?_
  refine bz_ac (show bz_ok RX11 cX11_score 39 (bz_istore 3 1) from bz_o_istore_n (k := 3) (i := 3) (by decide +kernel) rfl) ?_
  refine bz_ac (show bz_ok RX11 cX11_score 40 (bz_aload 0 1) from bz_o_aload_n (k := 0) (i := 0) (by decide +kernel) rfl) ?_
  refine bz_ac (show bz_ok RX11 cX11_score 41 (bz_iload 1 1) from bz_o_iload_n (k := 1) (i := 1) (by decide +kernel) rfl) ?_
  refine bz_ac (show bz_ok RX11 cX11_score 42 (bz_putI 10 1) from bz_o_putI (ci := 10) (k := 1) (idx := 109) (C := RX11) (T := TX11) (N := 42) rfl bh_10 rfl rfl (bz_tb 673 (by decide +kernel) (by decide +kernel)) tyX11 tyX11_ok nmX11 rfl rfl rfl (by decide +kernel)) ?_
  refine bz_ac (show bz_ok RX11 cX11_score 45 (bz_aload 0 1) from bz_o_aload_n (k := 0) (i := 0) (by decide +kernel) rfl) ?_
  refine bz_ac (show bz_ok RX11 cX11_score 46 (bz_iload 2 1) from bz_o_iload_n (k := 2) (i := 2) (by decide +kernel) rfl) ?_
  refine bz_ac (show bz_ok RX11 cX11_score 47 (bz_putI 10 2) from bz_o_putI (ci := 10) (k := 2) (idx := 113) (C := RX11) (T := TX11) (N := 42) rfl bh_10 rfl rfl (bz_tb 674 (by decide +kernel) (by decide +kernel)) tyX11 tyX11_ok nmX11 rfl rfl rfl (by decide +kernel)) ?_
  refine bz_ac (show bz_ok RX11 cX11_score 50 (bz_iload 3 1) from bz_o_iload_n (k := 3) (i := 3) (by decide +kernel) rfl) ?_
  refine bz_ac (show bz_rok cX11_score (some .int) 51 1 from Or.inr (Or.inl ⟨rfl, rfl, by decide +kernel⟩)) ?_
  exact bz_an
set_option maxRecDepth 100000 in
theorem bo_X11_say (l : Launch) : ∀ q ∈ bt_X11_say, bz_rw bz_P l bm_X11_say q := by
  refine bz_ac (show bz_ok RX11 cX11_say 0 (bz_iload 1 1) from bz_o_iload_n (k := 1) (i := 1) (by decide +kernel) rfl) ?_
  refine bz_ac (show bz_ok RX11 cX11_say 1 (bz_i2l) from bz_o_i2l (by decide +kernel)) ?_
  refine bz_ac (show bz_ok RX11 cX11_say 2 (bz_push (.long 33) 3) from bz_o_ldc2 (own := RX11) (i := 116) (v := 33) (by decide +kernel) (bz_tb 835 (by decide +kernel) (by decide +kernel))) ?_
  refine bz_ac (show bz_ok RX11 cX11_say 5 (bz_push (.long 126) 3) from bz_o_ldc2 (own := RX11) (i := 118) (v := 126) (by decide +kernel) (bz_tb 836 (by decide +kernel) (by decide +kernel))) ?_
  refine bz_ac (show bz_cok bz_P l RX11 cX11_say 1 25 8 mX11_in 3 0 from bz_cS' (own := RX11) (idx := 75) (n := 3) bp_X11_in bq_X11_in (by decide +kernel) (bz_tb 809 (by decide +kernel) (by decide +kernel)) (bz_tb 810 (by decide +kernel) (by decide +kernel)) rfl (by decide) (by decide)) ?_
  refine bz_ac (show bz_ok RX11 cX11_say 11 (bz_if_ne 17) from bz_o_if_ne (off := 6) (t := 17) (by decide +kernel) (by decide)) ?_
  refine bz_ac (show bz_ok RX11 cX11_say 14 (bz_push (.int (-2)) 2) from bz_o_bipush (n := (-2)) (v := (-2)) (by decide +kernel) (by decide)) ?_
  refine bz_ac (show bz_rok cX11_say (some .int) 16 1 from Or.inr (Or.inl ⟨rfl, rfl, by decide +kernel⟩)) ?_
  refine bz_ac (show bz_ok RX11 cX11_say 17 (bz_aload 0 1) from bz_o_aload_n (k := 0) (i := 0) (by decide +kernel) rfl) ?_
  refine bz_ac (show bz_ok RX11 cX11_say 18 (bz_getI 10 8) from bz_o_getI (ci := 10) (k := 8) (idx := 120) (C := RX11) (T := TX11) (N := 42) rfl bh_10 rfl rfl (bz_tb 680 (by decide +kernel) (by decide +kernel)) (Or.inl rfl) (by decide +kernel)) ?_
  refine bz_ac (show bz_ok RX11 cX11_say 21 (bz_push (.int 60) 2) from bz_o_bipush (n := 60) (v := 60) (by decide +kernel) (by decide)) ?_
  refine bz_ac (show bz_ok RX11 cX11_say 23 (bz_ic_ne 29) from bz_o_ic_ne (off := 6) (t := 29) (by decide +kernel) (by decide)) ?_
  refine bz_ac (show bz_ok RX11 cX11_say 26 (bz_push (.int (-4)) 2) from bz_o_bipush (n := (-4)) (v := (-4)) (by decide +kernel) (by decide)) ?_
  refine bz_ac (show bz_rok cX11_say (some .int) 28 1 from Or.inr (Or.inl ⟨rfl, rfl, by decide +kernel⟩)) ?_
  refine bz_ac (show bz_ok RX11 cX11_say 29 (bz_aload 0 1) from bz_o_aload_n (k := 0) (i := 0) (by decide +kernel) rfl) ?_
  refine bz_ac (show bz_ok RX11 cX11_say 30 (bz_getR 10 7) from bz_o_getR (ci := 10) (k := 7) (idx := 19) (C := RX11) (T := TX11) (N := 42) rfl bh_10 rfl rfl (bz_tb 679 (by decide +kernel) (by decide +kernel)) rfl (by decide +kernel)) ?_
  refine bz_ac (show bz_ok RX11 cX11_say 33 (bz_aload 0 1) from bz_o_aload_n (k := 0) (i := 0) (by decide +kernel) rfl) ?_
  refine bz_ac (show bz_ok RX11 cX11_say 34 (bz_getI 10 8) from bz_o_getI (ci := 10) (k := 8) (idx := 120) (C := RX11) (T := TX11) (N := 42) rfl bh_10 rfl rfl (bz_tb 680 (by decide +kernel) (by decide +kernel)) (Or.inl rfl) (by decide +kernel)) ?_
  refine bz_ac (show bz_ok RX11 cX11_say 37 (bz_iload 1 1) from bz_o_iload_n (k := 1) (i := 1) (by decide +kernel) rfl) ?_
  refine bz_ac (show bz_ok RX11 cX11_say 38 (bz_iast) from bz_o_iast (by decide +kernel)) ?_
  refine bz_ac (show bz_ok RX11 cX11_say 39 (bz_aload 0 1) from bz_o_aload_n (k := 0) (i := 0) (by decide +kernel) rfl) ?_
  refine bz_ac (show bz_ok RX11 cX11_say 40 (bz_dup) from bz_o_dup (by decide +kernel)) ?_
  refine bz_ac (show bz_ok RX11 cX11_say 41 (bz_getI 10 8) from bz_o_getI (ci := 10) (k := 8) (idx := 120) (C := RX11) (T := TX11) (N := 42) rfl bh_10 rfl rfl (bz_tb 680 (by decide +kernel) (by decide +kernel)) (Or.inl rfl) (by decide +kernel)) ?_
  refine bz_ac (show bz_ok RX11 cX11_say 44 (bz_push (.int 1) 1) from bz_o_iconst (n := 1) (v := 1) (by decide +kernel) (by decide)) ?_
  refine bz_ac (show bz_ok RX11 cX11_say 45 (bz_iadd) from bz_o_iadd (by decide +kernel)) ?_
  refine bz_ac (show bz_ok RX11 cX11_say 46 (bz_putI 10 8) from bz_o_putI (ci := 10) (k := 8) (idx := 120) (C := RX11) (T := TX11) (N := 42) rfl bh_10 rfl rfl (bz_tb 680 (by decide +kernel) (by decide +kernel)) tyX11 tyX11_ok nmX11 rfl rfl rfl (by decide +kernel)) ?_
  refine bz_ac (show bz_ok RX11 cX11_say 49 (bz_aload 0 1) from bz_o_aload_n (k := 0) (i := 0) (by decide +kernel) rfl) ?_
  refine bz_ac (show bz_ok RX11 cX11_say 50 (bz_getI 10 8) from bz_o_getI (ci := 10) (k := 8) (idx := 120) (C := RX11) (T := TX11) (N := 42) rfl bh_10 rfl rfl (bz_tb 680 (by decide +kernel) (by decide +kernel)) (Or.inl rfl) (by decide +kernel)) ?_
  refine bz_ac (show bz_rok cX11_say (some .int) 53 1 from Or.inr (Or.inl ⟨rfl, rfl, by decide +kernel⟩)) ?_
  exact bz_an
set_option maxRecDepth 100000 in
theorem bo_X11_wipe (l : Launch) : ∀ q ∈ bt_X11_wipe, bz_rw bz_P l bm_X11_wipe q := by
  refine bz_ac (show bz_ok RX11 cX11_wipe 0 (bz_aload 0 1) from bz_o_aload_n (k := 0) (i := 0) (by decide +kernel) rfl) ?_
  refine bz_ac (show bz_ok RX11 cX11_wipe 1 (bz_getI 10 8) from bz_o_getI (ci := 10) (k := 8) (idx := 120) (C := RX11) (T := TX11) (N := 42) rfl bh_10 rfl rfl (bz_tb 680 (by decide +kernel) (by decide +kernel)) (Or.inl rfl) (by decide +kernel)) ?_
  refine bz_ac (show bz_ok RX11 cX11_wipe 4 (bz_istore 1 1) from bz_o_istore_n (k := 1) (i := 1) (by decide +kernel) rfl) ?_
  refine bz_ac (show bz_ok RX11 cX11_wipe 5 (bz_aload 0 1) from bz_o_aload_n (k := 0) (i := 0) (by decide +kernel) rfl) ?_
  refine bz_ac (show bz_ok RX11 cX11_wipe 6 (bz_push (.int 0) 1) from bz_o_iconst (n := 0) (v := 0) (by decide +kernel) (by decide)) ?_
  refine bz_ac (show bz_ok RX11 cX11_wipe 7 (bz_putI 10 8) from bz_o_putI (ci := 10) (k := 8) (idx := 120) (C := RX11) (T := TX11) (N := 42) rfl bh_10 rfl rfl (bz_tb 680 (by decide +kernel) (by decide +kernel)) tyX11 tyX11_ok nmX11 rfl rfl rfl (by decide +kernel)) ?_
  refine bz_ac (show bz_ok RX11 cX11_wipe 10 (bz_iload 1 1) from bz_o_iload_n (k := 1) (i := 1) (by decide +kernel) rfl) ?_
  refine bz_ac (show bz_rok cX11_wipe (some .int) 11 1 from Or.inr (Or.inl ⟨rfl, rfl, by decide +kernel⟩)) ?_
  exact bz_an
set_option maxRecDepth 100000 in
theorem bo_X11_close (l : Launch) : ∀ q ∈ bt_X11_close, bz_rw bz_P l bm_X11_close q := by
  refine bz_ac (show bz_ok RX11 cX11_close 0 (bz_aload 0 1) from bz_o_aload_n (k := 0) (i := 0) (by decide +kernel) rfl) ?_
  refine bz_ac (show bz_ok RX11 cX11_close 1 (bz_getR 10 9) from bz_o_getR (ci := 10) (k := 9) (idx := 22) (C := RX11) (T := TX11) (N := 42) rfl bh_10 rfl rfl (bz_tb 681 (by decide +kernel) (by decide +kernel)) rfl (by decide +kernel)) ?_
  refine bz_ac (show bz_ok RX11 cX11_close 4 (bz_aload 0 1) from bz_o_aload_n (k := 0) (i := 0) (by decide +kernel) rfl) ?_
  refine bz_ac (show bz_ok RX11 cX11_close 5 (bz_getI 10 13) from bz_o_getI (ci := 10) (k := 13) (idx := 123) (C := RX11) (T := TX11) (N := 42) rfl bh_10 rfl rfl (bz_tb 685 (by decide +kernel) (by decide +kernel)) (Or.inl rfl) (by decide +kernel)) ?_
  refine bz_ac (show bz_ok RX11 cX11_close 8 (bz_iload 1 1) from bz_o_iload_n (k := 1) (i := 1) (by decide +kernel) rfl) ?_
  refine bz_ac (show bz_ok RX11 cX11_close 9 (bz_iast) from bz_o_iast (by decide +kernel)) ?_
  refine bz_ac (show bz_ok RX11 cX11_close 10 (bz_aload 0 1) from bz_o_aload_n (k := 0) (i := 0) (by decide +kernel) rfl) ?_
  refine bz_ac (show bz_ok RX11 cX11_close 11 (bz_dup) from bz_o_dup (by decide +kernel)) ?_
  refine bz_ac (show bz_ok RX11 cX11_close 12 (bz_getI 10 13) from bz_o_getI (ci := 10) (k := 13) (idx := 123) (C := RX11) (T := TX11) (N := 42) rfl bh_10 rfl rfl (bz_tb 685 (by decide +kernel) (by decide +kernel)) (Or.inl rfl) (by decide +kernel)) ?_
  refine bz_ac (show bz_ok RX11 cX11_close 15 (bz_push (.int 1) 1) from bz_o_iconst (n := 1) (v := 1) (by decide +kernel) (by decide)) ?_
  refine bz_ac (show bz_ok RX11 cX11_close 16 (bz_iadd) from bz_o_iadd (by decide +kernel)) ?_
  refine bz_ac (show bz_ok RX11 cX11_close 17 (bz_putI 10 13) from bz_o_putI (ci := 10) (k := 13) (idx := 123) (C := RX11) (T := TX11) (N := 42) rfl bh_10 rfl rfl (bz_tb 685 (by decide +kernel) (by decide +kernel)) tyX11 tyX11_ok nmX11 rfl rfl rfl (by decide +kernel)) ?_
  refine bz_ac (show bz_ok RX11 cX11_close 20 (bz_push (.int 0) 1) from bz_o_iconst (n := 0) (v := 0) (by decide +kernel) (by decide)) ?_
  refine bz_ac (show bz_rok cX11_close (some .int) 21 1 from Or.inr (Or.inl ⟨rfl, rfl, by decide +kernel⟩)) ?_
  exact bz_an
set_option maxRecDepth 100000 in
theorem bo_X11_begin (l : Launch) : ∀ q ∈ bt_X11_begin, bz_rw bz_P l bm_X11_begin q := by
  refine bz_ac (show bz_ok RX11 cX11_begin 0 (bz_iload 1 1) from bz_o_iload_n (k := 1) (i := 1) (by decide +kernel) rfl) ?_
  refine bz_ac (show bz_ok RX11 cX11_begin 1 (bz_i2l) from bz_o_i2l (by decide +kernel)) ?_
  refine bz_ac (show bz_ok RX11 cX11_begin 2 (bz_push (.long 65) 3) from bz_o_ldc2 (own := RX11) (i := 126) (v := 65) (by decide +kernel) (bz_tb 853 (by decide +kernel) (by decide +kernel))) ?_
  refine bz_ac (show bz_ok RX11 cX11_begin 5 (bz_push (.long 67) 3) from bz_o_ldc2 (own := RX11) (i := 128) (v := 67) (by decide +kernel) (bz_tb 854 (by decide +kernel) (by decide +kernel))) ?_
  refine bz_ac (show bz_cok bz_P l RX11 cX11_begin 1 25 8 mX11_in 3 0 from bz_cS' (own := RX11) (idx := 75) (n := 3) bp_X11_in bq_X11_in (by decide +kernel) (bz_tb 809 (by decide +kernel) (by decide +kernel)) (bz_tb 810 (by decide +kernel) (by decide +kernel)) rfl (by decide) (by decide)) ?_
  refine bz_ac (show bz_ok RX11 cX11_begin 11 (bz_istore 2 1) from bz_o_istore_n (k := 2) (i := 2) (by decide +kernel) rfl) ?_
  refine bz_ac (show bz_ok RX11 cX11_begin 12 (bz_aload 0 1) from bz_o_aload_n (k := 0) (i := 0) (by decide +kernel) rfl) ?_
  refine bz_ac (show bz_ok RX11 cX11_begin 13 (bz_getR 10 10) from bz_o_getR (ci := 10) (k := 10) (idx := 25) (C := RX11) (T := TX11) (N := 42) rfl bh_10 rfl rfl (bz_tb 682 (by decide +kernel) (by decide +kernel)) rfl (by decide +kernel)) ?_
  refine bz_ac (show bz_ok RX11 cX11_begin 16 (bz_aload 0 1) from bz_o_aload_n (k := 0) (i := 0) (by decide +kernel) rfl) ?_
  refine bz_ac (show bz_ok RX11 cX11_begin 17 (bz_getI 10 13) from bz_o_getI (ci := 10) (k := 13) (idx := 123) (C := RX11) (T := TX11) (N := 42) rfl bh_10 rfl rfl (bz_tb 685 (by decide +kernel) (by decide +kernel)) (Or.inl rfl) (by decide +kernel)) ?_
  refine bz_ac (show bz_ok RX11 cX11_begin 20 (bz_iload 2 1) from bz_o_iload_n (k := 2) (i := 2) (by decide +kernel) rfl) ?_
  refine bz_ac (show bz_ok RX11 cX11_begin 21 (bz_if_eq 31) from bz_o_if_eq (off := 10) (t := 31) (by decide +kernel) (by decide)) ?_
  refine bz_ac (show bz_ok RX11 cX11_begin 24 (bz_iload 1 1) from bz_o_iload_n (k := 1) (i := 1) (by decide +kernel) rfl) ?_
  refine bz_ac (show bz_ok RX11 cX11_begin 25 (bz_push (.int 65) 2) from bz_o_bipush (n := 65) (v := 65) (by decide +kernel) (by decide)) ?_
  refine bz_ac (show bz_ok RX11 cX11_begin 27 (bz_isub) from bz_o_isub (by decide +kernel)) ?_
  refine bz_ac (show bz_ok RX11 cX11_begin 28 (bz_goto 32) from bz_o_goto (off := 4) (t := 32) (by decide +kernel) (by decide)) ?_
  refine bz_ac (show bz_ok RX11 cX11_begin 31 (bz_push (.int 0) 1) from bz_o_iconst (n := 0) (v := 0) (by decide +kernel) (by decide)) ?_
  refine bz_ac (show bz_ok RX11 cX11_begin 32 (bz_iast) from bz_o_iast (by decide +kernel)) ?_
  refine bz_ac (show bz_ok RX11 cX11_begin 33 (bz_aload 0 1) from bz_o_aload_n (k := 0) (i := 0) (by decide +kernel) rfl) ?_
  refine bz_ac (show bz_ok RX11 cX11_begin 34 (bz_getR 10 11) from bz_o_getR (ci := 10) (k := 11) (idx := 28) (C := RX11) (T := TX11) (N := 42) rfl bh_10 rfl rfl (bz_tb 683 (by decide +kernel) (by decide +kernel)) rfl (by decide +kernel)) ?_
  refine bz_ac (show bz_ok RX11 cX11_begin 37 (bz_aload 0 1) from bz_o_aload_n (k := 0) (i := 0) (by decide +kernel) rfl) ?_
  refine bz_ac (show bz_ok RX11 cX11_begin 38 (bz_getI 10 13) from bz_o_getI (ci := 10) (k := 13) (idx := 123) (C := RX11) (T := TX11) (N := 42) rfl bh_10 rfl rfl (bz_tb 685 (by decide +kernel) (by decide +kernel)) (Or.inl rfl) (by decide +kernel)) ?_
  refine bz_ac (show bz_ok RX11 cX11_begin 41 (bz_push (.int 0) 1) from bz_o_iconst (n := 0) (v := 0) (by decide +kernel) (by decide)) ?_
  refine bz_ac (show bz_ok RX11 cX11_begin 42 (bz_iast) from bz_o_iast (by decide +kernel)) ?_
  refine bz_ac (show bz_ok RX11 cX11_begin 43 (bz_aload 0 1) from bz_o_aload_n (k := 0) (i := 0) (by decide +kernel) rfl) ?_
  refine bz_ac (show bz_ok RX11 cX11_begin 44 (bz_getR 10 12) from bz_o_getR (ci := 10) (k := 12) (idx := 31) (C := RX11) (T := TX11) (N := 42) rfl bh_10 rfl rfl (bz_tb 684 (by decide +kernel) (by decide +kernel)) rfl (by decide +kernel)) ?_
  refine bz_ac (show bz_ok RX11 cX11_begin 47 (bz_aload 0 1) from bz_o_aload_n (k := 0) (i := 0) (by decide +kernel) rfl) ?_
  refine bz_ac (show bz_ok RX11 cX11_begin 48 (bz_getI 10 13) from bz_o_getI (ci := 10) (k := 13) (idx := 123) (C := RX11) (T := TX11) (N := 42) rfl bh_10 rfl rfl (bz_tb 685 (by decide +kernel) (by decide +kernel)) (Or.inl rfl) (by decide +kernel)) ?_
  refine bz_ac (show bz_ok RX11 cX11_begin 51 (bz_push (.int 0) 1) from bz_o_iconst (n := 0) (v := 0) (by decide +kernel) (by decide)) ?_
  refine bz_ac (show bz_ok RX11 cX11_begin 52 (bz_iast) from bz_o_iast (by decide +kernel)) ?_
  refine bz_ac (show bz_ok RX11 cX11_begin 53 (bz_iload 2 1) from bz_o_iload_n (k := 2) (i := 2) (by decide +kernel) rfl) ?_
  refine bz_ac (show bz_ok RX11 cX11_begin 54 (bz_if_eq 61) from bz_o_if_eq (off := 7) (t := 61) (by decide +kernel) (by decide)) ?_
  refine bz_ac (show bz_ok RX11 cX11_begin 57 (bz_push (.int 1) 1) from bz_o_iconst (n := 1) (v := 1) (by decide +kernel) (by decide)) ?_
  refine bz_ac (show bz_ok RX11 cX11_begin 58 (bz_goto 91) from bz_o_goto (off := 33) (t := 91) (by decide +kernel) (by decide)) ?_
  refine bz_ac (show bz_ok RX11 cX11_begin 61 (bz_iload 1 1) from bz_o_iload_n (k := 1) (i := 1) (by decide +kernel) rfl) ?_
  refine bz_ac (show bz_ok RX11 cX11_begin 62 (bz_push (.int 126) 2) from bz_o_bipush (n := 126) (v := 126) (by decide +kernel) (by decide)) ?_
  refine bz_ac (show bz_ok RX11 cX11_begin 64 (bz_ic_ne 75) from bz_o_ic_ne (off := 11) (t := 75) (by decide +kernel) (by decide)) ?_
  refine bz_ac (show bz_ok RX11 cX11_begin 67 (bz_aload 0 1) from bz_o_aload_n (k := 0) (i := 0) (by decide +kernel) rfl) ?_
  refine bz_ac (show bz_ok RX11 cX11_begin 68 (bz_push (.int 2) 1) from bz_o_iconst (n := 2) (v := 2) (by decide +kernel) (by decide)) ?_
  refine bz_ac (show bz_cok bz_P l RX11 cX11_begin 1 25 69 mX11_close 2 11 from bz_cV' (own := RX11) (idx := 130) (ci := 10) (N := 42) (T := TX11) (n := 1) bp_X11_close bq_X11_close (by decide +kernel) (bz_tb 855 (by decide +kernel) (by decide +kernel)) (bz_tb 857 (by decide +kernel) (by decide +kernel)) (bz_tb 15 (by decide +kernel) (by decide +kernel)) rfl rfl (by decide) (by decide)) ?_
  refine bz_ac (show bz_ok RX11 cX11_begin 72 (bz_goto 91) from bz_o_goto (off := 19) (t := 91) (by decide +kernel) (by decide)) ?_
  refine bz_ac (show bz_ok RX11 cX11_begin 75 (bz_iload 1 1) from bz_o_iload_n (k := 1) (i := 1) (by decide +kernel) rfl) ?_
  refine bz_ac (show bz_ok RX11 cX11_begin 76 (bz_push (.int 46) 2) from bz_o_bipush (n := 46) (v := 46) (by decide +kernel) (by decide)) ?_
  refine bz_ac (show bz_ok RX11 cX11_begin 78 (bz_ic_ne 89) from bz_o_ic_ne (off := 11) (t := 89) (by decide +kernel) (by decide)) ?_
  refine bz_ac (show bz_ok RX11 cX11_begin 81 (bz_aload 0 1) from bz_o_aload_n (k := 0) (i := 0) (by decide +kernel) rfl) ?_
  refine bz_ac (show bz_ok RX11 cX11_begin 82 (bz_push (.int 3) 1) from bz_o_iconst (n := 3) (v := 3) (by decide +kernel) (by decide)) ?_
  refine bz_ac (show bz_cok bz_P l RX11 cX11_begin 1 25 83 mX11_close 2 11 from bz_cV' (own := RX11) (idx := 130) (ci := 10) (N := 42) (T := TX11) (n := 1) bp_X11_close bq_X11_close (by decide +kernel) (bz_tb 855 (by decide +kernel) (by decide +kernel)) (bz_tb 857 (by decide +kernel) (by decide +kernel)) (bz_tb 15 (by decide +kernel) (by decide +kernel)) rfl rfl (by decide) (by decide)) ?_
  refine bz_ac (show bz_ok RX11 cX11_begin 86 (bz_goto 91) from bz_o_goto (off := 5) (t := 91) (by decide +kernel) (by decide)) ?_
  refine bz_ac (show bz_ok RX11 cX11_begin 89 (bz_push (.int (-6)) 2) from bz_o_bipush (n := (-6)) (v := (-6)) (by decide +kernel) (by decide)) ?_
  refine bz_ac (show bz_rok cX11_begin (some .int) 91 1 from Or.inr (Or.inl ⟨rfl, rfl, by decide +kernel⟩)) ?_
  exact bz_an
set_option maxRecDepth 100000 in
theorem bo_X11_deed (l : Launch) : ∀ q ∈ bt_X11_deed, bz_rw bz_P l bm_X11_deed q := by
  refine bz_ac (show bz_ok RX11 cX11_deed 0 (bz_iload 1 1) from bz_o_iload_n (k := 1) (i := 1) (by decide +kernel) rfl) ?_
  refine bz_ac (show bz_ok RX11 cX11_deed 1 (bz_push (.int 94) 2) from bz_o_bipush (n := 94) (v := 94) (by decide +kernel) (by decide)) ?_
  refine bz_ac (show bz_ok RX11 cX11_deed 3 (bz_ic_ne 12) from bz_o_ic_ne (off := 9) (t := 12) (by decide +kernel) (by decide)) ?_
  refine bz_ac (show bz_ok RX11 cX11_deed 6 (bz_aload 0 1) from bz_o_aload_n (k := 0) (i := 0) (by decide +kernel) rfl) ?_
  refine bz_ac (show bz_ok RX11 cX11_deed 7 (bz_push (.int 1) 1) from bz_o_iconst (n := 1) (v := 1) (by decide +kernel) (by decide)) ?_
  refine bz_ac (show bz_cok bz_P l RX11 cX11_deed 1 25 8 mX11_close 2 11 from bz_cV' (own := RX11) (idx := 130) (ci := 10) (N := 42) (T := TX11) (n := 1) bp_X11_close bq_X11_close (by decide +kernel) (bz_tb 855 (by decide +kernel) (by decide +kernel)) (bz_tb 857 (by decide +kernel) (by decide +kernel)) (bz_tb 15 (by decide +kernel) (by decide +kernel)) rfl rfl (by decide) (by decide)) ?_
  refine bz_ac (show bz_rok cX11_deed (some .int) 11 1 from Or.inr (Or.inl ⟨rfl, rfl, by decide +kernel⟩)) ?_
  refine bz_ac (show bz_ok RX11 cX11_deed 12 (bz_aload 0 1) from bz_o_aload_n (k := 0) (i := 0) (by decide +kernel) rfl) ?_
  refine bz_ac (show bz_ok RX11 cX11_deed 13 (bz_getR 10 11) from bz_o_getR (ci := 10) (k := 11) (idx := 28) (C := RX11) (T := TX11) (N := 42) rfl bh_10 rfl rfl (bz_tb 683 (by decide +kernel) (by decide +kernel)) rfl (by decide +kernel)) ?_
  refine bz_ac (show bz_ok RX11 cX11_deed 16 (bz_aload 0 1) from bz_o_aload_n (k := 0) (i := 0) (by decide +kernel) rfl) ?_
  refine bz_ac (show bz_ok RX11 cX11_deed 17 (bz_getI 10 13) from bz_o_getI (ci := 10) (k := 13) (idx := 123) (C := RX11) (T := TX11) (N := 42) rfl bh_10 rfl rfl (bz_tb 685 (by decide +kernel) (by decide +kernel)) (Or.inl rfl) (by decide +kernel)) ?_
  refine bz_ac (show bz_ok RX11 cX11_deed 20 (bz_iload 1 1) from bz_o_iload_n (k := 1) (i := 1) (by decide +kernel) rfl) ?_
  refine bz_ac (show bz_ok RX11 cX11_deed 21 (bz_push (.int 48) 2) from bz_o_bipush (n := 48) (v := 48) (by decide +kernel) (by decide)) ?_
  refine bz_ac (show bz_ok RX11 cX11_deed 23 (bz_isub) from bz_o_isub (by decide +kernel)) ?_
  refine bz_ac (show bz_ok RX11 cX11_deed 24 (bz_iast) from bz_o_iast (by decide +kernel)) ?_
  refine bz_ac (show bz_ok RX11 cX11_deed 25 (bz_iload 1 1) from bz_o_iload_n (k := 1) (i := 1) (by decide +kernel) rfl) ?_
  refine bz_ac (show bz_ok RX11 cX11_deed 26 (bz_i2l) from bz_o_i2l (by decide +kernel)) ?_
  refine bz_ac (show bz_ok RX11 cX11_deed 27 (bz_push (.long 48) 3) from bz_o_ldc2 (own := RX11) (i := 133) (v := 48) (by decide +kernel) (bz_tb 863 (by decide +kernel) (by decide +kernel))) ?_
  refine bz_ac (show bz_ok RX11 cX11_deed 30 (bz_push (.long 55) 3) from bz_o_ldc2 (own := RX11) (i := 135) (v := 55) (by decide +kernel) (bz_tb 864 (by decide +kernel) (by decide +kernel))) ?_
  refine bz_ac (show bz_cok bz_P l RX11 cX11_deed 1 25 33 mX11_in 3 0 from bz_cS' (own := RX11) (idx := 75) (n := 3) bp_X11_in bq_X11_in (by decide +kernel) (bz_tb 809 (by decide +kernel) (by decide +kernel)) (bz_tb 810 (by decide +kernel) (by decide +kernel)) rfl (by decide) (by decide)) ?_
  refine bz_ac (show bz_ok RX11 cX11_deed 36 (bz_if_eq 43) from bz_o_if_eq (off := 7) (t := 43) (by decide +kernel) (by decide)) ?_
  refine bz_ac (show bz_ok RX11 cX11_deed 39 (bz_push (.int 2) 1) from bz_o_iconst (n := 2) (v := 2) (by decide +kernel) (by decide)) ?_
  refine bz_ac (show bz_ok RX11 cX11_deed 40 (bz_goto 45) from bz_o_goto (off := 5) (t := 45) (by decide +kernel) (by decide)) ?_
  refine bz_ac (show bz_ok RX11 cX11_deed 43 (bz_push (.int (-6)) 2) from bz_o_bipush (n := (-6)) (v := (-6)) (by decide +kernel) (by decide)) ?_
  refine bz_ac (show bz_rok cX11_deed (some .int) 45 1 from Or.inr (Or.inl ⟨rfl, rfl, by decide +kernel⟩)) ?_
  exact bz_an
set_option maxRecDepth 100000 in
theorem bo_X11_force (l : Launch) : ∀ q ∈ bt_X11_force, bz_rw bz_P l bm_X11_force q := by
  refine bz_ac (show bz_ok RX11 cX11_force 0 (bz_aload 0 1) from bz_o_aload_n (k := 0) (i := 0) (by decide +kernel) rfl) ?_
  refine bz_ac (show bz_ok RX11 cX11_force 1 (bz_getR 10 12) from bz_o_getR (ci := 10) (k := 12) (idx := 31) (C := RX11) (T := TX11) (N := 42) rfl bh_10 rfl rfl (bz_tb 684 (by decide +kernel) (by decide +kernel)) rfl (by decide +kernel)) ?_
  refine bz_ac (show bz_ok RX11 cX11_force 4 (bz_aload 0 1) from bz_o_aload_n (k := 0) (i := 0) (by decide +kernel) rfl) ?_
  refine bz_ac (show bz_ok RX11 cX11_force 5 (bz_getI 10 13) from bz_o_getI (ci := 10) (k := 13) (idx := 123) (C := RX11) (T := TX11) (N := 42) rfl bh_10 rfl rfl (bz_tb 685 (by decide +kernel) (by decide +kernel)) (Or.inl rfl) (by decide +kernel)) ?_
  refine bz_ac (show bz_ok RX11 cX11_force 8 (bz_iload 1 1) from bz_o_iload_n (k := 1) (i := 1) (by decide +kernel) rfl) ?_
  refine bz_ac (show bz_ok RX11 cX11_force 9 (bz_push (.int 48) 2) from bz_o_bipush (n := 48) (v := 48) (by decide +kernel) (by decide)) ?_
  refine bz_ac (show bz_ok RX11 cX11_force 11 (bz_isub) from bz_o_isub (by decide +kernel)) ?_
  refine bz_ac (show bz_ok RX11 cX11_force 12 (bz_iast) from bz_o_iast (by decide +kernel)) ?_
  refine bz_ac (show bz_ok RX11 cX11_force 13 (bz_iload 1 1) from bz_o_iload_n (k := 1) (i := 1) (by decide +kernel) rfl) ?_
  refine bz_ac (show bz_ok RX11 cX11_force 14 (bz_i2l) from bz_o_i2l (by decide +kernel)) ?_
  refine bz_ac (show bz_ok RX11 cX11_force 15 (bz_push (.long 49) 3) from bz_o_ldc2 (own := RX11) (i := 137) (v := 49) (by decide +kernel) (bz_tb 869 (by decide +kernel) (by decide +kernel))) ?_
  refine bz_ac (show bz_ok RX11 cX11_force 18 (bz_push (.long 57) 3) from bz_o_ldc2 (own := RX11) (i := 139) (v := 57) (by decide +kernel) (bz_tb 870 (by decide +kernel) (by decide +kernel))) ?_
  refine bz_ac (show bz_cok bz_P l RX11 cX11_force 1 25 21 mX11_in 3 0 from bz_cS' (own := RX11) (idx := 75) (n := 3) bp_X11_in bq_X11_in (by decide +kernel) (bz_tb 809 (by decide +kernel) (by decide +kernel)) (bz_tb 810 (by decide +kernel) (by decide +kernel)) rfl (by decide) (by decide)) ?_
  refine bz_ac (show bz_ok RX11 cX11_force 24 (bz_if_eq 35) from bz_o_if_eq (off := 11) (t := 35) (by decide +kernel) (by decide)) ?_
  refine bz_ac (show bz_ok RX11 cX11_force 27 (bz_aload 0 1) from bz_o_aload_n (k := 0) (i := 0) (by decide +kernel) rfl) ?_
  refine bz_ac (show bz_ok RX11 cX11_force 28 (bz_push (.int 0) 1) from bz_o_iconst (n := 0) (v := 0) (by decide +kernel) (by decide)) ?_
  refine bz_ac (show bz_cok bz_P l RX11 cX11_force 1 25 29 mX11_close 2 11 from bz_cV' (own := RX11) (idx := 130) (ci := 10) (N := 42) (T := TX11) (n := 1) bp_X11_close bq_X11_close (by decide +kernel) (bz_tb 855 (by decide +kernel) (by decide +kernel)) (bz_tb 857 (by decide +kernel) (by decide +kernel)) (bz_tb 15 (by decide +kernel) (by decide +kernel)) rfl rfl (by decide) (by decide)) ?_
  refine bz_ac (show bz_ok RX11 cX11_force 32 (bz_goto 37) from bz_o_goto (off := 5) (t := 37) (by decide +kernel) (by decide)) ?_
  refine bz_ac (show bz_ok RX11 cX11_force 35 (bz_push (.int (-6)) 2) from bz_o_bipush (n := (-6)) (v := (-6)) (by decide +kernel) (by decide)) ?_
  refine bz_ac (show bz_rok cX11_force (some .int) 37 1 from Or.inr (Or.inl ⟨rfl, rfl, by decide +kernel⟩)) ?_
  exact bz_an
set_option maxRecDepth 100000 in
theorem bo_X11_readOn (l : Launch) : ∀ q ∈ bt_X11_readOn, bz_rw bz_P l bm_X11_readOn q := by
  refine bz_ac (show bz_ok RX11 cX11_readOn 0 (bz_iload 1 1) from bz_o_iload_n (k := 1) (i := 1) (by decide +kernel) rfl) ?_
  refine bz_ac (show bz_ok RX11 cX11_readOn 1 (bz_if_ne 12) from bz_o_if_ne (off := 11) (t := 12) (by decide +kernel) (by decide)) ?_
  refine bz_ac (show bz_ok RX11 cX11_readOn 4 (bz_aload 0 1) from bz_o_aload_n (k := 0) (i := 0) (by decide +kernel) rfl) ?_
  refine bz_ac (show bz_ok RX11 cX11_readOn 5 (bz_iload 2 1) from bz_o_iload_n (k := 2) (i := 2) (by decide +kernel) rfl) ?_
  refine bz_ac (show bz_cok bz_P l RX11 cX11_readOn 2 47 6 mX11_begin 2 11 from bz_cV' (own := RX11) (idx := 141) (ci := 10) (N := 42) (T := TX11) (n := 1) bp_X11_begin bq_X11_begin (by decide +kernel) (bz_tb 849 (by decide +kernel) (by decide +kernel)) (bz_tb 851 (by decide +kernel) (by decide +kernel)) (bz_tb 14 (by decide +kernel) (by decide +kernel)) rfl rfl (by decide) (by decide)) ?_
  refine bz_ac (show bz_ok RX11 cX11_readOn 9 (bz_goto 30) from bz_o_goto (off := 21) (t := 30) (by decide +kernel) (by decide)) ?_
  refine bz_ac (show bz_ok RX11 cX11_readOn 12 (bz_iload 1 1) from bz_o_iload_n (k := 1) (i := 1) (by decide +kernel) rfl) ?_
  refine bz_ac (show bz_ok RX11 cX11_readOn 13 (bz_push (.int 1) 1) from bz_o_iconst (n := 1) (v := 1) (by decide +kernel) (by decide)) ?_
  refine bz_ac (show bz_ok RX11 cX11_readOn 14 (bz_ic_ne 25) from bz_o_ic_ne (off := 11) (t := 25) (by decide +kernel) (by decide)) ?_
  refine bz_ac (show bz_ok RX11 cX11_readOn 17 (bz_aload 0 1) from bz_o_aload_n (k := 0) (i := 0) (by decide +kernel) rfl) ?_
  refine bz_ac (show bz_ok RX11 cX11_readOn 18 (bz_iload 2 1) from bz_o_iload_n (k := 2) (i := 2) (by decide +kernel) rfl) ?_
  refine bz_ac (show bz_cok bz_P l RX11 cX11_readOn 2 47 19 mX11_deed 2 11 from bz_cV' (own := RX11) (idx := 144) (ci := 10) (N := 42) (T := TX11) (n := 1) bp_X11_deed bq_X11_deed (by decide +kernel) (bz_tb 859 (by decide +kernel) (by decide +kernel)) (bz_tb 861 (by decide +kernel) (by decide +kernel)) (bz_tb 16 (by decide +kernel) (by decide +kernel)) rfl rfl (by decide) (by decide)) ?_
  refine bz_ac (show bz_ok RX11 cX11_readOn 22 (bz_goto 30) from bz_o_goto (off := 8) (t := 30) (by decide +kernel) (by decide)) ?_
  refine bz_ac (show bz_ok RX11 cX11_readOn 25 (bz_aload 0 1) from bz_o_aload_n (k := 0) (i := 0) (by decide +kernel) rfl) ?_
  refine bz_ac (show bz_ok RX11 cX11_readOn 26 (bz_iload 2 1) from bz_o_iload_n (k := 2) (i := 2) (by decide +kernel) rfl) ?_
  refine bz_ac (show bz_cok bz_P l RX11 cX11_readOn 2 47 27 mX11_force 2 11 from bz_cV' (own := RX11) (idx := 147) (ci := 10) (N := 42) (T := TX11) (n := 1) bp_X11_force bq_X11_force (by decide +kernel) (bz_tb 865 (by decide +kernel) (by decide +kernel)) (bz_tb 867 (by decide +kernel) (by decide +kernel)) (bz_tb 17 (by decide +kernel) (by decide +kernel)) rfl rfl (by decide) (by decide)) ?_
  refine bz_ac (show bz_rok cX11_readOn (some .int) 30 1 from Or.inr (Or.inl ⟨rfl, rfl, by decide +kernel⟩)) ?_
  exact bz_an
set_option maxRecDepth 100000 in
theorem bo_X11_fault (l : Launch) : ∀ q ∈ bt_X11_fault, bz_rw bz_P l bm_X11_fault q := by
  refine bz_ac (show bz_ok RX11 cX11_fault 0 (bz_aload 0 1) from bz_o_aload_n (k := 0) (i := 0) (by decide +kernel) rfl) ?_
  refine bz_ac (show bz_ok RX11 cX11_fault 1 (bz_push (.int 0) 1) from bz_o_iconst (n := 0) (v := 0) (by decide +kernel) (by decide)) ?_
  refine bz_ac (show bz_ok RX11 cX11_fault 2 (bz_putI 10 13) from bz_o_putI (ci := 10) (k := 13) (idx := 123) (C := RX11) (T := TX11) (N := 42) rfl bh_10 rfl rfl (bz_tb 685 (by decide +kernel) (by decide +kernel)) tyX11 tyX11_ok nmX11 rfl rfl rfl (by decide +kernel)) ?_
  refine bz_ac (show bz_ok RX11 cX11_fault 5 (bz_push (.int 0) 1) from bz_o_iconst (n := 0) (v := 0) (by decide +kernel) (by decide)) ?_
  refine bz_ac (show bz_ok RX11 cX11_fault 6 (bz_istore 1 1) from bz_o_istore_n (k := 1) (i := 1) (by decide +kernel) rfl) ?_
  refine bz_ac (show bz_ok RX11 cX11_fault 7 (bz_push (.int 0) 1) from bz_o_iconst (n := 0) (v := 0) (by decide +kernel) (by decide)) ?_
  refine bz_ac (show bz_ok RX11 cX11_fault 8 (bz_istore 2 1) from bz_o_istore_n (k := 2) (i := 2) (by decide +kernel) rfl) ?_
  refine bz_ac (show bz_ok RX11 cX11_fault 9 (bz_iload 2 1) from bz_o_iload_n (k := 2) (i := 2) (by decide +kernel) rfl) ?_
  refine bz_ac (show bz_ok RX11 cX11_fault 10 (bz_aload 0 1) from bz_o_aload_n (k := 0) (i := 0) (by decide +kernel) rfl) ?_
  refine bz_ac (show bz_ok RX11 cX11_fault 11 (bz_getI 10 8) from bz_o_getI (ci := 10) (k := 8) (idx := 120) (C := RX11) (T := TX11) (N := 42) rfl bh_10 rfl rfl (bz_tb 680 (by decide +kernel) (by decide +kernel)) (Or.inl rfl) (by decide +kernel)) ?_
  refine bz_ac (show bz_ok RX11 cX11_fault 14 (bz_ic_ge 41) from bz_o_ic_ge (off := 27) (t := 41) (by decide +kernel) (by decide)) ?_
  refine bz_ac (show bz_ok RX11 cX11_fault 17 (bz_aload 0 1) from bz_o_aload_n (k := 0) (i := 0) (by decide +kernel) rfl) ?_
  refine bz_ac (show bz_ok RX11 cX11_fault 18 (bz_iload 1 1) from bz_o_iload_n (k := 1) (i := 1) (by decide +kernel) rfl) ?_
  refine bz_ac (show bz_ok RX11 cX11_fault 19 (bz_aload 0 1) from bz_o_aload_n (k := 0) (i := 0) (by decide +kernel) rfl) ?_
  refine bz_ac (show bz_ok RX11 cX11_fault 20 (bz_getR 10 7) from bz_o_getR (ci := 10) (k := 7) (idx := 19) (C := RX11) (T := TX11) (N := 42) rfl bh_10 rfl rfl (bz_tb 679 (by decide +kernel) (by decide +kernel)) rfl (by decide +kernel)) ?_
  refine bz_ac (show bz_ok RX11 cX11_fault 23 (bz_iload 2 1) from bz_o_iload_n (k := 2) (i := 2) (by decide +kernel) rfl) ?_
  refine bz_ac (show bz_ok RX11 cX11_fault 24 (bz_iald) from bz_o_iald (by decide +kernel)) ?_
  refine bz_ac (show bz_cok bz_P l RX11 cX11_fault 3 69 25 mX11_readOn 3 11 from bz_cV' (own := RX11) (idx := 150) (ci := 10) (N := 42) (T := TX11) (n := 2) bp_X11_readOn bq_X11_readOn (by decide +kernel) (bz_tb 845 (by decide +kernel) (by decide +kernel)) (bz_tb 847 (by decide +kernel) (by decide +kernel)) (bz_tb 13 (by decide +kernel) (by decide +kernel)) rfl rfl (by decide) (by decide)) ?_
  refine bz_ac (show bz_ok RX11 cX11_fault 28 (bz_istore 1 1) from bz_o_istore_n (k := 1) (i := 1) (by decide +kernel) rfl) ?_
  refine bz_ac (show bz_ok RX11 cX11_fault 29 (bz_iload 1 1) from bz_o_iload_n (k := 1) (i := 1) (by decide +kernel) rfl) ?_
  refine bz_ac (show bz_ok RX11 cX11_fault 30 (bz_if_ge 35) from bz_o_if_ge (off := 5) (t := 35) (by decide +kernel) (by decide)) ?_
  refine bz_ac (show bz_ok RX11 cX11_fault 33 (bz_iload 2 1) from bz_o_iload_n (k := 2) (i := 2) (by decide +kernel) rfl) ?_
  refine bz_ac (show bz_rok cX11_fault (some .int) 34 1 from Or.inr (Or.inl ⟨rfl, rfl, by decide +kernel⟩)) ?_
  refine bz_ac (show bz_ok RX11 cX11_fault 35 (bz_iinc 2 1) from bz_o_iinc (i := 2) (n := 1) (v := 1) (by decide +kernel) (by decide)) ?_
  refine bz_ac (show bz_ok RX11 cX11_fault 38 (bz_goto 9) from bz_o_goto (off := (-29)) (t := 9) (by decide +kernel) (by decide)) ?_
  refine bz_ac (show bz_ok RX11 cX11_fault 41 (bz_iload 1 1) from bz_o_iload_n (k := 1) (i := 1) (by decide +kernel) rfl) ?_
  refine bz_ac (show bz_ok RX11 cX11_fault 42 (bz_if_ne 50) from bz_o_if_ne (off := 8) (t := 50) (by decide +kernel) (by decide)) ?_
  refine bz_ac (show bz_ok RX11 cX11_fault 45 (bz_push (.int (-6)) 2) from bz_o_bipush (n := (-6)) (v := (-6)) (by decide +kernel) (by decide)) ?_
  refine bz_ac (show bz_ok RX11 cX11_fault 47 (bz_goto 54) from bz_o_goto (off := 7) (t := 54) (by decide +kernel) (by decide)) ?_
  refine bz_ac (show bz_ok RX11 cX11_fault 50 (bz_aload 0 1) from bz_o_aload_n (k := 0) (i := 0) (by decide +kernel) rfl) ?_
  refine bz_ac (show bz_ok RX11 cX11_fault 51 (bz_getI 10 8) from bz_o_getI (ci := 10) (k := 8) (idx := 120) (C := RX11) (T := TX11) (N := 42) rfl bh_10 rfl rfl (bz_tb 680 (by decide +kernel) (by decide +kernel)) (Or.inl rfl) (by decide +kernel)) ?_
  refine bz_ac (show bz_rok cX11_fault (some .int) 54 1 from Or.inr (Or.inl ⟨rfl, rfl, by decide +kernel⟩)) ?_
  exact bz_an
set_option maxRecDepth 100000 in
theorem bo_X11_touch (l : Launch) : ∀ q ∈ bt_X11_touch, bz_rw bz_P l bm_X11_touch q := by
  refine bz_ac (show bz_ok RX11 cX11_touch 0 (bz_aload 0 1) from bz_o_aload_n (k := 0) (i := 0) (by decide +kernel) rfl) ?_
  refine bz_ac (show bz_ok RX11 cX11_touch 1 (bz_dup) from bz_o_dup (by decide +kernel)) ?_
  refine bz_ac (show bz_ok RX11 cX11_touch 2 (bz_getI 10 17) from bz_o_getI (ci := 10) (k := 17) (idx := 154) (C := RX11) (T := TX11) (N := 42) rfl bh_10 rfl rfl (bz_tb 689 (by decide +kernel) (by decide +kernel)) (Or.inl rfl) (by decide +kernel)) ?_
  refine bz_ac (show bz_ok RX11 cX11_touch 5 (bz_push (.int 1) 1) from bz_o_iconst (n := 1) (v := 1) (by decide +kernel) (by decide)) ?_
  refine bz_ac (show bz_ok RX11 cX11_touch 6 (bz_iadd) from bz_o_iadd (by decide +kernel)) ?_
  refine bz_ac (show bz_ok RX11 cX11_touch 7 (bz_putI 10 17) from bz_o_putI (ci := 10) (k := 17) (idx := 154) (C := RX11) (T := TX11) (N := 42) rfl bh_10 rfl rfl (bz_tb 689 (by decide +kernel) (by decide +kernel)) tyX11 tyX11_ok nmX11 rfl rfl rfl (by decide +kernel)) ?_
  refine bz_ac (show bz_ok RX11 cX11_touch 10 (bz_aload 0 1) from bz_o_aload_n (k := 0) (i := 0) (by decide +kernel) rfl) ?_
  refine bz_ac (show bz_ok RX11 cX11_touch 11 (bz_getI 10 20) from bz_o_getI (ci := 10) (k := 20) (idx := 157) (C := RX11) (T := TX11) (N := 42) rfl bh_10 rfl rfl (bz_tb 692 (by decide +kernel) (by decide +kernel)) (Or.inl rfl) (by decide +kernel)) ?_
  refine bz_ac (show bz_ok RX11 cX11_touch 14 (bz_if_ge 40) from bz_o_if_ge (off := 26) (t := 40) (by decide +kernel) (by decide)) ?_
  refine bz_ac (show bz_ok RX11 cX11_touch 17 (bz_aload 0 1) from bz_o_aload_n (k := 0) (i := 0) (by decide +kernel) rfl) ?_
  refine bz_ac (show bz_ok RX11 cX11_touch 18 (bz_iload 1 1) from bz_o_iload_n (k := 1) (i := 1) (by decide +kernel) rfl) ?_
  refine bz_ac (show bz_ok RX11 cX11_touch 19 (bz_putI 10 20) from bz_o_putI (ci := 10) (k := 20) (idx := 157) (C := RX11) (T := TX11) (N := 42) rfl bh_10 rfl rfl (bz_tb 692 (by decide +kernel) (by decide +kernel)) tyX11 tyX11_ok nmX11 rfl rfl rfl (by decide +kernel)) ?_
  refine bz_ac (show bz_ok RX11 cX11_touch 22 (bz_aload 0 1) from bz_o_aload_n (k := 0) (i := 0) (by decide +kernel) rfl) ?_
  refine bz_ac (show bz_ok RX11 cX11_touch 23 (bz_aload 0 1) from bz_o_aload_n (k := 0) (i := 0) (by decide +kernel) rfl) ?_
  refine bz_ac (show bz_ok RX11 cX11_touch 24 (bz_getI 10 18) from bz_o_getI (ci := 10) (k := 18) (idx := 160) (C := RX11) (T := TX11) (N := 42) rfl bh_10 rfl rfl (bz_tb 690 (by decide +kernel) (by decide +kernel)) (Or.inl rfl) (by decide +kernel)) ?_
  refine bz_ac (show bz_ok RX11 cX11_touch 27 (bz_putI 10 19) from bz_o_putI (ci := 10) (k := 19) (idx := 163) (C := RX11) (T := TX11) (N := 42) rfl bh_10 rfl rfl (bz_tb 691 (by decide +kernel) (by decide +kernel)) tyX11 tyX11_ok nmX11 rfl rfl rfl (by decide +kernel)) ?_
  refine bz_ac (show bz_ok RX11 cX11_touch 30 (bz_aload 0 1) from bz_o_aload_n (k := 0) (i := 0) (by decide +kernel) rfl) ?_
  refine bz_ac (show bz_ok RX11 cX11_touch 31 (bz_iload 2 1) from bz_o_iload_n (k := 2) (i := 2) (by decide +kernel) rfl) ?_
  refine bz_ac (show bz_ok RX11 cX11_touch 32 (bz_aload 0 1) from bz_o_aload_n (k := 0) (i := 0) (by decide +kernel) rfl) ?_
  refine bz_ac (show bz_ok RX11 cX11_touch 33 (bz_getI 10 16) from bz_o_getI (ci := 10) (k := 16) (idx := 166) (C := RX11) (T := TX11) (N := 42) rfl bh_10 rfl rfl (bz_tb 688 (by decide +kernel) (by decide +kernel)) (Or.inl rfl) (by decide +kernel)) ?_
  refine bz_ac (show bz_ok RX11 cX11_touch 36 (bz_isub) from bz_o_isub (by decide +kernel)) ?_
  refine bz_ac (show bz_ok RX11 cX11_touch 37 (bz_putI 10 21) from bz_o_putI (ci := 10) (k := 21) (idx := 169) (C := RX11) (T := TX11) (N := 42) rfl bh_10 rfl rfl (bz_tb 693 (by decide +kernel) (by decide +kernel)) tyX11 tyX11_ok nmX11 rfl rfl rfl (by decide +kernel)) ?_
  refine bz_ac (show bz_ok RX11 cX11_touch 40 (bz_aload 0 1) from bz_o_aload_n (k := 0) (i := 0) (by decide +kernel) rfl) ?_
  refine bz_ac (show bz_ok RX11 cX11_touch 41 (bz_iload 1 1) from bz_o_iload_n (k := 1) (i := 1) (by decide +kernel) rfl) ?_
  refine bz_ac (show bz_ok RX11 cX11_touch 42 (bz_putI 10 14) from bz_o_putI (ci := 10) (k := 14) (idx := 172) (C := RX11) (T := TX11) (N := 42) rfl bh_10 rfl rfl (bz_tb 686 (by decide +kernel) (by decide +kernel)) tyX11 tyX11_ok nmX11 rfl rfl rfl (by decide +kernel)) ?_
  refine bz_ac (show bz_rok cX11_touch none 45 0 from Or.inl ⟨rfl, rfl, by decide +kernel⟩) ?_
  exact bz_an
set_option maxRecDepth 100000 in
theorem bo_X11_step (l : Launch) : ∀ q ∈ bt_X11_step, bz_rw bz_P l bm_X11_step q := by
  refine bz_ac (show bz_ok RX11 cX11_step 0 (bz_aload 0 1) from bz_o_aload_n (k := 0) (i := 0) (by decide +kernel) rfl) ?_
  refine bz_ac (show bz_ok RX11 cX11_step 1 (bz_getR 10 0) from bz_o_getR (ci := 10) (k := 0) (idx := 7) (C := RX11) (T := TX11) (N := 42) rfl bh_10 rfl rfl (bz_tb 672 (by decide +kernel) (by decide +kernel)) rfl (by decide +kernel)) ?_
  refine bz_ac (show bz_ok RX11 cX11_step 4 (bz_aload 0 1) from bz_o_aload_n (k := 0) (i := 0) (by decide +kernel) rfl) ?_
  refine bz_ac (show bz_ok RX11 cX11_step 5 (bz_getI 10 14) from bz_o_getI (ci := 10) (k := 14) (idx := 172) (C := RX11) (T := TX11) (N := 42) rfl bh_10 rfl rfl (bz_tb 686 (by decide +kernel) (by decide +kernel)) (Or.inl rfl) (by decide +kernel)) ?_
  refine bz_ac (show bz_ok RX11 cX11_step 8 (bz_iald) from bz_o_iald (by decide +kernel)) ?_
  refine bz_ac (show bz_ok RX11 cX11_step 9 (bz_aload 0 1) from bz_o_aload_n (k := 0) (i := 0) (by decide +kernel) rfl) ?_
  refine bz_ac (show bz_ok RX11 cX11_step 10 (bz_getI 10 15) from bz_o_getI (ci := 10) (k := 15) (idx := 175) (C := RX11) (T := TX11) (N := 42) rfl bh_10 rfl rfl (bz_tb 687 (by decide +kernel) (by decide +kernel)) (Or.inl rfl) (by decide +kernel)) ?_
  refine bz_ac (show bz_cok bz_P l RX11 cX11_step 2 49 13 mX11_turned 2 0 from bz_cS' (own := RX11) (idx := 178) (n := 2) bp_X11_turned bq_X11_turned (by decide +kernel) (bz_tb 908 (by decide +kernel) (by decide +kernel)) (bz_tb 909 (by decide +kernel) (by decide +kernel)) rfl (by decide) (by decide)) ?_
  refine bz_ac (show bz_ok RX11 cX11_step 16 (bz_istore 2 1) from bz_o_istore_n (k := 2) (i := 2) (by decide +kernel) rfl) ?_
  refine bz_ac (show bz_ok RX11 cX11_step 17 (bz_aload 0 1) from bz_o_aload_n (k := 0) (i := 0) (by decide +kernel) rfl) ?_
  refine bz_ac (show bz_ok RX11 cX11_step 18 (bz_dup) from bz_o_dup (by decide +kernel)) ?_
  refine bz_ac (show bz_ok RX11 cX11_step 19 (bz_getI 10 18) from bz_o_getI (ci := 10) (k := 18) (idx := 160) (C := RX11) (T := TX11) (N := 42) rfl bh_10 rfl rfl (bz_tb 690 (by decide +kernel) (by decide +kernel)) (Or.inl rfl) (by decide +kernel)) ?_
  refine bz_ac (show bz_ok RX11 cX11_step 22 (bz_iload 2 1) from bz_o_iload_n (k := 2) (i := 2) (by decide +kernel) rfl) ?_
  refine bz_ac (show bz_ok RX11 cX11_step 23 (bz_aload 0 1) from bz_o_aload_n (k := 0) (i := 0) (by decide +kernel) rfl) ?_
  refine bz_ac (show bz_ok RX11 cX11_step 24 (bz_getI 10 15) from bz_o_getI (ci := 10) (k := 15) (idx := 175) (C := RX11) (T := TX11) (N := 42) rfl bh_10 rfl rfl (bz_tb 687 (by decide +kernel) (by decide +kernel)) (Or.inl rfl) (by decide +kernel)) ?_
  refine bz_ac (show bz_ok RX11 cX11_step 27 (bz_ic_ne 34) from bz_o_ic_ne (off := 7) (t := 34) (by decide +kernel) (by decide)) ?_
  refine bz_ac (show bz_ok RX11 cX11_step 30 (bz_push (.int 0) 1) from bz_o_iconst (n := 0) (v := 0) (by decide +kernel) (by decide)) ?_
  refine bz_ac (show bz_ok RX11 cX11_step 31 (bz_goto 35) from bz_o_goto (off := 4) (t := 35) (by decide +kernel) (by decide)) ?_
  refine bz_ac (show bz_ok RX11 cX11_step 34 (bz_push (.int 1) 1) from bz_o_iconst (n := 1) (v := 1) (by decide +kernel) (by decide)) ?_
  refine bz_ac (show bz_ok RX11 cX11_step 35 (bz_iadd) from bz_o_iadd (by decide +kernel)) ?_
  refine bz_ac (show bz_ok RX11 cX11_step 36 (bz_putI 10 18) from bz_o_putI (ci := 10) (k := 18) (idx := 160) (C := RX11) (T := TX11) (N := 42) rfl bh_10 rfl rfl (bz_tb 690 (by decide +kernel) (by decide +kernel)) tyX11 tyX11_ok nmX11 rfl rfl rfl (by decide +kernel)) ?_
  refine bz_ac (show bz_ok RX11 cX11_step 39 (bz_aload 0 1) from bz_o_aload_n (k := 0) (i := 0) (by decide +kernel) rfl) ?_
  refine bz_ac (show bz_ok RX11 cX11_step 40 (bz_iload 2 1) from bz_o_iload_n (k := 2) (i := 2) (by decide +kernel) rfl) ?_
  refine bz_ac (show bz_ok RX11 cX11_step 41 (bz_putI 10 15) from bz_o_putI (ci := 10) (k := 15) (idx := 175) (C := RX11) (T := TX11) (N := 42) rfl bh_10 rfl rfl (bz_tb 687 (by decide +kernel) (by decide +kernel)) tyX11 tyX11_ok nmX11 rfl rfl rfl (by decide +kernel)) ?_
  refine bz_ac (show bz_ok RX11 cX11_step 44 (bz_aload 0 1) from bz_o_aload_n (k := 0) (i := 0) (by decide +kernel) rfl) ?_
  refine bz_ac (show bz_ok RX11 cX11_step 45 (bz_dup) from bz_o_dup (by decide +kernel)) ?_
  refine bz_ac (show bz_ok RX11 cX11_step 46 (bz_getI 10 16) from bz_o_getI (ci := 10) (k := 16) (idx := 166) (C := RX11) (T := TX11) (N := 42) rfl bh_10 rfl rfl (bz_tb 688 (by decide +kernel) (by decide +kernel)) (Or.inl rfl) (by decide +kernel)) ?_
  refine bz_ac (show bz_ok RX11 cX11_step 49 (bz_push (.int 1) 1) from bz_o_iconst (n := 1) (v := 1) (by decide +kernel) (by decide)) ?_
  refine bz_ac (show bz_ok RX11 cX11_step 50 (bz_isub) from bz_o_isub (by decide +kernel)) ?_
  refine bz_ac (show bz_ok RX11 cX11_step 51 (bz_putI 10 16) from bz_o_putI (ci := 10) (k := 16) (idx := 166) (C := RX11) (T := TX11) (N := 42) rfl bh_10 rfl rfl (bz_tb 688 (by decide +kernel) (by decide +kernel)) tyX11 tyX11_ok nmX11 rfl rfl rfl (by decide +kernel)) ?_
  refine bz_ac (show bz_ok RX11 cX11_step 54 (bz_aload 0 1) from bz_o_aload_n (k := 0) (i := 0) (by decide +kernel) rfl) ?_
  refine bz_ac (show bz_ok RX11 cX11_step 55 (bz_getR 10 0) from bz_o_getR (ci := 10) (k := 0) (idx := 7) (C := RX11) (T := TX11) (N := 42) rfl bh_10 rfl rfl (bz_tb 672 (by decide +kernel) (by decide +kernel)) rfl (by decide +kernel)) ?_
  refine bz_ac (show bz_ok RX11 cX11_step 58 (bz_aload 0 1) from bz_o_aload_n (k := 0) (i := 0) (by decide +kernel) rfl) ?_
  refine bz_ac (show bz_ok RX11 cX11_step 59 (bz_getI 10 14) from bz_o_getI (ci := 10) (k := 14) (idx := 172) (C := RX11) (T := TX11) (N := 42) rfl bh_10 rfl rfl (bz_tb 686 (by decide +kernel) (by decide +kernel)) (Or.inl rfl) (by decide +kernel)) ?_
  refine bz_ac (show bz_ok RX11 cX11_step 62 (bz_iald) from bz_o_iald (by decide +kernel)) ?_
  refine bz_ac (show bz_ok RX11 cX11_step 63 (bz_aload 0 1) from bz_o_aload_n (k := 0) (i := 0) (by decide +kernel) rfl) ?_
  refine bz_ac (show bz_ok RX11 cX11_step 64 (bz_getI 10 15) from bz_o_getI (ci := 10) (k := 15) (idx := 175) (C := RX11) (T := TX11) (N := 42) rfl bh_10 rfl rfl (bz_tb 687 (by decide +kernel) (by decide +kernel)) (Or.inl rfl) (by decide +kernel)) ?_
  refine bz_ac (show bz_cok bz_P l RX11 cX11_step 2 49 67 mX11_ahead 2 0 from bz_cS' (own := RX11) (idx := 181) (n := 2) bp_X11_ahead bq_X11_ahead (by decide +kernel) (bz_tb 919 (by decide +kernel) (by decide +kernel)) (bz_tb 920 (by decide +kernel) (by decide +kernel)) rfl (by decide) (by decide)) ?_
  refine bz_ac (show bz_ok RX11 cX11_step 70 (bz_istore 3 1) from bz_o_istore_n (k := 3) (i := 3) (by decide +kernel) rfl) ?_
  refine bz_ac (show bz_ok RX11 cX11_step 71 (bz_aload 0 1) from bz_o_aload_n (k := 0) (i := 0) (by decide +kernel) rfl) ?_
  refine bz_ac (show bz_ok RX11 cX11_step 72 (bz_iload 3 1) from bz_o_iload_n (k := 3) (i := 3) (by decide +kernel) rfl) ?_
  refine bz_ac (show bz_cok bz_P l RX11 cX11_step 2 49 73 mX11_ballOn 2 11 from bz_cV' (own := RX11) (idx := 104) (ci := 10) (N := 42) (T := TX11) (n := 1) bp_X11_ballOn bq_X11_ballOn (by decide +kernel) (bz_tb 822 (by decide +kernel) (by decide +kernel)) (bz_tb 824 (by decide +kernel) (by decide +kernel)) (bz_tb 12 (by decide +kernel) (by decide +kernel)) rfl rfl (by decide) (by decide)) ?_
  refine bz_ac (show bz_ok RX11 cX11_step 76 (bz_istore 4 2) from bz_o_istore (i := 4) (by decide +kernel)) ?_
  refine bz_ac (show bz_ok RX11 cX11_step 78 (bz_iload 4 2) from bz_o_iload (i := 4) (by decide +kernel)) ?_
  refine bz_ac (show bz_ok RX11 cX11_step 80 (bz_if_lt 91) from bz_o_if_lt (off := 11) (t := 91) (by decide +kernel) (by decide)) ?_
  refine bz_ac (show bz_ok RX11 cX11_step 83 (bz_aload 0 1) from bz_o_aload_n (k := 0) (i := 0) (by decide +kernel) rfl) ?_
  refine bz_ac (show bz_ok RX11 cX11_step 84 (bz_iload 4 2) from bz_o_iload (i := 4) (by decide +kernel)) ?_
  refine bz_ac (show bz_ok RX11 cX11_step 86 (bz_iload 1 1) from bz_o_iload_n (k := 1) (i := 1) (by decide +kernel) rfl) ?_
  refine bz_ac (show bz_cok bz_P l RX11 cX11_step 2 49 87 mX11_touch 3 11 from bz_cV' (own := RX11) (idx := 184) (ci := 10) (N := 42) (T := TX11) (n := 2) bp_X11_touch bq_X11_touch (by decide +kernel) (bz_tb 922 (by decide +kernel) (by decide +kernel)) (bz_tb 924 (by decide +kernel) (by decide +kernel)) (bz_tb 26 (by decide +kernel) (by decide +kernel)) rfl rfl (by decide) (by decide)) ?_
  refine bz_ac (show bz_rok cX11_step none 90 0 from Or.inl ⟨rfl, rfl, by decide +kernel⟩) ?_
  refine bz_ac (show bz_ok RX11 cX11_step 91 (bz_aload 0 1) from bz_o_aload_n (k := 0) (i := 0) (by decide +kernel) rfl) ?_
  refine bz_ac (show bz_ok RX11 cX11_step 92 (bz_getR 10 0) from bz_o_getR (ci := 10) (k := 0) (idx := 7) (C := RX11) (T := TX11) (N := 42) rfl bh_10 rfl rfl (bz_tb 672 (by decide +kernel) (by decide +kernel)) rfl (by decide +kernel)) ?_
  refine bz_ac (show bz_ok RX11 cX11_step 95 (bz_aload 0 1) from bz_o_aload_n (k := 0) (i := 0) (by decide +kernel) rfl) ?_
  refine bz_ac (show bz_ok RX11 cX11_step 96 (bz_getI 10 14) from bz_o_getI (ci := 10) (k := 14) (idx := 172) (C := RX11) (T := TX11) (N := 42) rfl bh_10 rfl rfl (bz_tb 686 (by decide +kernel) (by decide +kernel)) (Or.inl rfl) (by decide +kernel)) ?_
  refine bz_ac (show bz_ok RX11 cX11_step 99 (bz_iload 3 1) from bz_o_iload_n (k := 3) (i := 3) (by decide +kernel) rfl) ?_
  refine bz_ac (show bz_ok RX11 cX11_step 100 (bz_iast) from bz_o_iast (by decide +kernel)) ?_
  refine bz_ac (show bz_ok RX11 cX11_step 101 (bz_iload 3 1) from bz_o_iload_n (k := 3) (i := 3) (by decide +kernel) rfl) ?_
  refine bz_ac (show bz_cok bz_P l RX11 cX11_step 2 49 102 mX11_isPocket 1 0 from bz_cS' (own := RX11) (idx := 85) (n := 1) bp_X11_isPocket bq_X11_isPocket (by decide +kernel) (bz_tb 819 (by decide +kernel) (by decide +kernel)) (bz_tb 820 (by decide +kernel) (by decide +kernel)) rfl (by decide) (by decide)) ?_
  refine bz_ac (show bz_ok RX11 cX11_step 105 (bz_if_eq 127) from bz_o_if_eq (off := 22) (t := 127) (by decide +kernel) (by decide)) ?_
  refine bz_ac (show bz_ok RX11 cX11_step 108 (bz_aload 0 1) from bz_o_aload_n (k := 0) (i := 0) (by decide +kernel) rfl) ?_
  refine bz_ac (show bz_ok RX11 cX11_step 109 (bz_getR 10 0) from bz_o_getR (ci := 10) (k := 0) (idx := 7) (C := RX11) (T := TX11) (N := 42) rfl bh_10 rfl rfl (bz_tb 672 (by decide +kernel) (by decide +kernel)) rfl (by decide +kernel)) ?_
  refine bz_ac (show bz_ok RX11 cX11_step 112 (bz_aload 0 1) from bz_o_aload_n (k := 0) (i := 0) (by decide +kernel) rfl) ?_
  refine bz_ac (show bz_ok RX11 cX11_step 113 (bz_getI 10 14) from bz_o_getI (ci := 10) (k := 14) (idx := 172) (C := RX11) (T := TX11) (N := 42) rfl bh_10 rfl rfl (bz_tb 686 (by decide +kernel) (by decide +kernel)) (Or.inl rfl) (by decide +kernel)) ?_
  refine bz_ac (show bz_ok RX11 cX11_step 116 (bz_push (.int (-6)) 2) from bz_o_bipush (n := (-6)) (v := (-6)) (by decide +kernel) (by decide)) ?_
  refine bz_ac (show bz_ok RX11 cX11_step 118 (bz_iast) from bz_o_iast (by decide +kernel)) ?_
  refine bz_ac (show bz_ok RX11 cX11_step 119 (bz_aload 0 1) from bz_o_aload_n (k := 0) (i := 0) (by decide +kernel) rfl) ?_
  refine bz_ac (show bz_ok RX11 cX11_step 120 (bz_aload 0 1) from bz_o_aload_n (k := 0) (i := 0) (by decide +kernel) rfl) ?_
  refine bz_ac (show bz_ok RX11 cX11_step 121 (bz_getI 10 14) from bz_o_getI (ci := 10) (k := 14) (idx := 172) (C := RX11) (T := TX11) (N := 42) rfl bh_10 rfl rfl (bz_tb 686 (by decide +kernel) (by decide +kernel)) (Or.inl rfl) (by decide +kernel)) ?_
  refine bz_ac (show bz_ok RX11 cX11_step 124 (bz_putI 10 22) from bz_o_putI (ci := 10) (k := 22) (idx := 188) (C := RX11) (T := TX11) (N := 42) rfl bh_10 rfl rfl (bz_tb 694 (by decide +kernel) (by decide +kernel)) tyX11 tyX11_ok nmX11 rfl rfl rfl (by decide +kernel)) ?_
  refine bz_ac (show bz_rok cX11_step none 127 0 from Or.inl ⟨rfl, rfl, by decide +kernel⟩) ?_
  exact bz_an
set_option maxRecDepth 100000 in
theorem bo_X11_send (l : Launch) : ∀ q ∈ bt_X11_send, bz_rw bz_P l bm_X11_send q := by
  refine bz_ac (show bz_ok RX11 cX11_send 0 (bz_aload 0 1) from bz_o_aload_n (k := 0) (i := 0) (by decide +kernel) rfl) ?_
  refine bz_ac (show bz_ok RX11 cX11_send 1 (bz_iload 1 1) from bz_o_iload_n (k := 1) (i := 1) (by decide +kernel) rfl) ?_
  refine bz_ac (show bz_ok RX11 cX11_send 2 (bz_putI 10 14) from bz_o_putI (ci := 10) (k := 14) (idx := 172) (C := RX11) (T := TX11) (N := 42) rfl bh_10 rfl rfl (bz_tb 686 (by decide +kernel) (by decide +kernel)) tyX11 tyX11_ok nmX11 rfl rfl rfl (by decide +kernel)) ?_
  refine bz_ac (show bz_ok RX11 cX11_send 5 (bz_aload 0 1) from bz_o_aload_n (k := 0) (i := 0) (by decide +kernel) rfl) ?_
  refine bz_ac (show bz_ok RX11 cX11_send 6 (bz_iload 2 1) from bz_o_iload_n (k := 2) (i := 2) (by decide +kernel) rfl) ?_
  refine bz_ac (show bz_ok RX11 cX11_send 7 (bz_putI 10 15) from bz_o_putI (ci := 10) (k := 15) (idx := 175) (C := RX11) (T := TX11) (N := 42) rfl bh_10 rfl rfl (bz_tb 687 (by decide +kernel) (by decide +kernel)) tyX11 tyX11_ok nmX11 rfl rfl rfl (by decide +kernel)) ?_
  refine bz_ac (show bz_ok RX11 cX11_send 10 (bz_aload 0 1) from bz_o_aload_n (k := 0) (i := 0) (by decide +kernel) rfl) ?_
  refine bz_ac (show bz_ok RX11 cX11_send 11 (bz_iload 3 1) from bz_o_iload_n (k := 3) (i := 3) (by decide +kernel) rfl) ?_
  refine bz_ac (show bz_ok RX11 cX11_send 12 (bz_putI 10 16) from bz_o_putI (ci := 10) (k := 16) (idx := 166) (C := RX11) (T := TX11) (N := 42) rfl bh_10 rfl rfl (bz_tb 688 (by decide +kernel) (by decide +kernel)) tyX11 tyX11_ok nmX11 rfl rfl rfl (by decide +kernel)) ?_
  refine bz_ac (show bz_ok RX11 cX11_send 15 (bz_aload 0 1) from bz_o_aload_n (k := 0) (i := 0) (by decide +kernel) rfl) ?_
  refine bz_ac (show bz_ok RX11 cX11_send 16 (bz_push (.int 0) 1) from bz_o_iconst (n := 0) (v := 0) (by decide +kernel) (by decide)) ?_
  refine bz_ac (show bz_ok RX11 cX11_send 17 (bz_putI 10 17) from bz_o_putI (ci := 10) (k := 17) (idx := 154) (C := RX11) (T := TX11) (N := 42) rfl bh_10 rfl rfl (bz_tb 689 (by decide +kernel) (by decide +kernel)) tyX11 tyX11_ok nmX11 rfl rfl rfl (by decide +kernel)) ?_
  refine bz_ac (show bz_ok RX11 cX11_send 20 (bz_aload 0 1) from bz_o_aload_n (k := 0) (i := 0) (by decide +kernel) rfl) ?_
  refine bz_ac (show bz_ok RX11 cX11_send 21 (bz_push (.int 0) 1) from bz_o_iconst (n := 0) (v := 0) (by decide +kernel) (by decide)) ?_
  refine bz_ac (show bz_ok RX11 cX11_send 22 (bz_putI 10 18) from bz_o_putI (ci := 10) (k := 18) (idx := 160) (C := RX11) (T := TX11) (N := 42) rfl bh_10 rfl rfl (bz_tb 690 (by decide +kernel) (by decide +kernel)) tyX11 tyX11_ok nmX11 rfl rfl rfl (by decide +kernel)) ?_
  refine bz_ac (show bz_ok RX11 cX11_send 25 (bz_aload 0 1) from bz_o_aload_n (k := 0) (i := 0) (by decide +kernel) rfl) ?_
  refine bz_ac (show bz_ok RX11 cX11_send 26 (bz_push (.int (-6)) 2) from bz_o_bipush (n := (-6)) (v := (-6)) (by decide +kernel) (by decide)) ?_
  refine bz_ac (show bz_ok RX11 cX11_send 28 (bz_putI 10 19) from bz_o_putI (ci := 10) (k := 19) (idx := 163) (C := RX11) (T := TX11) (N := 42) rfl bh_10 rfl rfl (bz_tb 691 (by decide +kernel) (by decide +kernel)) tyX11 tyX11_ok nmX11 rfl rfl rfl (by decide +kernel)) ?_
  refine bz_ac (show bz_ok RX11 cX11_send 31 (bz_aload 0 1) from bz_o_aload_n (k := 0) (i := 0) (by decide +kernel) rfl) ?_
  refine bz_ac (show bz_ok RX11 cX11_send 32 (bz_push (.int (-6)) 2) from bz_o_bipush (n := (-6)) (v := (-6)) (by decide +kernel) (by decide)) ?_
  refine bz_ac (show bz_ok RX11 cX11_send 34 (bz_putI 10 20) from bz_o_putI (ci := 10) (k := 20) (idx := 157) (C := RX11) (T := TX11) (N := 42) rfl bh_10 rfl rfl (bz_tb 692 (by decide +kernel) (by decide +kernel)) tyX11 tyX11_ok nmX11 rfl rfl rfl (by decide +kernel)) ?_
  refine bz_ac (show bz_ok RX11 cX11_send 37 (bz_aload 0 1) from bz_o_aload_n (k := 0) (i := 0) (by decide +kernel) rfl) ?_
  refine bz_ac (show bz_ok RX11 cX11_send 38 (bz_push (.int (-6)) 2) from bz_o_bipush (n := (-6)) (v := (-6)) (by decide +kernel) (by decide)) ?_
  refine bz_ac (show bz_ok RX11 cX11_send 40 (bz_putI 10 21) from bz_o_putI (ci := 10) (k := 21) (idx := 169) (C := RX11) (T := TX11) (N := 42) rfl bh_10 rfl rfl (bz_tb 693 (by decide +kernel) (by decide +kernel)) tyX11 tyX11_ok nmX11 rfl rfl rfl (by decide +kernel)) ?_
  refine bz_ac (show bz_ok RX11 cX11_send 43 (bz_aload 0 1) from bz_o_aload_n (k := 0) (i := 0) (by decide +kernel) rfl) ?_
  refine bz_ac (show bz_ok RX11 cX11_send 44 (bz_push (.int (-6)) 2) from bz_o_bipush (n := (-6)) (v := (-6)) (by decide +kernel) (by decide)) ?_
  refine bz_ac (show bz_ok RX11 cX11_send 46 (bz_putI 10 22) from bz_o_putI (ci := 10) (k := 22) (idx := 188) (C := RX11) (T := TX11) (N := 42) rfl bh_10 rfl rfl (bz_tb 694 (by decide +kernel) (by decide +kernel)) tyX11 tyX11_ok nmX11 rfl rfl rfl (by decide +kernel)) ?_
  refine bz_ac (show bz_ok RX11 cX11_send 49 (bz_aload 0 1) from bz_o_aload_n (k := 0) (i := 0) (by decide +kernel) rfl) ?_
  refine bz_ac (show bz_ok RX11 cX11_send 50 (bz_getI 10 16) from bz_o_getI (ci := 10) (k := 16) (idx := 166) (C := RX11) (T := TX11) (N := 42) rfl bh_10 rfl rfl (bz_tb 688 (by decide +kernel) (by decide +kernel)) (Or.inl rfl) (by decide +kernel)) ?_
  refine bz_ac (show bz_ok RX11 cX11_send 53 (bz_if_le 71) from bz_o_if_le (off := 18) (t := 71) (by decide +kernel) (by decide)) ?_
  refine bz_ac (show bz_ok RX11 cX11_send 56 (bz_aload 0 1) from bz_o_aload_n (k := 0) (i := 0) (by decide +kernel) rfl) ?_
  refine bz_ac (show bz_ok RX11 cX11_send 57 (bz_getI 10 22) from bz_o_getI (ci := 10) (k := 22) (idx := 188) (C := RX11) (T := TX11) (N := 42) rfl bh_10 rfl rfl (bz_tb 694 (by decide +kernel) (by decide +kernel)) (Or.inl rfl) (by decide +kernel)) ?_
  refine bz_ac (show bz_ok RX11 cX11_send 60 (bz_if_ge 71) from bz_o_if_ge (off := 11) (t := 71) (by decide +kernel) (by decide)) ?_
  refine bz_ac (show bz_ok RX11 cX11_send 63 (bz_aload 0 1) from bz_o_aload_n (k := 0) (i := 0) (by decide +kernel) rfl) ?_
  refine bz_ac (show bz_ok RX11 cX11_send 64 (bz_iload 3 1) from bz_o_iload_n (k := 3) (i := 3) (by decide +kernel) rfl) ?_
  refine bz_ac (show bz_cok bz_P l RX11 cX11_send 3 73 65 mX11_step 2 11 from bz_cV' (own := RX11) (idx := 191) (ci := 10) (N := 42) (T := TX11) (n := 1) bp_X11_step bq_X11_step (by decide +kernel) (bz_tb 904 (by decide +kernel) (by decide +kernel)) (bz_tb 906 (by decide +kernel) (by decide +kernel)) (bz_tb 25 (by decide +kernel) (by decide +kernel)) rfl rfl (by decide) (by decide)) ?_
  refine bz_ac (show bz_ok RX11 cX11_send 68 (bz_goto 49) from bz_o_goto (off := (-19)) (t := 49) (by decide +kernel) (by decide)) ?_
  refine bz_ac (show bz_rok cX11_send none 71 0 from Or.inl ⟨rfl, rfl, by decide +kernel⟩) ?_
  exact bz_an
set_option maxRecDepth 100000 in
theorem bo_X11_stroke (l : Launch) : ∀ q ∈ bt_X11_stroke, bz_rw bz_P l bm_X11_stroke q := by
  refine bz_ac (show bz_ok RX11 cX11_stroke 0 (bz_aload 0 1) from bz_o_aload_n (k := 0) (i := 0) (by decide +kernel) rfl) ?_
  refine bz_ac (show bz_ok RX11 cX11_stroke 1 (bz_iload 1 1) from bz_o_iload_n (k := 1) (i := 1) (by decide +kernel) rfl) ?_
  refine bz_ac (show bz_ok RX11 cX11_stroke 2 (bz_iload 2 1) from bz_o_iload_n (k := 2) (i := 2) (by decide +kernel) rfl) ?_
  refine bz_ac (show bz_ok RX11 cX11_stroke 3 (bz_iload 3 1) from bz_o_iload_n (k := 3) (i := 3) (by decide +kernel) rfl) ?_
  refine bz_ac (show bz_cok bz_P l RX11 cX11_stroke 4 96 4 mX11_send 4 11 from bz_cV' (own := RX11) (idx := 195) (ci := 10) (N := 42) (T := TX11) (n := 3) bp_X11_send bq_X11_send (by decide +kernel) (bz_tb 900 (by decide +kernel) (by decide +kernel)) (bz_tb 902 (by decide +kernel) (by decide +kernel)) (bz_tb 24 (by decide +kernel) (by decide +kernel)) rfl rfl (by decide) (by decide)) ?_
  refine bz_ac (show bz_ok RX11 cX11_stroke 7 (bz_aload 0 1) from bz_o_aload_n (k := 0) (i := 0) (by decide +kernel) rfl) ?_
  refine bz_ac (show bz_ok RX11 cX11_stroke 8 (bz_dup) from bz_o_dup (by decide +kernel)) ?_
  refine bz_ac (show bz_ok RX11 cX11_stroke 9 (bz_getI 10 1) from bz_o_getI (ci := 10) (k := 1) (idx := 109) (C := RX11) (T := TX11) (N := 42) rfl bh_10 rfl rfl (bz_tb 673 (by decide +kernel) (by decide +kernel)) (Or.inl rfl) (by decide +kernel)) ?_
  refine bz_ac (show bz_ok RX11 cX11_stroke 12 (bz_aload 0 1) from bz_o_aload_n (k := 0) (i := 0) (by decide +kernel) rfl) ?_
  refine bz_ac (show bz_ok RX11 cX11_stroke 13 (bz_getI 10 17) from bz_o_getI (ci := 10) (k := 17) (idx := 154) (C := RX11) (T := TX11) (N := 42) rfl bh_10 rfl rfl (bz_tb 689 (by decide +kernel) (by decide +kernel)) (Or.inl rfl) (by decide +kernel)) ?_
  refine bz_ac (show bz_ok RX11 cX11_stroke 16 (bz_push (.int 1) 1) from bz_o_iconst (n := 1) (v := 1) (by decide +kernel) (by decide)) ?_
  refine bz_ac (show bz_ok RX11 cX11_stroke 17 (bz_ic_le 24) from bz_o_ic_le (off := 7) (t := 24) (by decide +kernel) (by decide)) ?_
  refine bz_ac (show bz_ok RX11 cX11_stroke 20 (bz_push (.int 2) 1) from bz_o_iconst (n := 2) (v := 2) (by decide +kernel) (by decide)) ?_
  refine bz_ac (show bz_ok RX11 cX11_stroke 21 (bz_goto 25) from bz_o_goto (off := 4) (t := 25) (by decide +kernel) (by decide)) ?_
  refine bz_ac (show bz_ok RX11 cX11_stroke 24 (bz_push (.int 0) 1) from bz_o_iconst (n := 0) (v := 0) (by decide +kernel) (by decide)) ?_
  refine bz_ac (show bz_ok RX11 cX11_stroke 25 (bz_iadd) from bz_o_iadd (by decide +kernel)) ?_
  refine bz_ac (show bz_ok RX11 cX11_stroke 26 (bz_putI 10 1) from bz_o_putI (ci := 10) (k := 1) (idx := 109) (C := RX11) (T := TX11) (N := 42) rfl bh_10 rfl rfl (bz_tb 673 (by decide +kernel) (by decide +kernel)) tyX11 tyX11_ok nmX11 rfl rfl rfl (by decide +kernel)) ?_
  refine bz_ac (show bz_ok RX11 cX11_stroke 29 (bz_aload 0 1) from bz_o_aload_n (k := 0) (i := 0) (by decide +kernel) rfl) ?_
  refine bz_ac (show bz_ok RX11 cX11_stroke 30 (bz_dup) from bz_o_dup (by decide +kernel)) ?_
  refine bz_ac (show bz_ok RX11 cX11_stroke 31 (bz_getI 10 1) from bz_o_getI (ci := 10) (k := 1) (idx := 109) (C := RX11) (T := TX11) (N := 42) rfl bh_10 rfl rfl (bz_tb 673 (by decide +kernel) (by decide +kernel)) (Or.inl rfl) (by decide +kernel)) ?_
  refine bz_ac (show bz_ok RX11 cX11_stroke 34 (bz_aload 0 1) from bz_o_aload_n (k := 0) (i := 0) (by decide +kernel) rfl) ?_
  refine bz_ac (show bz_ok RX11 cX11_stroke 35 (bz_getI 10 22) from bz_o_getI (ci := 10) (k := 22) (idx := 188) (C := RX11) (T := TX11) (N := 42) rfl bh_10 rfl rfl (bz_tb 694 (by decide +kernel) (by decide +kernel)) (Or.inl rfl) (by decide +kernel)) ?_
  refine bz_ac (show bz_ok RX11 cX11_stroke 38 (bz_if_lt 53) from bz_o_if_lt (off := 15) (t := 53) (by decide +kernel) (by decide)) ?_
  refine bz_ac (show bz_ok RX11 cX11_stroke 41 (bz_aload 0 1) from bz_o_aload_n (k := 0) (i := 0) (by decide +kernel) rfl) ?_
  refine bz_ac (show bz_ok RX11 cX11_stroke 42 (bz_getI 10 22) from bz_o_getI (ci := 10) (k := 22) (idx := 188) (C := RX11) (T := TX11) (N := 42) rfl bh_10 rfl rfl (bz_tb 694 (by decide +kernel) (by decide +kernel)) (Or.inl rfl) (by decide +kernel)) ?_
  refine bz_ac (show bz_ok RX11 cX11_stroke 45 (bz_iload 1 1) from bz_o_iload_n (k := 1) (i := 1) (by decide +kernel) rfl) ?_
  refine bz_ac (show bz_ok RX11 cX11_stroke 46 (bz_ic_eq 53) from bz_o_ic_eq (off := 7) (t := 53) (by decide +kernel) (by decide)) ?_
  refine bz_ac (show bz_ok RX11 cX11_stroke 49 (bz_push (.int 3) 1) from bz_o_iconst (n := 3) (v := 3) (by decide +kernel) (by decide)) ?_
  refine bz_ac (show bz_ok RX11 cX11_stroke 50 (bz_goto 54) from bz_o_goto (off := 4) (t := 54) (by decide +kernel) (by decide)) ?_
  refine bz_ac (show bz_ok RX11 cX11_stroke 53 (bz_push (.int 0) 1) from bz_o_iconst (n := 0) (v := 0) (by decide +kernel) (by decide)) ?_
  refine bz_ac (show bz_ok RX11 cX11_stroke 54 (bz_iadd) from bz_o_iadd (by decide +kernel)) ?_
  refine bz_ac (show bz_ok RX11 cX11_stroke 55 (bz_putI 10 1) from bz_o_putI (ci := 10) (k := 1) (idx := 109) (C := RX11) (T := TX11) (N := 42) rfl bh_10 rfl rfl (bz_tb 673 (by decide +kernel) (by decide +kernel)) tyX11 tyX11_ok nmX11 rfl rfl rfl (by decide +kernel)) ?_
  refine bz_ac (show bz_ok RX11 cX11_stroke 58 (bz_aload 0 1) from bz_o_aload_n (k := 0) (i := 0) (by decide +kernel) rfl) ?_
  refine bz_ac (show bz_ok RX11 cX11_stroke 59 (bz_dup) from bz_o_dup (by decide +kernel)) ?_
  refine bz_ac (show bz_ok RX11 cX11_stroke 60 (bz_getI 10 2) from bz_o_getI (ci := 10) (k := 2) (idx := 113) (C := RX11) (T := TX11) (N := 42) rfl bh_10 rfl rfl (bz_tb 674 (by decide +kernel) (by decide +kernel)) (Or.inl rfl) (by decide +kernel)) ?_
  refine bz_ac (show bz_ok RX11 cX11_stroke 63 (bz_aload 0 1) from bz_o_aload_n (k := 0) (i := 0) (by decide +kernel) rfl) ?_
  refine bz_ac (show bz_ok RX11 cX11_stroke 64 (bz_getI 10 22) from bz_o_getI (ci := 10) (k := 22) (idx := 188) (C := RX11) (T := TX11) (N := 42) rfl bh_10 rfl rfl (bz_tb 694 (by decide +kernel) (by decide +kernel)) (Or.inl rfl) (by decide +kernel)) ?_
  refine bz_ac (show bz_ok RX11 cX11_stroke 67 (bz_iload 1 1) from bz_o_iload_n (k := 1) (i := 1) (by decide +kernel) rfl) ?_
  refine bz_ac (show bz_ok RX11 cX11_stroke 68 (bz_ic_ne 75) from bz_o_ic_ne (off := 7) (t := 75) (by decide +kernel) (by decide)) ?_
  refine bz_ac (show bz_ok RX11 cX11_stroke 71 (bz_push (.int 1) 1) from bz_o_iconst (n := 1) (v := 1) (by decide +kernel) (by decide)) ?_
  refine bz_ac (show bz_ok RX11 cX11_stroke 72 (bz_goto 76) from bz_o_goto (off := 4) (t := 76) (by decide +kernel) (by decide)) ?_
  refine bz_ac (show bz_ok RX11 cX11_stroke 75 (bz_push (.int 0) 1) from bz_o_iconst (n := 0) (v := 0) (by decide +kernel) (by decide)) ?_
  refine bz_ac (show bz_ok RX11 cX11_stroke 76 (bz_iadd) from bz_o_iadd (by decide +kernel)) ?_
  refine bz_ac (show bz_ok RX11 cX11_stroke 77 (bz_putI 10 2) from bz_o_putI (ci := 10) (k := 2) (idx := 113) (C := RX11) (T := TX11) (N := 42) rfl bh_10 rfl rfl (bz_tb 674 (by decide +kernel) (by decide +kernel)) tyX11 tyX11_ok nmX11 rfl rfl rfl (by decide +kernel)) ?_
  refine bz_ac (show bz_ok RX11 cX11_stroke 80 (bz_aload 0 1) from bz_o_aload_n (k := 0) (i := 0) (by decide +kernel) rfl) ?_
  refine bz_ac (show bz_ok RX11 cX11_stroke 81 (bz_dup) from bz_o_dup (by decide +kernel)) ?_
  refine bz_ac (show bz_ok RX11 cX11_stroke 82 (bz_getI 10 2) from bz_o_getI (ci := 10) (k := 2) (idx := 113) (C := RX11) (T := TX11) (N := 42) rfl bh_10 rfl rfl (bz_tb 674 (by decide +kernel) (by decide +kernel)) (Or.inl rfl) (by decide +kernel)) ?_
  refine bz_ac (show bz_ok RX11 cX11_stroke 85 (bz_aload 0 1) from bz_o_aload_n (k := 0) (i := 0) (by decide +kernel) rfl) ?_
  refine bz_ac (show bz_ok RX11 cX11_stroke 86 (bz_getI 10 17) from bz_o_getI (ci := 10) (k := 17) (idx := 154) (C := RX11) (T := TX11) (N := 42) rfl bh_10 rfl rfl (bz_tb 689 (by decide +kernel) (by decide +kernel)) (Or.inl rfl) (by decide +kernel)) ?_
  refine bz_ac (show bz_ok RX11 cX11_stroke 89 (bz_if_le 103) from bz_o_if_le (off := 14) (t := 103) (by decide +kernel) (by decide)) ?_
  refine bz_ac (show bz_ok RX11 cX11_stroke 92 (bz_aload 0 1) from bz_o_aload_n (k := 0) (i := 0) (by decide +kernel) rfl) ?_
  refine bz_ac (show bz_ok RX11 cX11_stroke 93 (bz_getI 10 19) from bz_o_getI (ci := 10) (k := 19) (idx := 163) (C := RX11) (T := TX11) (N := 42) rfl bh_10 rfl rfl (bz_tb 691 (by decide +kernel) (by decide +kernel)) (Or.inl rfl) (by decide +kernel)) ?_
  refine bz_ac (show bz_ok RX11 cX11_stroke 96 (bz_if_ne 103) from bz_o_if_ne (off := 7) (t := 103) (by decide +kernel) (by decide)) ?_
  refine bz_ac (show bz_ok RX11 cX11_stroke 99 (bz_push (.int 1) 1) from bz_o_iconst (n := 1) (v := 1) (by decide +kernel) (by decide)) ?_
  refine bz_ac (show bz_ok RX11 cX11_stroke 100 (bz_goto 104) from bz_o_goto (off := 4) (t := 104) (by decide +kernel) (by decide)) ?_
  refine bz_ac (show bz_ok RX11 cX11_stroke 103 (bz_push (.int 0) 1) from bz_o_iconst (n := 0) (v := 0) (by decide +kernel) (by decide)) ?_
  refine bz_ac (show bz_ok RX11 cX11_stroke 104 (bz_iadd) from bz_o_iadd (by decide +kernel)) ?_
  refine bz_ac (show bz_ok RX11 cX11_stroke 105 (bz_putI 10 2) from bz_o_putI (ci := 10) (k := 2) (idx := 113) (C := RX11) (T := TX11) (N := 42) rfl bh_10 rfl rfl (bz_tb 674 (by decide +kernel) (by decide +kernel)) tyX11 tyX11_ok nmX11 rfl rfl rfl (by decide +kernel)) ?_
  refine bz_ac (show bz_ok RX11 cX11_stroke 108 (bz_aload 0 1) from bz_o_aload_n (k := 0) (i := 0) (by decide +kernel) rfl) ?_
  refine bz_ac (show bz_ok RX11 cX11_stroke 109 (bz_dup) from bz_o_dup (by decide +kernel)) ?_
  refine bz_ac (show bz_ok RX11 cX11_stroke 110 (bz_getI 10 23) from bz_o_getI (ci := 10) (k := 23) (idx := 199) (C := RX11) (T := TX11) (N := 42) rfl bh_10 rfl rfl (bz_tb 695 (by decide +kernel) (by decide +kernel)) (Or.inl rfl) (by decide +kernel)) ?_
  refine bz_ac (show bz_ok RX11 cX11_stroke 113 (bz_aload 0 1) from bz_o_aload_n (k := 0) (i := 0) (by decide +kernel) rfl) ?_
  refine bz_ac (show bz_ok RX11 cX11_stroke 114 (bz_getI 10 17) from bz_o_getI (ci := 10) (k := 17) (idx := 154) (C := RX11) (T := TX11) (N := 42) rfl bh_10 rfl rfl (bz_tb 689 (by decide +kernel) (by decide +kernel)) (Or.inl rfl) (by decide +kernel)) ?_
  refine bz_ac (show bz_ok RX11 cX11_stroke 117 (bz_iadd) from bz_o_iadd (by decide +kernel)) ?_
  refine bz_ac (show bz_ok RX11 cX11_stroke 118 (bz_putI 10 23) from bz_o_putI (ci := 10) (k := 23) (idx := 199) (C := RX11) (T := TX11) (N := 42) rfl bh_10 rfl rfl (bz_tb 695 (by decide +kernel) (by decide +kernel)) tyX11 tyX11_ok nmX11 rfl rfl rfl (by decide +kernel)) ?_
  refine bz_ac (show bz_ok RX11 cX11_stroke 121 (bz_aload 0 1) from bz_o_aload_n (k := 0) (i := 0) (by decide +kernel) rfl) ?_
  refine bz_ac (show bz_ok RX11 cX11_stroke 122 (bz_dup) from bz_o_dup (by decide +kernel)) ?_
  refine bz_ac (show bz_ok RX11 cX11_stroke 123 (bz_getI 10 24) from bz_o_getI (ci := 10) (k := 24) (idx := 202) (C := RX11) (T := TX11) (N := 42) rfl bh_10 rfl rfl (bz_tb 696 (by decide +kernel) (by decide +kernel)) (Or.inl rfl) (by decide +kernel)) ?_
  refine bz_ac (show bz_ok RX11 cX11_stroke 126 (bz_aload 0 1) from bz_o_aload_n (k := 0) (i := 0) (by decide +kernel) rfl) ?_
  refine bz_ac (show bz_ok RX11 cX11_stroke 127 (bz_getI 10 18) from bz_o_getI (ci := 10) (k := 18) (idx := 160) (C := RX11) (T := TX11) (N := 42) rfl bh_10 rfl rfl (bz_tb 690 (by decide +kernel) (by decide +kernel)) (Or.inl rfl) (by decide +kernel)) ?_
  refine bz_ac (show bz_ok RX11 cX11_stroke 130 (bz_iadd) from bz_o_iadd (by decide +kernel)) ?_
  refine bz_ac (show bz_ok RX11 cX11_stroke 131 (bz_putI 10 24) from bz_o_putI (ci := 10) (k := 24) (idx := 202) (C := RX11) (T := TX11) (N := 42) rfl bh_10 rfl rfl (bz_tb 696 (by decide +kernel) (by decide +kernel)) tyX11 tyX11_ok nmX11 rfl rfl rfl (by decide +kernel)) ?_
  refine bz_ac (show bz_rok cX11_stroke none 134 0 from Or.inl ⟨rfl, rfl, by decide +kernel⟩) ?_
  exact bz_an
set_option maxRecDepth 100000 in
theorem bo_X11_columnOf (l : Launch) : ∀ q ∈ bt_X11_columnOf, bz_rw bz_P l bm_X11_columnOf q := by
  refine bz_ac (show bz_ok RX11 cX11_columnOf 0 (bz_iload 0 1) from bz_o_iload_n (k := 0) (i := 0) (by decide +kernel) rfl) ?_
  refine bz_ac (show bz_ok RX11 cX11_columnOf 1 (bz_if_ge 9) from bz_o_if_ge (off := 8) (t := 9) (by decide +kernel) (by decide)) ?_
  refine bz_ac (show bz_ok RX11 cX11_columnOf 4 (bz_push (.int 9) 2) from bz_o_bipush (n := 9) (v := 9) (by decide +kernel) (by decide)) ?_
  refine bz_ac (show bz_ok RX11 cX11_columnOf 6 (bz_goto 13) from bz_o_goto (off := 7) (t := 13) (by decide +kernel) (by decide)) ?_
  refine bz_ac (show bz_ok RX11 cX11_columnOf 9 (bz_iload 0 1) from bz_o_iload_n (k := 0) (i := 0) (by decide +kernel) rfl) ?_
  refine bz_ac (show bz_ok RX11 cX11_columnOf 10 (bz_push (.int 9) 2) from bz_o_bipush (n := 9) (v := 9) (by decide +kernel) (by decide)) ?_
  refine bz_ac (show bz_ok RX11 cX11_columnOf 12 (bz_irem) from bz_o_irem (by decide +kernel)) ?_
  refine bz_ac (show bz_rok cX11_columnOf (some .int) 13 1 from Or.inr (Or.inl ⟨rfl, rfl, by decide +kernel⟩)) ?_
  exact bz_an
set_option maxRecDepth 100000 in
theorem bo_X11_drift (l : Launch) : ∀ q ∈ bt_X11_drift, bz_rw bz_P l bm_X11_drift q := by
  refine bz_ac (show bz_ok RX11 cX11_drift 0 (bz_aload 0 1) from bz_o_aload_n (k := 0) (i := 0) (by decide +kernel) rfl) ?_
  refine bz_ac (show bz_ok RX11 cX11_drift 1 (bz_getR 10 0) from bz_o_getR (ci := 10) (k := 0) (idx := 7) (C := RX11) (T := TX11) (N := 42) rfl bh_10 rfl rfl (bz_tb 672 (by decide +kernel) (by decide +kernel)) rfl (by decide +kernel)) ?_
  refine bz_ac (show bz_ok RX11 cX11_drift 4 (bz_iload 1 1) from bz_o_iload_n (k := 1) (i := 1) (by decide +kernel) rfl) ?_
  refine bz_ac (show bz_ok RX11 cX11_drift 5 (bz_iald) from bz_o_iald (by decide +kernel)) ?_
  refine bz_ac (show bz_ok RX11 cX11_drift 6 (bz_istore 2 1) from bz_o_istore_n (k := 2) (i := 2) (by decide +kernel) rfl) ?_
  refine bz_ac (show bz_ok RX11 cX11_drift 7 (bz_iload 2 1) from bz_o_iload_n (k := 2) (i := 2) (by decide +kernel) rfl) ?_
  refine bz_ac (show bz_ok RX11 cX11_drift 8 (bz_if_lt 46) from bz_o_if_lt (off := 38) (t := 46) (by decide +kernel) (by decide)) ?_
  refine bz_ac (show bz_ok RX11 cX11_drift 11 (bz_iload 2 1) from bz_o_iload_n (k := 2) (i := 2) (by decide +kernel) rfl) ?_
  refine bz_ac (show bz_ok RX11 cX11_drift 12 (bz_push (.int 9) 2) from bz_o_bipush (n := 9) (v := 9) (by decide +kernel) (by decide)) ?_
  refine bz_ac (show bz_ok RX11 cX11_drift 14 (bz_irem) from bz_o_irem (by decide +kernel)) ?_
  refine bz_ac (show bz_ok RX11 cX11_drift 15 (bz_if_le 46) from bz_o_if_le (off := 31) (t := 46) (by decide +kernel) (by decide)) ?_
  refine bz_ac (show bz_ok RX11 cX11_drift 18 (bz_iload 2 1) from bz_o_iload_n (k := 2) (i := 2) (by decide +kernel) rfl) ?_
  refine bz_ac (show bz_ok RX11 cX11_drift 19 (bz_push (.int 1) 1) from bz_o_iconst (n := 1) (v := 1) (by decide +kernel) (by decide)) ?_
  refine bz_ac (show bz_ok RX11 cX11_drift 20 (bz_isub) from bz_o_isub (by decide +kernel)) ?_
  refine bz_ac (show bz_cok bz_P l RX11 cX11_drift 1 23 21 mX11_isPocket 1 0 from bz_cS' (own := RX11) (idx := 85) (n := 1) bp_X11_isPocket bq_X11_isPocket (by decide +kernel) (bz_tb 819 (by decide +kernel) (by decide +kernel)) (bz_tb 820 (by decide +kernel) (by decide +kernel)) rfl (by decide) (by decide)) ?_
  refine bz_ac (show bz_ok RX11 cX11_drift 24 (bz_if_ne 46) from bz_o_if_ne (off := 22) (t := 46) (by decide +kernel) (by decide)) ?_
  refine bz_ac (show bz_ok RX11 cX11_drift 27 (bz_aload 0 1) from bz_o_aload_n (k := 0) (i := 0) (by decide +kernel) rfl) ?_
  refine bz_ac (show bz_ok RX11 cX11_drift 28 (bz_iload 2 1) from bz_o_iload_n (k := 2) (i := 2) (by decide +kernel) rfl) ?_
  refine bz_ac (show bz_ok RX11 cX11_drift 29 (bz_push (.int 1) 1) from bz_o_iconst (n := 1) (v := 1) (by decide +kernel) (by decide)) ?_
  refine bz_ac (show bz_ok RX11 cX11_drift 30 (bz_isub) from bz_o_isub (by decide +kernel)) ?_
  refine bz_ac (show bz_cok bz_P l RX11 cX11_drift 1 23 31 mX11_ballOn 2 11 from bz_cV' (own := RX11) (idx := 104) (ci := 10) (N := 42) (T := TX11) (n := 1) bp_X11_ballOn bq_X11_ballOn (by decide +kernel) (bz_tb 822 (by decide +kernel) (by decide +kernel)) (bz_tb 824 (by decide +kernel) (by decide +kernel)) (bz_tb 12 (by decide +kernel) (by decide +kernel)) rfl rfl (by decide) (by decide)) ?_
  refine bz_ac (show bz_ok RX11 cX11_drift 34 (bz_if_ge 46) from bz_o_if_ge (off := 12) (t := 46) (by decide +kernel) (by decide)) ?_
  refine bz_ac (show bz_ok RX11 cX11_drift 37 (bz_aload 0 1) from bz_o_aload_n (k := 0) (i := 0) (by decide +kernel) rfl) ?_
  refine bz_ac (show bz_ok RX11 cX11_drift 38 (bz_getR 10 0) from bz_o_getR (ci := 10) (k := 0) (idx := 7) (C := RX11) (T := TX11) (N := 42) rfl bh_10 rfl rfl (bz_tb 672 (by decide +kernel) (by decide +kernel)) rfl (by decide +kernel)) ?_
  refine bz_ac (show bz_ok RX11 cX11_drift 41 (bz_iload 1 1) from bz_o_iload_n (k := 1) (i := 1) (by decide +kernel) rfl) ?_
  refine bz_ac (show bz_ok RX11 cX11_drift 42 (bz_iload 2 1) from bz_o_iload_n (k := 2) (i := 2) (by decide +kernel) rfl) ?_
  refine bz_ac (show bz_ok RX11 cX11_drift 43 (bz_push (.int 1) 1) from bz_o_iconst (n := 1) (v := 1) (by decide +kernel) (by decide)) ?_
  refine bz_ac (show bz_ok RX11 cX11_drift 44 (bz_isub) from bz_o_isub (by decide +kernel)) ?_
  refine bz_ac (show bz_ok RX11 cX11_drift 45 (bz_iast) from bz_o_iast (by decide +kernel)) ?_
  refine bz_ac (show bz_rok cX11_drift none 46 0 from Or.inl ⟨rfl, rfl, by decide +kernel⟩) ?_
  exact bz_an
set_option maxRecDepth 100000 in
theorem bo_X11_nap (l : Launch) : ∀ q ∈ bt_X11_nap, bz_rw bz_P l bm_X11_nap q := by
  refine bz_ac (show bz_ok RX11 cX11_nap 0 (bz_push (.int 0) 1) from bz_o_iconst (n := 0) (v := 0) (by decide +kernel) (by decide)) ?_
  refine bz_ac (show bz_ok RX11 cX11_nap 1 (bz_istore 1 1) from bz_o_istore_n (k := 1) (i := 1) (by decide +kernel) rfl) ?_
  refine bz_ac (show bz_ok RX11 cX11_nap 2 (bz_iload 1 1) from bz_o_iload_n (k := 1) (i := 1) (by decide +kernel) rfl) ?_
  refine bz_ac (show bz_ok RX11 cX11_nap 3 (bz_push (.int 3) 1) from bz_o_iconst (n := 3) (v := 3) (by decide +kernel) (by decide)) ?_
  refine bz_ac (show bz_ok RX11 cX11_nap 4 (bz_ic_ge 28) from bz_o_ic_ge (off := 24) (t := 28) (by decide +kernel) (by decide)) ?_
  refine bz_ac (show bz_ok RX11 cX11_nap 7 (bz_aload 0 1) from bz_o_aload_n (k := 0) (i := 0) (by decide +kernel) rfl) ?_
  refine bz_ac (show bz_ok RX11 cX11_nap 8 (bz_getR 10 25) from bz_o_getR (ci := 10) (k := 25) (idx := 34) (C := RX11) (T := TX11) (N := 42) rfl bh_10 rfl rfl (bz_tb 697 (by decide +kernel) (by decide +kernel)) rfl (by decide +kernel)) ?_
  refine bz_ac (show bz_ok RX11 cX11_nap 11 (bz_iload 1 1) from bz_o_iload_n (k := 1) (i := 1) (by decide +kernel) rfl) ?_
  refine bz_ac (show bz_ok RX11 cX11_nap 12 (bz_aload 0 1) from bz_o_aload_n (k := 0) (i := 0) (by decide +kernel) rfl) ?_
  refine bz_ac (show bz_ok RX11 cX11_nap 13 (bz_getR 10 0) from bz_o_getR (ci := 10) (k := 0) (idx := 7) (C := RX11) (T := TX11) (N := 42) rfl bh_10 rfl rfl (bz_tb 672 (by decide +kernel) (by decide +kernel)) rfl (by decide +kernel)) ?_
  refine bz_ac (show bz_ok RX11 cX11_nap 16 (bz_iload 1 1) from bz_o_iload_n (k := 1) (i := 1) (by decide +kernel) rfl) ?_
  refine bz_ac (show bz_ok RX11 cX11_nap 17 (bz_iald) from bz_o_iald (by decide +kernel)) ?_
  refine bz_ac (show bz_cok bz_P l RX11 cX11_nap 2 45 18 mX11_columnOf 1 0 from bz_cS' (own := RX11) (idx := 205) (n := 1) bp_X11_columnOf bq_X11_columnOf (by decide +kernel) (bz_tb 930 (by decide +kernel) (by decide +kernel)) (bz_tb 931 (by decide +kernel) (by decide +kernel)) rfl (by decide) (by decide)) ?_
  refine bz_ac (show bz_ok RX11 cX11_nap 21 (bz_iast) from bz_o_iast (by decide +kernel)) ?_
  refine bz_ac (show bz_ok RX11 cX11_nap 22 (bz_iinc 1 1) from bz_o_iinc (i := 1) (n := 1) (v := 1) (by decide +kernel) (by decide)) ?_
  refine bz_ac (show bz_ok RX11 cX11_nap 25 (bz_goto 2) from bz_o_goto (off := (-23)) (t := 2) (by decide +kernel) (by decide)) ?_
  refine bz_ac (show bz_ok RX11 cX11_nap 28 (bz_push (.int 0) 1) from bz_o_iconst (n := 0) (v := 0) (by decide +kernel) (by decide)) ?_
  refine bz_ac (show bz_ok RX11 cX11_nap 29 (bz_istore 1 1) from bz_o_istore_n (k := 1) (i := 1) (by decide +kernel) rfl) ?_
  refine bz_ac (show bz_ok RX11 cX11_nap 30 (bz_iload 1 1) from bz_o_iload_n (k := 1) (i := 1) (by decide +kernel) rfl) ?_
  refine bz_ac (show bz_ok RX11 cX11_nap 31 (bz_push (.int 9) 2) from bz_o_bipush (n := 9) (v := 9) (by decide +kernel) (by decide)) ?_
  refine bz_ac (show bz_ok RX11 cX11_nap 33 (bz_ic_ge 70) from bz_o_ic_ge (off := 37) (t := 70) (by decide +kernel) (by decide)) ?_
  refine bz_ac (show bz_ok RX11 cX11_nap 36 (bz_push (.int 0) 1) from bz_o_iconst (n := 0) (v := 0) (by decide +kernel) (by decide)) ?_
  refine bz_ac (show bz_ok RX11 cX11_nap 37 (bz_istore 2 1) from bz_o_istore_n (k := 2) (i := 2) (by decide +kernel) rfl) ?_
  refine bz_ac (show bz_ok RX11 cX11_nap 38 (bz_iload 2 1) from bz_o_iload_n (k := 2) (i := 2) (by decide +kernel) rfl) ?_
  refine bz_ac (show bz_ok RX11 cX11_nap 39 (bz_push (.int 3) 1) from bz_o_iconst (n := 3) (v := 3) (by decide +kernel) (by decide)) ?_
  refine bz_ac (show bz_ok RX11 cX11_nap 40 (bz_ic_ge 64) from bz_o_ic_ge (off := 24) (t := 64) (by decide +kernel) (by decide)) ?_
  refine bz_ac (show bz_ok RX11 cX11_nap 43 (bz_aload 0 1) from bz_o_aload_n (k := 0) (i := 0) (by decide +kernel) rfl) ?_
  refine bz_ac (show bz_ok RX11 cX11_nap 44 (bz_getR 10 25) from bz_o_getR (ci := 10) (k := 25) (idx := 34) (C := RX11) (T := TX11) (N := 42) rfl bh_10 rfl rfl (bz_tb 697 (by decide +kernel) (by decide +kernel)) rfl (by decide +kernel)) ?_
  refine bz_ac (show bz_ok RX11 cX11_nap 47 (bz_iload 2 1) from bz_o_iload_n (k := 2) (i := 2) (by decide +kernel) rfl) ?_
  refine bz_ac (show bz_ok RX11 cX11_nap 48 (bz_iald) from bz_o_iald (by decide +kernel)) ?_
  refine bz_ac (show bz_ok RX11 cX11_nap 49 (bz_iload 1 1) from bz_o_iload_n (k := 1) (i := 1) (by decide +kernel) rfl) ?_
  refine bz_ac (show bz_ok RX11 cX11_nap 50 (bz_ic_ne 58) from bz_o_ic_ne (off := 8) (t := 58) (by decide +kernel) (by decide)) ?_
  refine bz_ac (show bz_ok RX11 cX11_nap 53 (bz_aload 0 1) from bz_o_aload_n (k := 0) (i := 0) (by decide +kernel) rfl) ?_
  refine bz_ac (show bz_ok RX11 cX11_nap 54 (bz_iload 2 1) from bz_o_iload_n (k := 2) (i := 2) (by decide +kernel) rfl) ?_
  refine bz_ac (show bz_cok bz_P l RX11 cX11_nap 2 45 55 mX11_drift 2 11 from bz_cV' (own := RX11) (idx := 208) (ci := 10) (N := 42) (T := TX11) (n := 1) bp_X11_drift bq_X11_drift (by decide +kernel) (bz_tb 933 (by decide +kernel) (by decide +kernel)) (bz_tb 935 (by decide +kernel) (by decide +kernel)) (bz_tb 28 (by decide +kernel) (by decide +kernel)) rfl rfl (by decide) (by decide)) ?_
  refine bz_ac (show bz_ok RX11 cX11_nap 58 (bz_iinc 2 1) from bz_o_iinc (i := 2) (n := 1) (v := 1) (by decide +kernel) (by decide)) ?_
  refine bz_ac (show bz_ok RX11 cX11_nap 61 (bz_goto 38) from bz_o_goto (off := (-23)) (t := 38) (by decide +kernel) (by decide)) ?_
  refine bz_ac (show bz_ok RX11 cX11_nap 64 (bz_iinc 1 1) from bz_o_iinc (i := 1) (n := 1) (v := 1) (by decide +kernel) (by decide)) ?_
  refine bz_ac (show bz_ok RX11 cX11_nap 67 (bz_goto 30) from bz_o_goto (off := (-37)) (t := 30) (by decide +kernel) (by decide)) ?_
  refine bz_ac (show bz_rok cX11_nap none 70 0 from Or.inl ⟨rfl, rfl, by decide +kernel⟩) ?_
  exact bz_an
set_option maxRecDepth 100000 in
theorem bo_X11_whyNot (l : Launch) : ∀ q ∈ bt_X11_whyNot, bz_rw bz_P l bm_X11_whyNot q := by
  refine bz_ac (show bz_ok RX11 cX11_whyNot 0 (bz_iload 1 1) from bz_o_iload_n (k := 1) (i := 1) (by decide +kernel) rfl) ?_
  refine bz_ac (show bz_ok RX11 cX11_whyNot 1 (bz_switch (bz_mk 0 [32, 47, 92, 77]) 92) from bz_o_table (df := 91) (offs := #[31, 46, 91, 76]) (len := 31) (lo := 0) (hi := 3) (ts := [32, 47, 92, 77]) (d := 92) (by decide +kernel) (by decide) (by decide +kernel) (by decide)) ?_
  refine bz_ac (show bz_ok RX11 cX11_whyNot 32 (bz_aload 0 1) from bz_o_aload_n (k := 0) (i := 0) (by decide +kernel) rfl) ?_
  refine bz_ac (show bz_ok RX11 cX11_whyNot 33 (bz_getR 10 0) from bz_o_getR (ci := 10) (k := 0) (idx := 7) (C := RX11) (T := TX11) (N := 42) rfl bh_10 rfl rfl (bz_tb 672 (by decide +kernel) (by decide +kernel)) rfl (by decide +kernel)) ?_
  refine bz_ac (show bz_ok RX11 cX11_whyNot 36 (bz_iload 2 1) from bz_o_iload_n (k := 2) (i := 2) (by decide +kernel) rfl) ?_
  refine bz_ac (show bz_ok RX11 cX11_whyNot 37 (bz_iald) from bz_o_iald (by decide +kernel)) ?_
  refine bz_ac (show bz_ok RX11 cX11_whyNot 38 (bz_if_ge 45) from bz_o_if_ge (off := 7) (t := 45) (by decide +kernel) (by decide)) ?_
  refine bz_ac (show bz_ok RX11 cX11_whyNot 41 (bz_push (.int 1) 1) from bz_o_iconst (n := 1) (v := 1) (by decide +kernel) (by decide)) ?_
  refine bz_ac (show bz_ok RX11 cX11_whyNot 42 (bz_goto 46) from bz_o_goto (off := 4) (t := 46) (by decide +kernel) (by decide)) ?_
  refine bz_ac (show bz_ok RX11 cX11_whyNot 45 (bz_push (.int 0) 1) from bz_o_iconst (n := 0) (v := 0) (by decide +kernel) (by decide)) ?_
  refine bz_ac (show bz_rok cX11_whyNot (some .int) 46 1 from Or.inr (Or.inl ⟨rfl, rfl, by decide +kernel⟩)) ?_
  refine bz_ac (show bz_ok RX11 cX11_whyNot 47 (bz_aload 0 1) from bz_o_aload_n (k := 0) (i := 0) (by decide +kernel) rfl) ?_
  refine bz_ac (show bz_ok RX11 cX11_whyNot 48 (bz_getR 10 0) from bz_o_getR (ci := 10) (k := 0) (idx := 7) (C := RX11) (T := TX11) (N := 42) rfl bh_10 rfl rfl (bz_tb 672 (by decide +kernel) (by decide +kernel)) rfl (by decide +kernel)) ?_
  refine bz_ac (show bz_ok RX11 cX11_whyNot 51 (bz_iload 2 1) from bz_o_iload_n (k := 2) (i := 2) (by decide +kernel) rfl) ?_
  refine bz_ac (show bz_ok RX11 cX11_whyNot 52 (bz_iald) from bz_o_iald (by decide +kernel)) ?_
  refine bz_ac (show bz_ok RX11 cX11_whyNot 53 (bz_if_lt 60) from bz_o_if_lt (off := 7) (t := 60) (by decide +kernel) (by decide)) ?_
  refine bz_ac (show bz_ok RX11 cX11_whyNot 56 (bz_push (.int 1) 1) from bz_o_iconst (n := 1) (v := 1) (by decide +kernel) (by decide)) ?_
  refine bz_ac (show bz_ok RX11 cX11_whyNot 57 (bz_goto 76) from bz_o_goto (off := 19) (t := 76) (by decide +kernel) (by decide)) ?_
  refine bz_ac (show bz_ok RX11 cX11_whyNot 60 (bz_aload 0 1) from bz_o_aload_n (k := 0) (i := 0) (by decide +kernel) rfl) ?_
  refine bz_ac (show bz_ok RX11 cX11_whyNot 61 (bz_iload 2 1) from bz_o_iload_n (k := 2) (i := 2) (by decide +kernel) rfl) ?_
  refine bz_ac (show bz_cok bz_P l RX11 cX11_whyNot 1 23 62 mX11_home 1 0 from bz_cS' (own := RX11) (idx := 69) (n := 1) bp_X11_home bq_X11_home (by decide +kernel) (bz_tb 669 (by decide +kernel) (by decide +kernel)) (bz_tb 670 (by decide +kernel) (by decide +kernel)) rfl (by decide) (by decide)) ?_
  refine bz_ac (show bz_cok bz_P l RX11 cX11_whyNot 1 23 65 mX11_ballOn 2 11 from bz_cV' (own := RX11) (idx := 104) (ci := 10) (N := 42) (T := TX11) (n := 1) bp_X11_ballOn bq_X11_ballOn (by decide +kernel) (bz_tb 822 (by decide +kernel) (by decide +kernel)) (bz_tb 824 (by decide +kernel) (by decide +kernel)) (bz_tb 12 (by decide +kernel) (by decide +kernel)) rfl rfl (by decide) (by decide)) ?_
  refine bz_ac (show bz_ok RX11 cX11_whyNot 68 (bz_if_lt 75) from bz_o_if_lt (off := 7) (t := 75) (by decide +kernel) (by decide)) ?_
  refine bz_ac (show bz_ok RX11 cX11_whyNot 71 (bz_push (.int 2) 1) from bz_o_iconst (n := 2) (v := 2) (by decide +kernel) (by decide)) ?_
  refine bz_ac (show bz_ok RX11 cX11_whyNot 72 (bz_goto 76) from bz_o_goto (off := 4) (t := 76) (by decide +kernel) (by decide)) ?_
  refine bz_ac (show bz_ok RX11 cX11_whyNot 75 (bz_push (.int 0) 1) from bz_o_iconst (n := 0) (v := 0) (by decide +kernel) (by decide)) ?_
  refine bz_ac (show bz_rok cX11_whyNot (some .int) 76 1 from Or.inr (Or.inl ⟨rfl, rfl, by decide +kernel⟩)) ?_
  refine bz_ac (show bz_ok RX11 cX11_whyNot 77 (bz_aload 0 1) from bz_o_aload_n (k := 0) (i := 0) (by decide +kernel) rfl) ?_
  refine bz_ac (show bz_ok RX11 cX11_whyNot 78 (bz_getI 10 3) from bz_o_getI (ci := 10) (k := 3) (idx := 211) (C := RX11) (T := TX11) (N := 42) rfl bh_10 rfl rfl (bz_tb 675 (by decide +kernel) (by decide +kernel)) (Or.inl rfl) (by decide +kernel)) ?_
  refine bz_ac (show bz_ok RX11 cX11_whyNot 81 (bz_push (.int 99) 2) from bz_o_bipush (n := 99) (v := 99) (by decide +kernel) (by decide)) ?_
  refine bz_ac (show bz_ok RX11 cX11_whyNot 83 (bz_ic_ne 90) from bz_o_ic_ne (off := 7) (t := 90) (by decide +kernel) (by decide)) ?_
  refine bz_ac (show bz_ok RX11 cX11_whyNot 86 (bz_push (.int 3) 1) from bz_o_iconst (n := 3) (v := 3) (by decide +kernel) (by decide)) ?_
  refine bz_ac (show bz_ok RX11 cX11_whyNot 87 (bz_goto 91) from bz_o_goto (off := 4) (t := 91) (by decide +kernel) (by decide)) ?_
  refine bz_ac (show bz_ok RX11 cX11_whyNot 90 (bz_push (.int 0) 1) from bz_o_iconst (n := 0) (v := 0) (by decide +kernel) (by decide)) ?_
  refine bz_ac (show bz_rok cX11_whyNot (some .int) 91 1 from Or.inr (Or.inl ⟨rfl, rfl, by decide +kernel⟩)) ?_
  refine bz_ac (show bz_ok RX11 cX11_whyNot 92 (bz_push (.int 0) 1) from bz_o_iconst (n := 0) (v := 0) (by decide +kernel) (by decide)) ?_
  refine bz_ac (show bz_rok cX11_whyNot (some .int) 93 1 from Or.inr (Or.inl ⟨rfl, rfl, by decide +kernel⟩)) ?_
  exact bz_an
set_option maxRecDepth 100000 in
theorem bo_X11_happen (l : Launch) : ∀ q ∈ bt_X11_happen, bz_rw bz_P l bm_X11_happen q := by
  refine bz_ac (show bz_ok RX11 cX11_happen 0 (bz_iload 1 1) from bz_o_iload_n (k := 1) (i := 1) (by decide +kernel) rfl) ?_
  refine bz_ac (show bz_ok RX11 cX11_happen 1 (bz_switch (bz_mk 0 [28, 39, 52]) 59) from bz_o_table (df := 58) (offs := #[27, 38, 51]) (len := 27) (lo := 0) (hi := 2) (ts := [28, 39, 52]) (d := 59) (by decide +kernel) (by decide) (by decide +kernel) (by decide)) ?_
  refine bz_ac (show bz_ok RX11 cX11_happen 28 (bz_aload 0 1) from bz_o_aload_n (k := 0) (i := 0) (by decide +kernel) rfl) ?_
  refine bz_ac (show bz_ok RX11 cX11_happen 29 (bz_iload 2 1) from bz_o_iload_n (k := 2) (i := 2) (by decide +kernel) rfl) ?_
  refine bz_ac (show bz_ok RX11 cX11_happen 30 (bz_iload 3 1) from bz_o_iload_n (k := 3) (i := 3) (by decide +kernel) rfl) ?_
  refine bz_ac (show bz_ok RX11 cX11_happen 31 (bz_iload 4 2) from bz_o_iload (i := 4) (by decide +kernel)) ?_
  refine bz_ac (show bz_cok bz_P l RX11 cX11_happen 5 119 33 mX11_stroke 4 11 from bz_cV' (own := RX11) (idx := 214) (ci := 10) (N := 42) (T := TX11) (n := 3) bp_X11_stroke bq_X11_stroke (by decide +kernel) (bz_tb 896 (by decide +kernel) (by decide +kernel)) (bz_tb 898 (by decide +kernel) (by decide +kernel)) (bz_tb 23 (by decide +kernel) (by decide +kernel)) rfl rfl (by decide) (by decide)) ?_
  refine bz_ac (show bz_ok RX11 cX11_happen 36 (bz_goto 69) from bz_o_goto (off := 33) (t := 69) (by decide +kernel) (by decide)) ?_
  refine bz_ac (show bz_ok RX11 cX11_happen 39 (bz_aload 0 1) from bz_o_aload_n (k := 0) (i := 0) (by decide +kernel) rfl) ?_
  refine bz_ac (show bz_ok RX11 cX11_happen 40 (bz_getR 10 0) from bz_o_getR (ci := 10) (k := 0) (idx := 7) (C := RX11) (T := TX11) (N := 42) rfl bh_10 rfl rfl (bz_tb 672 (by decide +kernel) (by decide +kernel)) rfl (by decide +kernel)) ?_
  refine bz_ac (show bz_ok RX11 cX11_happen 43 (bz_iload 2 1) from bz_o_iload_n (k := 2) (i := 2) (by decide +kernel) rfl) ?_
  refine bz_ac (show bz_ok RX11 cX11_happen 44 (bz_iload 2 1) from bz_o_iload_n (k := 2) (i := 2) (by decide +kernel) rfl) ?_
  refine bz_ac (show bz_cok bz_P l RX11 cX11_happen 5 119 45 mX11_home 1 0 from bz_cS' (own := RX11) (idx := 69) (n := 1) bp_X11_home bq_X11_home (by decide +kernel) (bz_tb 669 (by decide +kernel) (by decide +kernel)) (bz_tb 670 (by decide +kernel) (by decide +kernel)) rfl (by decide) (by decide)) ?_
  refine bz_ac (show bz_ok RX11 cX11_happen 48 (bz_iast) from bz_o_iast (by decide +kernel)) ?_
  refine bz_ac (show bz_ok RX11 cX11_happen 49 (bz_goto 69) from bz_o_goto (off := 20) (t := 69) (by decide +kernel) (by decide)) ?_
  refine bz_ac (show bz_ok RX11 cX11_happen 52 (bz_aload 0 1) from bz_o_aload_n (k := 0) (i := 0) (by decide +kernel) rfl) ?_
  refine bz_ac (show bz_cok bz_P l RX11 cX11_happen 5 119 53 mX11_nap 1 11 from bz_cV' (own := RX11) (idx := 217) (ci := 10) (N := 42) (T := TX11) (n := 0) bp_X11_nap bq_X11_nap (by decide +kernel) (bz_tb 926 (by decide +kernel) (by decide +kernel)) (bz_tb 928 (by decide +kernel) (by decide +kernel)) (bz_tb 27 (by decide +kernel) (by decide +kernel)) rfl rfl (by decide) (by decide)) ?_
  refine bz_ac (show bz_ok RX11 cX11_happen 56 (bz_goto 69) from bz_o_goto (off := 13) (t := 69) (by decide +kernel) (by decide)) ?_
  refine bz_ac (show bz_ok RX11 cX11_happen 59 (bz_aload 0 1) from bz_o_aload_n (k := 0) (i := 0) (by decide +kernel) rfl) ?_
  refine bz_ac (show bz_ok RX11 cX11_happen 60 (bz_dup) from bz_o_dup (by decide +kernel)) ?_
  refine bz_ac (show bz_ok RX11 cX11_happen 61 (bz_getI 10 3) from bz_o_getI (ci := 10) (k := 3) (idx := 211) (C := RX11) (T := TX11) (N := 42) rfl bh_10 rfl rfl (bz_tb 675 (by decide +kernel) (by decide +kernel)) (Or.inl rfl) (by decide +kernel)) ?_
  refine bz_ac (show bz_ok RX11 cX11_happen 64 (bz_push (.int 1) 1) from bz_o_iconst (n := 1) (v := 1) (by decide +kernel) (by decide)) ?_
  refine bz_ac (show bz_ok RX11 cX11_happen 65 (bz_iadd) from bz_o_iadd (by decide +kernel)) ?_
  refine bz_ac (show bz_ok RX11 cX11_happen 66 (bz_putI 10 3) from bz_o_putI (ci := 10) (k := 3) (idx := 211) (C := RX11) (T := TX11) (N := 42) rfl bh_10 rfl rfl (bz_tb 675 (by decide +kernel) (by decide +kernel)) tyX11 tyX11_ok nmX11 rfl rfl rfl (by decide +kernel)) ?_
  refine bz_ac (show bz_rok cX11_happen none 69 0 from Or.inl ⟨rfl, rfl, by decide +kernel⟩) ?_
  exact bz_an
set_option maxRecDepth 100000 in
theorem bo_X11_keepNow (l : Launch) : ∀ q ∈ bt_X11_keepNow, bz_rw bz_P l bm_X11_keepNow q := by
  refine bz_ac (show bz_ok RX11 cX11_keepNow 0 (bz_push (.int 0) 1) from bz_o_iconst (n := 0) (v := 0) (by decide +kernel) (by decide)) ?_
  refine bz_ac (show bz_ok RX11 cX11_keepNow 1 (bz_istore 1 1) from bz_o_istore_n (k := 1) (i := 1) (by decide +kernel) rfl) ?_
  refine bz_ac (show bz_ok RX11 cX11_keepNow 2 (bz_iload 1 1) from bz_o_iload_n (k := 1) (i := 1) (by decide +kernel) rfl) ?_
  refine bz_ac (show bz_ok RX11 cX11_keepNow 3 (bz_push (.int 3) 1) from bz_o_iconst (n := 3) (v := 3) (by decide +kernel) (by decide)) ?_
  refine bz_ac (show bz_ok RX11 cX11_keepNow 4 (bz_ic_ge 25) from bz_o_ic_ge (off := 21) (t := 25) (by decide +kernel) (by decide)) ?_
  refine bz_ac (show bz_ok RX11 cX11_keepNow 7 (bz_aload 0 1) from bz_o_aload_n (k := 0) (i := 0) (by decide +kernel) rfl) ?_
  refine bz_ac (show bz_ok RX11 cX11_keepNow 8 (bz_getR 10 26) from bz_o_getR (ci := 10) (k := 26) (idx := 37) (C := RX11) (T := TX11) (N := 42) rfl bh_10 rfl rfl (bz_tb 698 (by decide +kernel) (by decide +kernel)) rfl (by decide +kernel)) ?_
  refine bz_ac (show bz_ok RX11 cX11_keepNow 11 (bz_iload 1 1) from bz_o_iload_n (k := 1) (i := 1) (by decide +kernel) rfl) ?_
  refine bz_ac (show bz_ok RX11 cX11_keepNow 12 (bz_aload 0 1) from bz_o_aload_n (k := 0) (i := 0) (by decide +kernel) rfl) ?_
  refine bz_ac (show bz_ok RX11 cX11_keepNow 13 (bz_getR 10 0) from bz_o_getR (ci := 10) (k := 0) (idx := 7) (C := RX11) (T := TX11) (N := 42) rfl bh_10 rfl rfl (bz_tb 672 (by decide +kernel) (by decide +kernel)) rfl (by decide +kernel)) ?_
  refine bz_ac (show bz_ok RX11 cX11_keepNow 16 (bz_iload 1 1) from bz_o_iload_n (k := 1) (i := 1) (by decide +kernel) rfl) ?_
  refine bz_ac (show bz_ok RX11 cX11_keepNow 17 (bz_iald) from bz_o_iald (by decide +kernel)) ?_
  refine bz_ac (show bz_ok RX11 cX11_keepNow 18 (bz_iast) from bz_o_iast (by decide +kernel)) ?_
  refine bz_ac (show bz_ok RX11 cX11_keepNow 19 (bz_iinc 1 1) from bz_o_iinc (i := 1) (n := 1) (v := 1) (by decide +kernel) (by decide)) ?_
  refine bz_ac (show bz_ok RX11 cX11_keepNow 22 (bz_goto 2) from bz_o_goto (off := (-20)) (t := 2) (by decide +kernel) (by decide)) ?_
  refine bz_ac (show bz_ok RX11 cX11_keepNow 25 (bz_aload 0 1) from bz_o_aload_n (k := 0) (i := 0) (by decide +kernel) rfl) ?_
  refine bz_ac (show bz_ok RX11 cX11_keepNow 26 (bz_getR 10 26) from bz_o_getR (ci := 10) (k := 26) (idx := 37) (C := RX11) (T := TX11) (N := 42) rfl bh_10 rfl rfl (bz_tb 698 (by decide +kernel) (by decide +kernel)) rfl (by decide +kernel)) ?_
  refine bz_ac (show bz_ok RX11 cX11_keepNow 29 (bz_push (.int 3) 1) from bz_o_iconst (n := 3) (v := 3) (by decide +kernel) (by decide)) ?_
  refine bz_ac (show bz_ok RX11 cX11_keepNow 30 (bz_aload 0 1) from bz_o_aload_n (k := 0) (i := 0) (by decide +kernel) rfl) ?_
  refine bz_ac (show bz_ok RX11 cX11_keepNow 31 (bz_getI 10 1) from bz_o_getI (ci := 10) (k := 1) (idx := 109) (C := RX11) (T := TX11) (N := 42) rfl bh_10 rfl rfl (bz_tb 673 (by decide +kernel) (by decide +kernel)) (Or.inl rfl) (by decide +kernel)) ?_
  refine bz_ac (show bz_ok RX11 cX11_keepNow 34 (bz_iast) from bz_o_iast (by decide +kernel)) ?_
  refine bz_ac (show bz_ok RX11 cX11_keepNow 35 (bz_aload 0 1) from bz_o_aload_n (k := 0) (i := 0) (by decide +kernel) rfl) ?_
  refine bz_ac (show bz_ok RX11 cX11_keepNow 36 (bz_getR 10 26) from bz_o_getR (ci := 10) (k := 26) (idx := 37) (C := RX11) (T := TX11) (N := 42) rfl bh_10 rfl rfl (bz_tb 698 (by decide +kernel) (by decide +kernel)) rfl (by decide +kernel)) ?_
  refine bz_ac (show bz_ok RX11 cX11_keepNow 39 (bz_push (.int 4) 1) from bz_o_iconst (n := 4) (v := 4) (by decide +kernel) (by decide)) ?_
  refine bz_ac (show bz_ok RX11 cX11_keepNow 40 (bz_aload 0 1) from bz_o_aload_n (k := 0) (i := 0) (by decide +kernel) rfl) ?_
  refine bz_ac (show bz_ok RX11 cX11_keepNow 41 (bz_getI 10 2) from bz_o_getI (ci := 10) (k := 2) (idx := 113) (C := RX11) (T := TX11) (N := 42) rfl bh_10 rfl rfl (bz_tb 674 (by decide +kernel) (by decide +kernel)) (Or.inl rfl) (by decide +kernel)) ?_
  refine bz_ac (show bz_ok RX11 cX11_keepNow 44 (bz_iast) from bz_o_iast (by decide +kernel)) ?_
  refine bz_ac (show bz_ok RX11 cX11_keepNow 45 (bz_aload 0 1) from bz_o_aload_n (k := 0) (i := 0) (by decide +kernel) rfl) ?_
  refine bz_ac (show bz_ok RX11 cX11_keepNow 46 (bz_getR 10 26) from bz_o_getR (ci := 10) (k := 26) (idx := 37) (C := RX11) (T := TX11) (N := 42) rfl bh_10 rfl rfl (bz_tb 698 (by decide +kernel) (by decide +kernel)) rfl (by decide +kernel)) ?_
  refine bz_ac (show bz_ok RX11 cX11_keepNow 49 (bz_push (.int 5) 1) from bz_o_iconst (n := 5) (v := 5) (by decide +kernel) (by decide)) ?_
  refine bz_ac (show bz_ok RX11 cX11_keepNow 50 (bz_aload 0 1) from bz_o_aload_n (k := 0) (i := 0) (by decide +kernel) rfl) ?_
  refine bz_ac (show bz_ok RX11 cX11_keepNow 51 (bz_getI 10 3) from bz_o_getI (ci := 10) (k := 3) (idx := 211) (C := RX11) (T := TX11) (N := 42) rfl bh_10 rfl rfl (bz_tb 675 (by decide +kernel) (by decide +kernel)) (Or.inl rfl) (by decide +kernel)) ?_
  refine bz_ac (show bz_ok RX11 cX11_keepNow 54 (bz_iast) from bz_o_iast (by decide +kernel)) ?_
  refine bz_ac (show bz_rok cX11_keepNow none 55 0 from Or.inl ⟨rfl, rfl, by decide +kernel⟩) ?_
  exact bz_an
set_option maxRecDepth 100000 in
theorem bo_X11_back (l : Launch) : ∀ q ∈ bt_X11_back, bz_rw bz_P l bm_X11_back q := by
  refine bz_ac (show bz_ok RX11 cX11_back 0 (bz_push (.int 0) 1) from bz_o_iconst (n := 0) (v := 0) (by decide +kernel) (by decide)) ?_
  refine bz_ac (show bz_ok RX11 cX11_back 1 (bz_istore 2 1) from bz_o_istore_n (k := 2) (i := 2) (by decide +kernel) rfl) ?_
  refine bz_ac (show bz_ok RX11 cX11_back 2 (bz_iload 2 1) from bz_o_iload_n (k := 2) (i := 2) (by decide +kernel) rfl) ?_
  refine bz_ac (show bz_ok RX11 cX11_back 3 (bz_push (.int 3) 1) from bz_o_iconst (n := 3) (v := 3) (by decide +kernel) (by decide)) ?_
  refine bz_ac (show bz_ok RX11 cX11_back 4 (bz_ic_ge 25) from bz_o_ic_ge (off := 21) (t := 25) (by decide +kernel) (by decide)) ?_
  refine bz_ac (show bz_ok RX11 cX11_back 7 (bz_aload 0 1) from bz_o_aload_n (k := 0) (i := 0) (by decide +kernel) rfl) ?_
  refine bz_ac (show bz_ok RX11 cX11_back 8 (bz_getR 10 0) from bz_o_getR (ci := 10) (k := 0) (idx := 7) (C := RX11) (T := TX11) (N := 42) rfl bh_10 rfl rfl (bz_tb 672 (by decide +kernel) (by decide +kernel)) rfl (by decide +kernel)) ?_
  refine bz_ac (show bz_ok RX11 cX11_back 11 (bz_iload 2 1) from bz_o_iload_n (k := 2) (i := 2) (by decide +kernel) rfl) ?_
  refine bz_ac (show bz_ok RX11 cX11_back 12 (bz_aload 0 1) from bz_o_aload_n (k := 0) (i := 0) (by decide +kernel) rfl) ?_
  refine bz_ac (show bz_ok RX11 cX11_back 13 (bz_getR 10 26) from bz_o_getR (ci := 10) (k := 26) (idx := 37) (C := RX11) (T := TX11) (N := 42) rfl bh_10 rfl rfl (bz_tb 698 (by decide +kernel) (by decide +kernel)) rfl (by decide +kernel)) ?_
  refine bz_ac (show bz_ok RX11 cX11_back 16 (bz_iload 2 1) from bz_o_iload_n (k := 2) (i := 2) (by decide +kernel) rfl) ?_
  refine bz_ac (show bz_ok RX11 cX11_back 17 (bz_iald) from bz_o_iald (by decide +kernel)) ?_
  refine bz_ac (show bz_ok RX11 cX11_back 18 (bz_iast) from bz_o_iast (by decide +kernel)) ?_
  refine bz_ac (show bz_ok RX11 cX11_back 19 (bz_iinc 2 1) from bz_o_iinc (i := 2) (n := 1) (v := 1) (by decide +kernel) (by decide)) ?_
  refine bz_ac (show bz_ok RX11 cX11_back 22 (bz_goto 2) from bz_o_goto (off := (-20)) (t := 2) (by decide +kernel) (by decide)) ?_
  refine bz_ac (show bz_ok RX11 cX11_back 25 (bz_aload 0 1) from bz_o_aload_n (k := 0) (i := 0) (by decide +kernel) rfl) ?_
  refine bz_ac (show bz_ok RX11 cX11_back 26 (bz_aload 0 1) from bz_o_aload_n (k := 0) (i := 0) (by decide +kernel) rfl) ?_
  refine bz_ac (show bz_ok RX11 cX11_back 27 (bz_getR 10 26) from bz_o_getR (ci := 10) (k := 26) (idx := 37) (C := RX11) (T := TX11) (N := 42) rfl bh_10 rfl rfl (bz_tb 698 (by decide +kernel) (by decide +kernel)) rfl (by decide +kernel)) ?_
  refine bz_ac (show bz_ok RX11 cX11_back 30 (bz_push (.int 3) 1) from bz_o_iconst (n := 3) (v := 3) (by decide +kernel) (by decide)) ?_
  refine bz_ac (show bz_ok RX11 cX11_back 31 (bz_iald) from bz_o_iald (by decide +kernel)) ?_
  refine bz_ac (show bz_ok RX11 cX11_back 32 (bz_putI 10 1) from bz_o_putI (ci := 10) (k := 1) (idx := 109) (C := RX11) (T := TX11) (N := 42) rfl bh_10 rfl rfl (bz_tb 673 (by decide +kernel) (by decide +kernel)) tyX11 tyX11_ok nmX11 rfl rfl rfl (by decide +kernel)) ?_
  refine bz_ac (show bz_ok RX11 cX11_back 35 (bz_aload 0 1) from bz_o_aload_n (k := 0) (i := 0) (by decide +kernel) rfl) ?_
  refine bz_ac (show bz_ok RX11 cX11_back 36 (bz_aload 0 1) from bz_o_aload_n (k := 0) (i := 0) (by decide +kernel) rfl) ?_
  refine bz_ac (show bz_ok RX11 cX11_back 37 (bz_getR 10 26) from bz_o_getR (ci := 10) (k := 26) (idx := 37) (C := RX11) (T := TX11) (N := 42) rfl bh_10 rfl rfl (bz_tb 698 (by decide +kernel) (by decide +kernel)) rfl (by decide +kernel)) ?_
  refine bz_ac (show bz_ok RX11 cX11_back 40 (bz_push (.int 4) 1) from bz_o_iconst (n := 4) (v := 4) (by decide +kernel) (by decide)) ?_
  refine bz_ac (show bz_ok RX11 cX11_back 41 (bz_iald) from bz_o_iald (by decide +kernel)) ?_
  refine bz_ac (show bz_ok RX11 cX11_back 42 (bz_putI 10 2) from bz_o_putI (ci := 10) (k := 2) (idx := 113) (C := RX11) (T := TX11) (N := 42) rfl bh_10 rfl rfl (bz_tb 674 (by decide +kernel) (by decide +kernel)) tyX11 tyX11_ok nmX11 rfl rfl rfl (by decide +kernel)) ?_
  refine bz_ac (show bz_ok RX11 cX11_back 45 (bz_aload 0 1) from bz_o_aload_n (k := 0) (i := 0) (by decide +kernel) rfl) ?_
  refine bz_ac (show bz_ok RX11 cX11_back 46 (bz_aload 0 1) from bz_o_aload_n (k := 0) (i := 0) (by decide +kernel) rfl) ?_
  refine bz_ac (show bz_ok RX11 cX11_back 47 (bz_getR 10 26) from bz_o_getR (ci := 10) (k := 26) (idx := 37) (C := RX11) (T := TX11) (N := 42) rfl bh_10 rfl rfl (bz_tb 698 (by decide +kernel) (by decide +kernel)) rfl (by decide +kernel)) ?_
  refine bz_ac (show bz_ok RX11 cX11_back 50 (bz_push (.int 5) 1) from bz_o_iconst (n := 5) (v := 5) (by decide +kernel) (by decide)) ?_
  refine bz_ac (show bz_ok RX11 cX11_back 51 (bz_iald) from bz_o_iald (by decide +kernel)) ?_
  refine bz_ac (show bz_ok RX11 cX11_back 52 (bz_putI 10 3) from bz_o_putI (ci := 10) (k := 3) (idx := 211) (C := RX11) (T := TX11) (N := 42) rfl bh_10 rfl rfl (bz_tb 675 (by decide +kernel) (by decide +kernel)) tyX11 tyX11_ok nmX11 rfl rfl rfl (by decide +kernel)) ?_
  refine bz_ac (show bz_ok RX11 cX11_back 55 (bz_iload 1 1) from bz_o_iload_n (k := 1) (i := 1) (by decide +kernel) rfl) ?_
  refine bz_ac (show bz_rok cX11_back (some .int) 56 1 from Or.inr (Or.inl ⟨rfl, rfl, by decide +kernel⟩)) ?_
  exact bz_an
set_option maxRecDepth 100000 in
theorem bo_X11_goCrises (l : Launch) : ∀ q ∈ bt_X11_goCrises, bz_rw bz_P l bm_X11_goCrises q := by
  refine bz_ac (show bz_ok RX11 cX11_goCrises 0 (bz_aload 0 1) from bz_o_aload_n (k := 0) (i := 0) (by decide +kernel) rfl) ?_
  refine bz_ac (show bz_ok RX11 cX11_goCrises 1 (bz_push (.int (-6)) 2) from bz_o_bipush (n := (-6)) (v := (-6)) (by decide +kernel) (by decide)) ?_
  refine bz_ac (show bz_ok RX11 cX11_goCrises 3 (bz_putI 10 27) from bz_o_putI (ci := 10) (k := 27) (idx := 220) (C := RX11) (T := TX11) (N := 42) rfl bh_10 rfl rfl (bz_tb 699 (by decide +kernel) (by decide +kernel)) tyX11 tyX11_ok nmX11 rfl rfl rfl (by decide +kernel)) ?_
  refine bz_ac (show bz_ok RX11 cX11_goCrises 6 (bz_aload 0 1) from bz_o_aload_n (k := 0) (i := 0) (by decide +kernel) rfl) ?_
  refine bz_ac (show bz_ok RX11 cX11_goCrises 7 (bz_push (.int (-6)) 2) from bz_o_bipush (n := (-6)) (v := (-6)) (by decide +kernel) (by decide)) ?_
  refine bz_ac (show bz_ok RX11 cX11_goCrises 9 (bz_putI 10 28) from bz_o_putI (ci := 10) (k := 28) (idx := 223) (C := RX11) (T := TX11) (N := 42) rfl bh_10 rfl rfl (bz_tb 700 (by decide +kernel) (by decide +kernel)) tyX11 tyX11_ok nmX11 rfl rfl rfl (by decide +kernel)) ?_
  refine bz_ac (show bz_ok RX11 cX11_goCrises 12 (bz_aload 0 1) from bz_o_aload_n (k := 0) (i := 0) (by decide +kernel) rfl) ?_
  refine bz_ac (show bz_ok RX11 cX11_goCrises 13 (bz_push (.int (-6)) 2) from bz_o_bipush (n := (-6)) (v := (-6)) (by decide +kernel) (by decide)) ?_
  refine bz_ac (show bz_ok RX11 cX11_goCrises 15 (bz_putI 10 29) from bz_o_putI (ci := 10) (k := 29) (idx := 226) (C := RX11) (T := TX11) (N := 42) rfl bh_10 rfl rfl (bz_tb 701 (by decide +kernel) (by decide +kernel)) tyX11 tyX11_ok nmX11 rfl rfl rfl (by decide +kernel)) ?_
  refine bz_ac (show bz_ok RX11 cX11_goCrises 18 (bz_aload 0 1) from bz_o_aload_n (k := 0) (i := 0) (by decide +kernel) rfl) ?_
  refine bz_ac (show bz_ok RX11 cX11_goCrises 19 (bz_push (.int 0) 1) from bz_o_iconst (n := 0) (v := 0) (by decide +kernel) (by decide)) ?_
  refine bz_ac (show bz_ok RX11 cX11_goCrises 20 (bz_putI 10 23) from bz_o_putI (ci := 10) (k := 23) (idx := 199) (C := RX11) (T := TX11) (N := 42) rfl bh_10 rfl rfl (bz_tb 695 (by decide +kernel) (by decide +kernel)) tyX11 tyX11_ok nmX11 rfl rfl rfl (by decide +kernel)) ?_
  refine bz_ac (show bz_ok RX11 cX11_goCrises 23 (bz_aload 0 1) from bz_o_aload_n (k := 0) (i := 0) (by decide +kernel) rfl) ?_
  refine bz_ac (show bz_ok RX11 cX11_goCrises 24 (bz_push (.int 0) 1) from bz_o_iconst (n := 0) (v := 0) (by decide +kernel) (by decide)) ?_
  refine bz_ac (show bz_ok RX11 cX11_goCrises 25 (bz_putI 10 24) from bz_o_putI (ci := 10) (k := 24) (idx := 202) (C := RX11) (T := TX11) (N := 42) rfl bh_10 rfl rfl (bz_tb 696 (by decide +kernel) (by decide +kernel)) tyX11 tyX11_ok nmX11 rfl rfl rfl (by decide +kernel)) ?_
  refine bz_ac (show bz_ok RX11 cX11_goCrises 28 (bz_push (.int 0) 1) from bz_o_iconst (n := 0) (v := 0) (by decide +kernel) (by decide)) ?_
  refine bz_ac (show bz_ok RX11 cX11_goCrises 29 (bz_istore 1 1) from bz_o_istore_n (k := 1) (i := 1) (by decide +kernel) rfl) ?_
  refine bz_ac (show bz_ok RX11 cX11_goCrises 30 (bz_iload 1 1) from bz_o_iload_n (k := 1) (i := 1) (by decide +kernel) rfl) ?_
  refine bz_ac (show bz_ok RX11 cX11_goCrises 31 (bz_aload 0 1) from bz_o_aload_n (k := 0) (i := 0) (by decide +kernel) rfl) ?_
  refine bz_ac (show bz_ok RX11 cX11_goCrises 32 (bz_getI 10 13) from bz_o_getI (ci := 10) (k := 13) (idx := 123) (C := RX11) (T := TX11) (N := 42) rfl bh_10 rfl rfl (bz_tb 685 (by decide +kernel) (by decide +kernel)) (Or.inl rfl) (by decide +kernel)) ?_
  refine bz_ac (show bz_ok RX11 cX11_goCrises 35 (bz_ic_ge 160) from bz_o_ic_ge (off := 125) (t := 160) (by decide +kernel) (by decide)) ?_
  refine bz_ac (show bz_ok RX11 cX11_goCrises 38 (bz_aload 0 1) from bz_o_aload_n (k := 0) (i := 0) (by decide +kernel) rfl) ?_
  refine bz_ac (show bz_ok RX11 cX11_goCrises 39 (bz_getI 10 27) from bz_o_getI (ci := 10) (k := 27) (idx := 220) (C := RX11) (T := TX11) (N := 42) rfl bh_10 rfl rfl (bz_tb 699 (by decide +kernel) (by decide +kernel)) (Or.inl rfl) (by decide +kernel)) ?_
  refine bz_ac (show bz_ok RX11 cX11_goCrises 42 (bz_if_ge 160) from bz_o_if_ge (off := 118) (t := 160) (by decide +kernel) (by decide)) ?_
  refine bz_ac (show bz_ok RX11 cX11_goCrises 45 (bz_aload 0 1) from bz_o_aload_n (k := 0) (i := 0) (by decide +kernel) rfl) ?_
  refine bz_ac (show bz_ok RX11 cX11_goCrises 46 (bz_aload 0 1) from bz_o_aload_n (k := 0) (i := 0) (by decide +kernel) rfl) ?_
  refine bz_ac (show bz_ok RX11 cX11_goCrises 47 (bz_getR 10 9) from bz_o_getR (ci := 10) (k := 9) (idx := 22) (C := RX11) (T := TX11) (N := 42) rfl bh_10 rfl rfl (bz_tb 681 (by decide +kernel) (by decide +kernel)) rfl (by decide +kernel)) ?_
  refine bz_ac (show bz_ok RX11 cX11_goCrises 50 (bz_iload 1 1) from bz_o_iload_n (k := 1) (i := 1) (by decide +kernel) rfl) ?_
  refine bz_ac (show bz_ok RX11 cX11_goCrises 51 (bz_iald) from bz_o_iald (by decide +kernel)) ?_
  refine bz_ac (show bz_ok RX11 cX11_goCrises 52 (bz_aload 0 1) from bz_o_aload_n (k := 0) (i := 0) (by decide +kernel) rfl) ?_
  refine bz_ac (show bz_ok RX11 cX11_goCrises 53 (bz_getR 10 10) from bz_o_getR (ci := 10) (k := 10) (idx := 25) (C := RX11) (T := TX11) (N := 42) rfl bh_10 rfl rfl (bz_tb 682 (by decide +kernel) (by decide +kernel)) rfl (by decide +kernel)) ?_
  refine bz_ac (show bz_ok RX11 cX11_goCrises 56 (bz_iload 1 1) from bz_o_iload_n (k := 1) (i := 1) (by decide +kernel) rfl) ?_
  refine bz_ac (show bz_ok RX11 cX11_goCrises 57 (bz_iald) from bz_o_iald (by decide +kernel)) ?_
  refine bz_ac (show bz_cok bz_P l RX11 cX11_goCrises 6 143 58 mX11_whyNot 3 11 from bz_cV' (own := RX11) (idx := 229) (ci := 10) (N := 42) (T := TX11) (n := 2) bp_X11_whyNot bq_X11_whyNot (by decide +kernel) (bz_tb 888 (by decide +kernel) (by decide +kernel)) (bz_tb 890 (by decide +kernel) (by decide +kernel)) (bz_tb 21 (by decide +kernel) (by decide +kernel)) rfl rfl (by decide) (by decide)) ?_
  refine bz_ac (show bz_ok RX11 cX11_goCrises 61 (bz_istore 2 1) from bz_o_istore_n (k := 2) (i := 2) (by decide +kernel) rfl) ?_
  refine bz_ac (show bz_ok RX11 cX11_goCrises 62 (bz_aload 0 1) from bz_o_aload_n (k := 0) (i := 0) (by decide +kernel) rfl) ?_
  refine bz_ac (show bz_ok RX11 cX11_goCrises 63 (bz_getI 10 2) from bz_o_getI (ci := 10) (k := 2) (idx := 113) (C := RX11) (T := TX11) (N := 42) rfl bh_10 rfl rfl (bz_tb 674 (by decide +kernel) (by decide +kernel)) (Or.inl rfl) (by decide +kernel)) ?_
  refine bz_ac (show bz_ok RX11 cX11_goCrises 66 (bz_istore 3 1) from bz_o_istore_n (k := 3) (i := 3) (by decide +kernel) rfl) ?_
  refine bz_ac (show bz_ok RX11 cX11_goCrises 67 (bz_aload 0 1) from bz_o_aload_n (k := 0) (i := 0) (by decide +kernel) rfl) ?_
  refine bz_ac (show bz_ok RX11 cX11_goCrises 68 (bz_iload 2 1) from bz_o_iload_n (k := 2) (i := 2) (by decide +kernel) rfl) ?_
  refine bz_ac (show bz_ok RX11 cX11_goCrises 69 (bz_if_le 76) from bz_o_if_le (off := 7) (t := 76) (by decide +kernel) (by decide)) ?_
  refine bz_ac (show bz_ok RX11 cX11_goCrises 72 (bz_iload 1 1) from bz_o_iload_n (k := 1) (i := 1) (by decide +kernel) rfl) ?_
  refine bz_ac (show bz_ok RX11 cX11_goCrises 73 (bz_goto 78) from bz_o_goto (off := 5) (t := 78) (by decide +kernel) (by decide)) ?_
  refine bz_ac (show bz_ok RX11 cX11_goCrises 76 (bz_push (.int (-6)) 2) from bz_o_bipush (n := (-6)) (v := (-6)) (by decide +kernel) (by decide)) ?_
  refine bz_ac (show bz_ok RX11 cX11_goCrises 78 (bz_putI 10 27) from bz_o_putI (ci := 10) (k := 27) (idx := 220) (C := RX11) (T := TX11) (N := 42) rfl bh_10 rfl rfl (bz_tb 699 (by decide +kernel) (by decide +kernel)) tyX11 tyX11_ok nmX11 rfl rfl rfl (by decide +kernel)) ?_
  refine bz_ac (show bz_ok RX11 cX11_goCrises 81 (bz_aload 0 1) from bz_o_aload_n (k := 0) (i := 0) (by decide +kernel) rfl) ?_
  refine bz_ac (show bz_ok RX11 cX11_goCrises 82 (bz_iload 2 1) from bz_o_iload_n (k := 2) (i := 2) (by decide +kernel) rfl) ?_
  refine bz_ac (show bz_ok RX11 cX11_goCrises 83 (bz_if_le 90) from bz_o_if_le (off := 7) (t := 90) (by decide +kernel) (by decide)) ?_
  refine bz_ac (show bz_ok RX11 cX11_goCrises 86 (bz_iload 2 1) from bz_o_iload_n (k := 2) (i := 2) (by decide +kernel) rfl) ?_
  refine bz_ac (show bz_ok RX11 cX11_goCrises 87 (bz_goto 92) from bz_o_goto (off := 5) (t := 92) (by decide +kernel) (by decide)) ?_
  refine bz_ac (show bz_ok RX11 cX11_goCrises 90 (bz_push (.int (-6)) 2) from bz_o_bipush (n := (-6)) (v := (-6)) (by decide +kernel) (by decide)) ?_
  refine bz_ac (show bz_ok RX11 cX11_goCrises 92 (bz_putI 10 28) from bz_o_putI (ci := 10) (k := 28) (idx := 223) (C := RX11) (T := TX11) (N := 42) rfl bh_10 rfl rfl (bz_tb 700 (by decide +kernel) (by decide +kernel)) tyX11 tyX11_ok nmX11 rfl rfl rfl (by decide +kernel)) ?_
  refine bz_ac (show bz_ok RX11 cX11_goCrises 95 (bz_iload 2 1) from bz_o_iload_n (k := 2) (i := 2) (by decide +kernel) rfl) ?_
  refine bz_ac (show bz_ok RX11 cX11_goCrises 96 (bz_if_ne 127) from bz_o_if_ne (off := 31) (t := 127) (by decide +kernel) (by decide)) ?_
  refine bz_ac (show bz_ok RX11 cX11_goCrises 99 (bz_aload 0 1) from bz_o_aload_n (k := 0) (i := 0) (by decide +kernel) rfl) ?_
  refine bz_ac (show bz_ok RX11 cX11_goCrises 100 (bz_aload 0 1) from bz_o_aload_n (k := 0) (i := 0) (by decide +kernel) rfl) ?_
  refine bz_ac (show bz_ok RX11 cX11_goCrises 101 (bz_getR 10 9) from bz_o_getR (ci := 10) (k := 9) (idx := 22) (C := RX11) (T := TX11) (N := 42) rfl bh_10 rfl rfl (bz_tb 681 (by decide +kernel) (by decide +kernel)) rfl (by decide +kernel)) ?_
  refine bz_ac (show bz_ok RX11 cX11_goCrises 104 (bz_iload 1 1) from bz_o_iload_n (k := 1) (i := 1) (by decide +kernel) rfl) ?_
  refine bz_ac (show bz_ok RX11 cX11_goCrises 105 (bz_iald) from bz_o_iald (by decide +kernel)) ?_
  refine bz_ac (show bz_ok RX11 cX11_goCrises 106 (bz_aload 0 1) from bz_o_aload_n (k := 0) (i := 0) (by decide +kernel) rfl) ?_
  refine bz_ac (show bz_ok RX11 cX11_goCrises 107 (bz_getR 10 10) from bz_o_getR (ci := 10) (k := 10) (idx := 25) (C := RX11) (T := TX11) (N := 42) rfl bh_10 rfl rfl (bz_tb 682 (by decide +kernel) (by decide +kernel)) rfl (by decide +kernel)) ?_
  refine bz_ac (show bz_ok RX11 cX11_goCrises 110 (bz_iload 1 1) from bz_o_iload_n (k := 1) (i := 1) (by decide +kernel) rfl) ?_
  refine bz_ac (show bz_ok RX11 cX11_goCrises 111 (bz_iald) from bz_o_iald (by decide +kernel)) ?_
  refine bz_ac (show bz_ok RX11 cX11_goCrises 112 (bz_aload 0 1) from bz_o_aload_n (k := 0) (i := 0) (by decide +kernel) rfl) ?_
  refine bz_ac (show bz_ok RX11 cX11_goCrises 113 (bz_getR 10 11) from bz_o_getR (ci := 10) (k := 11) (idx := 28) (C := RX11) (T := TX11) (N := 42) rfl bh_10 rfl rfl (bz_tb 683 (by decide +kernel) (by decide +kernel)) rfl (by decide +kernel)) ?_
  refine bz_ac (show bz_ok RX11 cX11_goCrises 116 (bz_iload 1 1) from bz_o_iload_n (k := 1) (i := 1) (by decide +kernel) rfl) ?_
  refine bz_ac (show bz_ok RX11 cX11_goCrises 117 (bz_iald) from bz_o_iald (by decide +kernel)) ?_
  refine bz_ac (show bz_ok RX11 cX11_goCrises 118 (bz_aload 0 1) from bz_o_aload_n (k := 0) (i := 0) (by decide +kernel) rfl) ?_
  refine bz_ac (show bz_ok RX11 cX11_goCrises 119 (bz_getR 10 12) from bz_o_getR (ci := 10) (k := 12) (idx := 31) (C := RX11) (T := TX11) (N := 42) rfl bh_10 rfl rfl (bz_tb 684 (by decide +kernel) (by decide +kernel)) rfl (by decide +kernel)) ?_
  refine bz_ac (show bz_ok RX11 cX11_goCrises 122 (bz_iload 1 1) from bz_o_iload_n (k := 1) (i := 1) (by decide +kernel) rfl) ?_
  refine bz_ac (show bz_ok RX11 cX11_goCrises 123 (bz_iald) from bz_o_iald (by decide +kernel)) ?_
  refine bz_ac (show bz_cok bz_P l RX11 cX11_goCrises 6 143 124 mX11_happen 5 11 from bz_cV' (own := RX11) (idx := 232) (ci := 10) (N := 42) (T := TX11) (n := 4) bp_X11_happen bq_X11_happen (by decide +kernel) (bz_tb 892 (by decide +kernel) (by decide +kernel)) (bz_tb 894 (by decide +kernel) (by decide +kernel)) (bz_tb 22 (by decide +kernel) (by decide +kernel)) rfl rfl (by decide) (by decide)) ?_
  refine bz_ac (show bz_ok RX11 cX11_goCrises 127 (bz_aload 0 1) from bz_o_aload_n (k := 0) (i := 0) (by decide +kernel) rfl) ?_
  refine bz_ac (show bz_ok RX11 cX11_goCrises 128 (bz_aload 0 1) from bz_o_aload_n (k := 0) (i := 0) (by decide +kernel) rfl) ?_
  refine bz_ac (show bz_ok RX11 cX11_goCrises 129 (bz_getI 10 2) from bz_o_getI (ci := 10) (k := 2) (idx := 113) (C := RX11) (T := TX11) (N := 42) rfl bh_10 rfl rfl (bz_tb 674 (by decide +kernel) (by decide +kernel)) (Or.inl rfl) (by decide +kernel)) ?_
  refine bz_ac (show bz_ok RX11 cX11_goCrises 132 (bz_iload 3 1) from bz_o_iload_n (k := 3) (i := 3) (by decide +kernel) rfl) ?_
  refine bz_ac (show bz_ok RX11 cX11_goCrises 133 (bz_ic_le 147) from bz_o_ic_le (off := 14) (t := 147) (by decide +kernel) (by decide)) ?_
  refine bz_ac (show bz_ok RX11 cX11_goCrises 136 (bz_aload 0 1) from bz_o_aload_n (k := 0) (i := 0) (by decide +kernel) rfl) ?_
  refine bz_ac (show bz_ok RX11 cX11_goCrises 137 (bz_getI 10 29) from bz_o_getI (ci := 10) (k := 29) (idx := 226) (C := RX11) (T := TX11) (N := 42) rfl bh_10 rfl rfl (bz_tb 701 (by decide +kernel) (by decide +kernel)) (Or.inl rfl) (by decide +kernel)) ?_
  refine bz_ac (show bz_ok RX11 cX11_goCrises 140 (bz_if_ge 147) from bz_o_if_ge (off := 7) (t := 147) (by decide +kernel) (by decide)) ?_
  refine bz_ac (show bz_ok RX11 cX11_goCrises 143 (bz_iload 1 1) from bz_o_iload_n (k := 1) (i := 1) (by decide +kernel) rfl) ?_
  refine bz_ac (show bz_ok RX11 cX11_goCrises 144 (bz_goto 151) from bz_o_goto (off := 7) (t := 151) (by decide +kernel) (by decide)) ?_
  refine bz_ac (show bz_ok RX11 cX11_goCrises 147 (bz_aload 0 1) from bz_o_aload_n (k := 0) (i := 0) (by decide +kernel) rfl) ?_
  refine bz_ac (show bz_ok RX11 cX11_goCrises 148 (bz_getI 10 29) from bz_o_getI (ci := 10) (k := 29) (idx := 226) (C := RX11) (T := TX11) (N := 42) rfl bh_10 rfl rfl (bz_tb 701 (by decide +kernel) (by decide +kernel)) (Or.inl rfl) (by decide +kernel)) ?_
  refine bz_ac (show bz_ok RX11 cX11_goCrises 151 (bz_putI 10 29) from bz_o_putI (ci := 10) (k := 29) (idx := 226) (C := RX11) (T := TX11) (N := 42) rfl bh_10 rfl rfl (bz_tb 701 (by decide +kernel) (by decide +kernel)) tyX11 tyX11_ok nmX11 rfl rfl rfl (by decide +kernel)) ?_
  refine bz_ac (show bz_ok RX11 cX11_goCrises 154 (bz_iinc 1 1) from bz_o_iinc (i := 1) (n := 1) (v := 1) (by decide +kernel) (by decide)) ?_
  refine bz_ac (show bz_ok RX11 cX11_goCrises 157 (bz_goto 30) from bz_o_goto (off := (-127)) (t := 30) (by decide +kernel) (by decide)) ?_
  refine bz_ac (show bz_rok cX11_goCrises none 160 0 from Or.inl ⟨rfl, rfl, by decide +kernel⟩) ?_
  exact bz_an
