set_option maxRecDepth 100000 in
theorem bo_X11_match (l : Launch) : ∀ q ∈ bt_X11_match, bz_rw bz_P l bm_X11_match q := by
  refine bz_ac (show bz_ok RX11 cX11_match 0 (bz_iload 1 1) from bz_o_iload_n (k := 1) (i := 1) (by decide +kernel) rfl) ?_
  refine bz_ac (show bz_ok RX11 cX11_match 1 (bz_i2l) from bz_o_i2l (by decide +kernel)) ?_
  refine bz_ac (show bz_ok RX11 cX11_match 2 (bz_push (.long 1) 1) from bz_o_lconst (n := 1) (v := 1) (by decide +kernel) (by decide)) ?_
  refine bz_ac (show bz_ok RX11 cX11_match 3 (bz_push (.long 8) 3) from bz_o_ldc2 (own := RX11) (i := 96) (v := 8) (by decide +kernel) (bz_tb 918 (by decide +kernel) (by decide +kernel))) ?_
  refine bz_ac (show bz_cok bz_P l RX11 cX11_match 1 30 6 mX11_in 3 0 from bz_cS' (own := RX11) (idx := 75) (n := 3) bp_X11_in bq_X11_in (by decide +kernel) (bz_tb 809 (by decide +kernel) (by decide +kernel)) (bz_tb 810 (by decide +kernel) (by decide +kernel)) rfl (by decide) (by decide)) ?_
  refine bz_ac (show bz_ok RX11 cX11_match 9 (bz_if_eq 73) from bz_o_if_eq (off := 64) (t := 73) (by decide +kernel) (by decide)) ?_
  refine bz_ac (show bz_ok RX11 cX11_match 12 (bz_iload 2 1) from bz_o_iload_n (k := 2) (i := 2) (by decide +kernel) rfl) ?_
  refine bz_ac (show bz_ok RX11 cX11_match 13 (bz_i2l) from bz_o_i2l (by decide +kernel)) ?_
  refine bz_ac (show bz_ok RX11 cX11_match 14 (bz_push (.long 0) 1) from bz_o_lconst (n := 0) (v := 0) (by decide +kernel) (by decide)) ?_
  refine bz_ac (show bz_ok RX11 cX11_match 15 (bz_push (.long 10) 3) from bz_o_ldc2 (own := RX11) (i := 315) (v := 10) (by decide +kernel) (bz_tb 1053 (by decide +kernel) (by decide +kernel))) ?_
  refine bz_ac (show bz_cok bz_P l RX11 cX11_match 1 30 18 mX11_in 3 0 from bz_cS' (own := RX11) (idx := 75) (n := 3) bp_X11_in bq_X11_in (by decide +kernel) (bz_tb 809 (by decide +kernel) (by decide +kernel)) (bz_tb 810 (by decide +kernel) (by decide +kernel)) rfl (by decide) (by decide)) ?_
  refine bz_ac (show bz_ok RX11 cX11_match 21 (bz_if_eq 73) from bz_o_if_eq (off := 52) (t := 73) (by decide +kernel) (by decide)) ?_
  refine bz_ac (show bz_ok RX11 cX11_match 24 (bz_iload 3 1) from bz_o_iload_n (k := 3) (i := 3) (by decide +kernel) rfl) ?_
  refine bz_ac (show bz_ok RX11 cX11_match 25 (bz_i2l) from bz_o_i2l (by decide +kernel)) ?_
  refine bz_ac (show bz_ok RX11 cX11_match 26 (bz_push (.long 0) 1) from bz_o_lconst (n := 0) (v := 0) (by decide +kernel) (by decide)) ?_
  refine bz_ac (show bz_ok RX11 cX11_match 27 (bz_iload 1 1) from bz_o_iload_n (k := 1) (i := 1) (by decide +kernel) rfl) ?_
  refine bz_ac (show bz_ok RX11 cX11_match 28 (bz_push (.int 1) 1) from bz_o_iconst (n := 1) (v := 1) (by decide +kernel) (by decide)) ?_
  refine bz_ac (show bz_ok RX11 cX11_match 29 (bz_isub) from bz_o_isub (by decide +kernel)) ?_
  refine bz_ac (show bz_ok RX11 cX11_match 30 (bz_i2l) from bz_o_i2l (by decide +kernel)) ?_
  refine bz_ac (show bz_cok bz_P l RX11 cX11_match 1 30 31 mX11_in 3 0 from bz_cS' (own := RX11) (idx := 75) (n := 3) bp_X11_in bq_X11_in (by decide +kernel) (bz_tb 809 (by decide +kernel) (by decide +kernel)) (bz_tb 810 (by decide +kernel) (by decide +kernel)) rfl (by decide) (by decide)) ?_
  refine bz_ac (show bz_ok RX11 cX11_match 34 (bz_if_eq 73) from bz_o_if_eq (off := 39) (t := 73) (by decide +kernel) (by decide)) ?_
  refine bz_ac (show bz_ok RX11 cX11_match 37 (bz_iload 4 2) from bz_o_iload (i := 4) (by decide +kernel)) ?_
  refine bz_ac (show bz_ok RX11 cX11_match 39 (bz_i2l) from bz_o_i2l (by decide +kernel)) ?_
  refine bz_ac (show bz_ok RX11 cX11_match 40 (bz_push (.long 0) 1) from bz_o_lconst (n := 0) (v := 0) (by decide +kernel) (by decide)) ?_
  refine bz_ac (show bz_ok RX11 cX11_match 41 (bz_iload 1 1) from bz_o_iload_n (k := 1) (i := 1) (by decide +kernel) rfl) ?_
  refine bz_ac (show bz_ok RX11 cX11_match 42 (bz_push (.int 1) 1) from bz_o_iconst (n := 1) (v := 1) (by decide +kernel) (by decide)) ?_
  refine bz_ac (show bz_ok RX11 cX11_match 43 (bz_isub) from bz_o_isub (by decide +kernel)) ?_
  refine bz_ac (show bz_ok RX11 cX11_match 44 (bz_i2l) from bz_o_i2l (by decide +kernel)) ?_
  refine bz_ac (show bz_cok bz_P l RX11 cX11_match 1 30 45 mX11_in 3 0 from bz_cS' (own := RX11) (idx := 75) (n := 3) bp_X11_in bq_X11_in (by decide +kernel) (bz_tb 809 (by decide +kernel) (by decide +kernel)) (bz_tb 810 (by decide +kernel) (by decide +kernel)) rfl (by decide) (by decide)) ?_
  refine bz_ac (show bz_ok RX11 cX11_match 48 (bz_if_eq 73) from bz_o_if_eq (off := 25) (t := 73) (by decide +kernel) (by decide)) ?_
  refine bz_ac (show bz_ok RX11 cX11_match 51 (bz_iload 5 2) from bz_o_iload (i := 5) (by decide +kernel)) ?_
  refine bz_ac (show bz_ok RX11 cX11_match 53 (bz_i2l) from bz_o_i2l (by decide +kernel)) ?_
  refine bz_ac (show bz_ok RX11 cX11_match 54 (bz_push (.long 0) 1) from bz_o_lconst (n := 0) (v := 0) (by decide +kernel) (by decide)) ?_
  refine bz_ac (show bz_ok RX11 cX11_match 55 (bz_push (.long 1) 1) from bz_o_lconst (n := 1) (v := 1) (by decide +kernel) (by decide)) ?_
  refine bz_ac (show bz_cok bz_P l RX11 cX11_match 1 30 56 mX11_in 3 0 from bz_cS' (own := RX11) (idx := 75) (n := 3) bp_X11_in bq_X11_in (by decide +kernel) (bz_tb 809 (by decide +kernel) (by decide +kernel)) (bz_tb 810 (by decide +kernel) (by decide +kernel)) rfl (by decide) (by decide)) ?_
  refine bz_ac (show bz_ok RX11 cX11_match 59 (bz_if_eq 73) from bz_o_if_eq (off := 14) (t := 73) (by decide +kernel) (by decide)) ?_
  refine bz_ac (show bz_ok RX11 cX11_match 62 (bz_iload 6 2) from bz_o_iload (i := 6) (by decide +kernel)) ?_
  refine bz_ac (show bz_ok RX11 cX11_match 64 (bz_i2l) from bz_o_i2l (by decide +kernel)) ?_
  refine bz_ac (show bz_ok RX11 cX11_match 65 (bz_push (.long 0) 1) from bz_o_lconst (n := 0) (v := 0) (by decide +kernel) (by decide)) ?_
  refine bz_ac (show bz_ok RX11 cX11_match 66 (bz_push (.long 1) 1) from bz_o_lconst (n := 1) (v := 1) (by decide +kernel) (by decide)) ?_
  refine bz_ac (show bz_cok bz_P l RX11 cX11_match 1 30 67 mX11_in 3 0 from bz_cS' (own := RX11) (idx := 75) (n := 3) bp_X11_in bq_X11_in (by decide +kernel) (bz_tb 809 (by decide +kernel) (by decide +kernel)) (bz_tb 810 (by decide +kernel) (by decide +kernel)) rfl (by decide) (by decide)) ?_
  refine bz_ac (show bz_ok RX11 cX11_match 70 (bz_if_ne 77) from bz_o_if_ne (off := 7) (t := 77) (by decide +kernel) (by decide)) ?_
  refine bz_ac (show bz_ok RX11 cX11_match 73 (bz_push (.long (-1000000000000000002)) 3) from bz_o_ldc2 (own := RX11) (i := 317) (v := (-1000000000000000002)) (by decide +kernel) (bz_tb 1054 (by decide +kernel) (by decide +kernel))) ?_
  refine bz_ac (show bz_rok cX11_match (some .long) 76 2 from Or.inr (Or.inr (Or.inl ⟨rfl, rfl, by decide +kernel⟩))) ?_
  refine bz_ac (show bz_ok RX11 cX11_match 77 (bz_aload 0 1) from bz_o_aload_n (k := 0) (i := 0) (by decide +kernel) rfl) ?_
  refine bz_ac (show bz_ok RX11 cX11_match 78 (bz_iload 1 1) from bz_o_iload_n (k := 1) (i := 1) (by decide +kernel) rfl) ?_
  refine bz_ac (show bz_ok RX11 cX11_match 79 (bz_iload 2 1) from bz_o_iload_n (k := 2) (i := 2) (by decide +kernel) rfl) ?_
  refine bz_ac (show bz_ok RX11 cX11_match 80 (bz_iload 3 1) from bz_o_iload_n (k := 3) (i := 3) (by decide +kernel) rfl) ?_
  refine bz_ac (show bz_ok RX11 cX11_match 81 (bz_iload 4 2) from bz_o_iload (i := 4) (by decide +kernel)) ?_
  refine bz_ac (show bz_cok bz_P l RX11 cX11_match 1 30 83 mX11_findChance 5 11 from bz_cV' (own := RX11) (idx := 319) (ci := 10) (N := 42) (T := TX11) (n := 4) bp_X11_findChance bq_X11_findChance (by decide +kernel) (bz_tb 1055 (by decide +kernel) (by decide +kernel)) (bz_tb 1057 (by decide +kernel) (by decide +kernel)) (bz_tb 40 (by decide +kernel) (by decide +kernel)) rfl rfl (by decide) (by decide)) ?_
  refine bz_ac (show bz_ok RX11 cX11_match 86 (bz_iload 1 1) from bz_o_iload_n (k := 1) (i := 1) (by decide +kernel) rfl) ?_
  refine bz_ac (show bz_ok RX11 cX11_match 87 (bz_iload 3 1) from bz_o_iload_n (k := 3) (i := 3) (by decide +kernel) rfl) ?_
  refine bz_ac (show bz_ok RX11 cX11_match 88 (bz_isub) from bz_o_isub (by decide +kernel)) ?_
  refine bz_ac (show bz_ok RX11 cX11_match 89 (bz_iload 1 1) from bz_o_iload_n (k := 1) (i := 1) (by decide +kernel) rfl) ?_
  refine bz_ac (show bz_ok RX11 cX11_match 90 (bz_iadd) from bz_o_iadd (by decide +kernel)) ?_
  refine bz_ac (show bz_ok RX11 cX11_match 91 (bz_iload 4 2) from bz_o_iload (i := 4) (by decide +kernel)) ?_
  refine bz_ac (show bz_ok RX11 cX11_match 93 (bz_isub) from bz_o_isub (by decide +kernel)) ?_
  refine bz_ac (show bz_ok RX11 cX11_match 94 (bz_push (.int 1) 1) from bz_o_iconst (n := 1) (v := 1) (by decide +kernel) (by decide)) ?_
  refine bz_ac (show bz_ok RX11 cX11_match 95 (bz_isub) from bz_o_isub (by decide +kernel)) ?_
  refine bz_ac (show bz_ok RX11 cX11_match 96 (bz_istore 7 2) from bz_o_istore (i := 7) (by decide +kernel)) ?_
  refine bz_ac (show bz_ok RX11 cX11_match 98 (bz_push (.long 0) 1) from bz_o_lconst (n := 0) (v := 0) (by decide +kernel) (by decide)) ?_
  refine bz_ac (show bz_ok RX11 cX11_match 99 (bz_lstore 8 2) from bz_o_lstore (i := 8) (by decide +kernel)) ?_
  refine bz_ac (show bz_ok RX11 cX11_match 101 (bz_push (.long 0) 1) from bz_o_lconst (n := 0) (v := 0) (by decide +kernel) (by decide)) ?_
  refine bz_ac (show bz_ok RX11 cX11_match 102 (bz_lstore 10 2) from bz_o_lstore (i := 10) (by decide +kernel)) ?_
  refine bz_ac (show bz_ok RX11 cX11_match 104 (bz_iload 4 2) from bz_o_iload (i := 4) (by decide +kernel)) ?_
  refine bz_ac (show bz_ok RX11 cX11_match 106 (bz_istore 12 2) from bz_o_istore (i := 12) (by decide +kernel)) ?_
  refine bz_ac (show bz_ok RX11 cX11_match 108 (bz_iload 12 2) from bz_o_iload (i := 12) (by decide +kernel)) ?_
  refine bz_ac (show bz_ok RX11 cX11_match 110 (bz_iload 1 1) from bz_o_iload_n (k := 1) (i := 1) (by decide +kernel) rfl) ?_
  refine bz_ac (show bz_ok RX11 cX11_match 111 (bz_ic_ge 193) from bz_o_ic_ge (off := 82) (t := 193) (by decide +kernel) (by decide)) ?_
  refine bz_ac (show bz_ok RX11 cX11_match 114 (bz_iload 1 1) from bz_o_iload_n (k := 1) (i := 1) (by decide +kernel) rfl) ?_
  refine bz_ac (show bz_ok RX11 cX11_match 115 (bz_iload 3 1) from bz_o_iload_n (k := 3) (i := 3) (by decide +kernel) rfl) ?_
  refine bz_ac (show bz_ok RX11 cX11_match 116 (bz_isub) from bz_o_isub (by decide +kernel)) ?_
  refine bz_ac (show bz_ok RX11 cX11_match 117 (bz_iload 12 2) from bz_o_iload (i := 12) (by decide +kernel)) ?_
  refine bz_ac (show bz_ok RX11 cX11_match 119 (bz_iadd) from bz_o_iadd (by decide +kernel)) ?_
  refine bz_ac (show bz_ok RX11 cX11_match 120 (bz_iload 4 2) from bz_o_iload (i := 4) (by decide +kernel)) ?_
  refine bz_ac (show bz_ok RX11 cX11_match 122 (bz_isub) from bz_o_isub (by decide +kernel)) ?_
  refine bz_ac (show bz_ok RX11 cX11_match 123 (bz_istore 13 2) from bz_o_istore (i := 13) (by decide +kernel)) ?_
  refine bz_ac (show bz_ok RX11 cX11_match 125 (bz_lload 8 2) from bz_o_lload (i := 8) (by decide +kernel)) ?_
  refine bz_ac (show bz_ok RX11 cX11_match 127 (bz_aload 0 1) from bz_o_aload_n (k := 0) (i := 0) (by decide +kernel) rfl) ?_
  refine bz_ac (show bz_ok RX11 cX11_match 128 (bz_getR 10 37) from bz_o_getR (ci := 10) (k := 37) (idx := 59) (C := RX11) (T := TX11) (N := 42) rfl bh_10 rfl rfl (bz_tb 709 (by decide +kernel) (by decide +kernel)) rfl (by decide +kernel)) ?_
  refine bz_ac (show bz_ok RX11 cX11_match 131 (bz_push (.int 9) 2) from bz_o_bipush (n := 9) (v := 9) (by decide +kernel) (by decide)) ?_
  refine bz_ac (show bz_ok RX11 cX11_match 133 (bz_iload 1 1) from bz_o_iload_n (k := 1) (i := 1) (by decide +kernel) rfl) ?_
  refine bz_ac (show bz_ok RX11 cX11_match 134 (bz_imul) from bz_o_imul (by decide +kernel)) ?_
  refine bz_ac (show bz_ok RX11 cX11_match 135 (bz_iload 12 2) from bz_o_iload (i := 12) (by decide +kernel)) ?_
  refine bz_ac (show bz_ok RX11 cX11_match 137 (bz_iadd) from bz_o_iadd (by decide +kernel)) ?_
  refine bz_ac (show bz_ok RX11 cX11_match 138 (bz_lald) from bz_o_lald (by decide +kernel)) ?_
  refine bz_ac (show bz_ok RX11 cX11_match 139 (bz_push (.long 10) 3) from bz_o_ldc2 (own := RX11) (i := 315) (v := 10) (by decide +kernel) (bz_tb 1053 (by decide +kernel) (by decide +kernel))) ?_
  refine bz_ac (show bz_ok RX11 cX11_match 142 (bz_iload 7 2) from bz_o_iload (i := 7) (by decide +kernel)) ?_
  refine bz_ac (show bz_ok RX11 cX11_match 144 (bz_iload 13 2) from bz_o_iload (i := 13) (by decide +kernel)) ?_
  refine bz_ac (show bz_ok RX11 cX11_match 146 (bz_isub) from bz_o_isub (by decide +kernel)) ?_
  refine bz_ac (show bz_cok bz_P l RX11 cX11_match 1 30 147 mX11_power 2 0 from bz_cS' (own := RX11) (idx := 322) (n := 2) bp_X11_power bq_X11_power (by decide +kernel) (bz_tb 1059 (by decide +kernel) (by decide +kernel)) (bz_tb 1060 (by decide +kernel) (by decide +kernel)) rfl (by decide) (by decide)) ?_
  refine bz_ac (show bz_ok RX11 cX11_match 150 (bz_lmul) from bz_o_lmul (by decide +kernel)) ?_
  refine bz_ac (show bz_ok RX11 cX11_match 151 (bz_ladd) from bz_o_ladd (by decide +kernel)) ?_
  refine bz_ac (show bz_ok RX11 cX11_match 152 (bz_lstore 8 2) from bz_o_lstore (i := 8) (by decide +kernel)) ?_
  refine bz_ac (show bz_ok RX11 cX11_match 154 (bz_lload 10 2) from bz_o_lload (i := 10) (by decide +kernel)) ?_
  refine bz_ac (show bz_ok RX11 cX11_match 156 (bz_iload 13 2) from bz_o_iload (i := 13) (by decide +kernel)) ?_
  refine bz_ac (show bz_ok RX11 cX11_match 158 (bz_i2l) from bz_o_i2l (by decide +kernel)) ?_
  refine bz_ac (show bz_ok RX11 cX11_match 159 (bz_aload 0 1) from bz_o_aload_n (k := 0) (i := 0) (by decide +kernel) rfl) ?_
  refine bz_ac (show bz_ok RX11 cX11_match 160 (bz_getR 10 37) from bz_o_getR (ci := 10) (k := 37) (idx := 59) (C := RX11) (T := TX11) (N := 42) rfl bh_10 rfl rfl (bz_tb 709 (by decide +kernel) (by decide +kernel)) rfl (by decide +kernel)) ?_
  refine bz_ac (show bz_ok RX11 cX11_match 163 (bz_push (.int 9) 2) from bz_o_bipush (n := 9) (v := 9) (by decide +kernel) (by decide)) ?_
  refine bz_ac (show bz_ok RX11 cX11_match 165 (bz_iload 1 1) from bz_o_iload_n (k := 1) (i := 1) (by decide +kernel) rfl) ?_
  refine bz_ac (show bz_ok RX11 cX11_match 166 (bz_imul) from bz_o_imul (by decide +kernel)) ?_
  refine bz_ac (show bz_ok RX11 cX11_match 167 (bz_iload 12 2) from bz_o_iload (i := 12) (by decide +kernel)) ?_
  refine bz_ac (show bz_ok RX11 cX11_match 169 (bz_iadd) from bz_o_iadd (by decide +kernel)) ?_
  refine bz_ac (show bz_ok RX11 cX11_match 170 (bz_lald) from bz_o_lald (by decide +kernel)) ?_
  refine bz_ac (show bz_ok RX11 cX11_match 171 (bz_lmul) from bz_o_lmul (by decide +kernel)) ?_
  refine bz_ac (show bz_ok RX11 cX11_match 172 (bz_push (.long 10) 3) from bz_o_ldc2 (own := RX11) (i := 315) (v := 10) (by decide +kernel) (bz_tb 1053 (by decide +kernel) (by decide +kernel))) ?_
  refine bz_ac (show bz_ok RX11 cX11_match 175 (bz_iload 7 2) from bz_o_iload (i := 7) (by decide +kernel)) ?_
  refine bz_ac (show bz_ok RX11 cX11_match 177 (bz_iload 13 2) from bz_o_iload (i := 13) (by decide +kernel)) ?_
  refine bz_ac (show bz_ok RX11 cX11_match 179 (bz_isub) from bz_o_isub (by decide +kernel)) ?_
  refine bz_ac (show bz_cok bz_P l RX11 cX11_match 1 30 180 mX11_power 2 0 from bz_cS' (own := RX11) (idx := 322) (n := 2) bp_X11_power bq_X11_power (by decide +kernel) (bz_tb 1059 (by decide +kernel) (by decide +kernel)) (bz_tb 1060 (by decide +kernel) (by decide +kernel)) rfl (by decide) (by decide)) ?_
  refine bz_ac (show bz_ok RX11 cX11_match 183 (bz_lmul) from bz_o_lmul (by decide +kernel)) ?_
  refine bz_ac (show bz_ok RX11 cX11_match 184 (bz_ladd) from bz_o_ladd (by decide +kernel)) ?_
  refine bz_ac (show bz_ok RX11 cX11_match 185 (bz_lstore 10 2) from bz_o_lstore (i := 10) (by decide +kernel)) ?_
  refine bz_ac (show bz_ok RX11 cX11_match 187 (bz_iinc 12 1) from bz_o_iinc (i := 12) (n := 1) (v := 1) (by decide +kernel) (by decide)) ?_
  refine bz_ac (show bz_ok RX11 cX11_match 190 (bz_goto 108) from bz_o_goto (off := (-82)) (t := 108) (by decide +kernel) (by decide)) ?_
  refine bz_ac (show bz_ok RX11 cX11_match 193 (bz_iload 3 1) from bz_o_iload_n (k := 3) (i := 3) (by decide +kernel) rfl) ?_
  refine bz_ac (show bz_ok RX11 cX11_match 194 (bz_istore 12 2) from bz_o_istore (i := 12) (by decide +kernel)) ?_
  refine bz_ac (show bz_ok RX11 cX11_match 196 (bz_iload 12 2) from bz_o_iload (i := 12) (by decide +kernel)) ?_
  refine bz_ac (show bz_ok RX11 cX11_match 198 (bz_iload 1 1) from bz_o_iload_n (k := 1) (i := 1) (by decide +kernel) rfl) ?_
  refine bz_ac (show bz_ok RX11 cX11_match 199 (bz_ic_ge 252) from bz_o_ic_ge (off := 53) (t := 252) (by decide +kernel) (by decide)) ?_
  refine bz_ac (show bz_ok RX11 cX11_match 202 (bz_iload 12 2) from bz_o_iload (i := 12) (by decide +kernel)) ?_
  refine bz_ac (show bz_ok RX11 cX11_match 204 (bz_iload 3 1) from bz_o_iload_n (k := 3) (i := 3) (by decide +kernel) rfl) ?_
  refine bz_ac (show bz_ok RX11 cX11_match 205 (bz_isub) from bz_o_isub (by decide +kernel)) ?_
  refine bz_ac (show bz_ok RX11 cX11_match 206 (bz_iload 1 1) from bz_o_iload_n (k := 1) (i := 1) (by decide +kernel) rfl) ?_
  refine bz_ac (show bz_ok RX11 cX11_match 207 (bz_iadd) from bz_o_iadd (by decide +kernel)) ?_
  refine bz_ac (show bz_ok RX11 cX11_match 208 (bz_iload 4 2) from bz_o_iload (i := 4) (by decide +kernel)) ?_
  refine bz_ac (show bz_ok RX11 cX11_match 210 (bz_isub) from bz_o_isub (by decide +kernel)) ?_
  refine bz_ac (show bz_ok RX11 cX11_match 211 (bz_istore 13 2) from bz_o_istore (i := 13) (by decide +kernel)) ?_
  refine bz_ac (show bz_ok RX11 cX11_match 213 (bz_lload 10 2) from bz_o_lload (i := 10) (by decide +kernel)) ?_
  refine bz_ac (show bz_ok RX11 cX11_match 215 (bz_iload 13 2) from bz_o_iload (i := 13) (by decide +kernel)) ?_
  refine bz_ac (show bz_ok RX11 cX11_match 217 (bz_i2l) from bz_o_i2l (by decide +kernel)) ?_
  refine bz_ac (show bz_ok RX11 cX11_match 218 (bz_aload 0 1) from bz_o_aload_n (k := 0) (i := 0) (by decide +kernel) rfl) ?_
  refine bz_ac (show bz_ok RX11 cX11_match 219 (bz_getR 10 37) from bz_o_getR (ci := 10) (k := 37) (idx := 59) (C := RX11) (T := TX11) (N := 42) rfl bh_10 rfl rfl (bz_tb 709 (by decide +kernel) (by decide +kernel)) rfl (by decide +kernel)) ?_
  refine bz_ac (show bz_ok RX11 cX11_match 222 (bz_push (.int 9) 2) from bz_o_bipush (n := 9) (v := 9) (by decide +kernel) (by decide)) ?_
  refine bz_ac (show bz_ok RX11 cX11_match 224 (bz_iload 12 2) from bz_o_iload (i := 12) (by decide +kernel)) ?_
  refine bz_ac (show bz_ok RX11 cX11_match 226 (bz_imul) from bz_o_imul (by decide +kernel)) ?_
  refine bz_ac (show bz_ok RX11 cX11_match 227 (bz_iload 1 1) from bz_o_iload_n (k := 1) (i := 1) (by decide +kernel) rfl) ?_
  refine bz_ac (show bz_ok RX11 cX11_match 228 (bz_iadd) from bz_o_iadd (by decide +kernel)) ?_
  refine bz_ac (show bz_ok RX11 cX11_match 229 (bz_lald) from bz_o_lald (by decide +kernel)) ?_
  refine bz_ac (show bz_ok RX11 cX11_match 230 (bz_lmul) from bz_o_lmul (by decide +kernel)) ?_
  refine bz_ac (show bz_ok RX11 cX11_match 231 (bz_push (.long 10) 3) from bz_o_ldc2 (own := RX11) (i := 315) (v := 10) (by decide +kernel) (bz_tb 1053 (by decide +kernel) (by decide +kernel))) ?_
  refine bz_ac (show bz_ok RX11 cX11_match 234 (bz_iload 7 2) from bz_o_iload (i := 7) (by decide +kernel)) ?_
  refine bz_ac (show bz_ok RX11 cX11_match 236 (bz_iload 13 2) from bz_o_iload (i := 13) (by decide +kernel)) ?_
  refine bz_ac (show bz_ok RX11 cX11_match 238 (bz_isub) from bz_o_isub (by decide +kernel)) ?_
  refine bz_ac (show bz_cok bz_P l RX11 cX11_match 1 30 239 mX11_power 2 0 from bz_cS' (own := RX11) (idx := 322) (n := 2) bp_X11_power bq_X11_power (by decide +kernel) (bz_tb 1059 (by decide +kernel) (by decide +kernel)) (bz_tb 1060 (by decide +kernel) (by decide +kernel)) rfl (by decide) (by decide)) ?_
  refine bz_ac (show bz_ok RX11 cX11_match 242 (bz_lmul) from bz_o_lmul (by decide +kernel)) ?_
  refine bz_ac (show bz_ok RX11 cX11_match 243 (bz_ladd) from bz_o_ladd (by decide +kernel)) ?_
  refine bz_ac (show bz_ok RX11 cX11_match 244 (bz_lstore 10 2) from bz_o_lstore (i := 10) (by decide +kernel)) ?_
  refine bz_ac (show bz_ok RX11 cX11_match 246 (bz_iinc 12 1) from bz_o_iinc (i := 12) (n := 1) (v := 1) (by decide +kernel) (by decide)) ?_
  refine bz_ac (show bz_ok RX11 cX11_match 249 (bz_goto 196) from bz_o_goto (off := (-53)) (t := 196) (by decide +kernel) (by decide)) ?_
  refine bz_ac (show bz_ok RX11 cX11_match 252 (bz_iload 5 2) from bz_o_iload (i := 5) (by decide +kernel)) ?_
  refine bz_ac (show bz_ok RX11 cX11_match 254 (bz_if_ne 262) from bz_o_if_ne (off := 8) (t := 262) (by decide +kernel) (by decide)) ?_
  refine bz_ac (show bz_ok RX11 cX11_match 257 (bz_lload 8 2) from bz_o_lload (i := 8) (by decide +kernel)) ?_
  refine bz_ac (show bz_ok RX11 cX11_match 259 (bz_goto 264) from bz_o_goto (off := 5) (t := 264) (by decide +kernel) (by decide)) ?_
  refine bz_ac (show bz_ok RX11 cX11_match 262 (bz_lload 10 2) from bz_o_lload (i := 10) (by decide +kernel)) ?_
  refine bz_ac (show bz_ok RX11 cX11_match 264 (bz_push (.long 10) 3) from bz_o_ldc2 (own := RX11) (i := 315) (v := 10) (by decide +kernel) (bz_tb 1053 (by decide +kernel) (by decide +kernel))) ?_
  refine bz_ac (show bz_ok RX11 cX11_match 267 (bz_iload 7 2) from bz_o_iload (i := 7) (by decide +kernel)) ?_
  refine bz_ac (show bz_cok bz_P l RX11 cX11_match 1 30 269 mX11_power 2 0 from bz_cS' (own := RX11) (idx := 322) (n := 2) bp_X11_power bq_X11_power (by decide +kernel) (bz_tb 1059 (by decide +kernel) (by decide +kernel)) (bz_tb 1060 (by decide +kernel) (by decide +kernel)) rfl (by decide) (by decide)) ?_
  refine bz_ac (show bz_ok RX11 cX11_match 272 (bz_iload 6 2) from bz_o_iload (i := 6) (by decide +kernel)) ?_
  refine bz_ac (show bz_cok bz_P l RX11 cX11_match 1 30 274 mX11_lowest 3 0 from bz_cS' (own := RX11) (idx := 326) (n := 3) bp_X11_lowest bq_X11_lowest (by decide +kernel) (bz_tb 1062 (by decide +kernel) (by decide +kernel)) (bz_tb 1063 (by decide +kernel) (by decide +kernel)) rfl (by decide) (by decide)) ?_
  refine bz_ac (show bz_rok cX11_match (some .long) 277 2 from Or.inr (Or.inr (Or.inl ⟨rfl, rfl, by decide +kernel⟩))) ?_
  exact bz_an
set_option maxRecDepth 100000 in
theorem bo_X11_actBy (l : Launch) : ∀ q ∈ bt_X11_actBy, bz_rw bz_P l bm_X11_actBy q := by
  refine bz_ac (show bz_ok RX11 cX11_actBy 0 (bz_iload 0 1) from bz_o_iload_n (k := 0) (i := 0) (by decide +kernel) rfl) ?_
  refine bz_ac (show bz_ok RX11 cX11_actBy 1 (bz_push (.int 5) 1) from bz_o_iconst (n := 5) (v := 5) (by decide +kernel) (by decide)) ?_
  refine bz_ac (show bz_ok RX11 cX11_actBy 2 (bz_ic_ge 9) from bz_o_ic_ge (off := 7) (t := 9) (by decide +kernel) (by decide)) ?_
  refine bz_ac (show bz_ok RX11 cX11_actBy 5 (bz_push (.int 0) 1) from bz_o_iconst (n := 0) (v := 0) (by decide +kernel) (by decide)) ?_
  refine bz_ac (show bz_ok RX11 cX11_actBy 6 (bz_goto 29) from bz_o_goto (off := 23) (t := 29) (by decide +kernel) (by decide)) ?_
  refine bz_ac (show bz_ok RX11 cX11_actBy 9 (bz_iload 0 1) from bz_o_iload_n (k := 0) (i := 0) (by decide +kernel) rfl) ?_
  refine bz_ac (show bz_ok RX11 cX11_actBy 10 (bz_push (.int 5) 1) from bz_o_iconst (n := 5) (v := 5) (by decide +kernel) (by decide)) ?_
  refine bz_ac (show bz_ok RX11 cX11_actBy 11 (bz_ic_ne 18) from bz_o_ic_ne (off := 7) (t := 18) (by decide +kernel) (by decide)) ?_
  refine bz_ac (show bz_ok RX11 cX11_actBy 14 (bz_push (.int 1) 1) from bz_o_iconst (n := 1) (v := 1) (by decide +kernel) (by decide)) ?_
  refine bz_ac (show bz_ok RX11 cX11_actBy 15 (bz_goto 29) from bz_o_goto (off := 14) (t := 29) (by decide +kernel) (by decide)) ?_
  refine bz_ac (show bz_ok RX11 cX11_actBy 18 (bz_iload 0 1) from bz_o_iload_n (k := 0) (i := 0) (by decide +kernel) rfl) ?_
  refine bz_ac (show bz_ok RX11 cX11_actBy 19 (bz_push (.int 6) 2) from bz_o_bipush (n := 6) (v := 6) (by decide +kernel) (by decide)) ?_
  refine bz_ac (show bz_ok RX11 cX11_actBy 21 (bz_ic_ne 28) from bz_o_ic_ne (off := 7) (t := 28) (by decide +kernel) (by decide)) ?_
  refine bz_ac (show bz_ok RX11 cX11_actBy 24 (bz_push (.int 2) 1) from bz_o_iconst (n := 2) (v := 2) (by decide +kernel) (by decide)) ?_
  refine bz_ac (show bz_ok RX11 cX11_actBy 25 (bz_goto 29) from bz_o_goto (off := 4) (t := 29) (by decide +kernel) (by decide)) ?_
  refine bz_ac (show bz_ok RX11 cX11_actBy 28 (bz_push (.int 3) 1) from bz_o_iconst (n := 3) (v := 3) (by decide +kernel) (by decide)) ?_
  refine bz_ac (show bz_rok cX11_actBy (some .int) 29 1 from Or.inr (Or.inl ⟨rfl, rfl, by decide +kernel⟩)) ?_
  exact bz_an
set_option maxRecDepth 100000 in
theorem bo_X11_season (l : Launch) : ∀ q ∈ bt_X11_season, bz_rw bz_P l bm_X11_season q := by
  refine bz_ac (show bz_ok RX11 cX11_season 0 (bz_iload 1 1) from bz_o_iload_n (k := 1) (i := 1) (by decide +kernel) rfl) ?_
  refine bz_ac (show bz_ok RX11 cX11_season 1 (bz_i2l) from bz_o_i2l (by decide +kernel)) ?_
  refine bz_ac (show bz_ok RX11 cX11_season 2 (bz_push (.long 0) 1) from bz_o_lconst (n := 0) (v := 0) (by decide +kernel) (by decide)) ?_
  refine bz_ac (show bz_ok RX11 cX11_season 3 (bz_push (.long 9999) 3) from bz_o_ldc2 (own := RX11) (i := 330) (v := 9999) (by decide +kernel) (bz_tb 1069 (by decide +kernel) (by decide +kernel))) ?_
  refine bz_ac (show bz_cok bz_P l RX11 cX11_season 6 143 6 mX11_in 3 0 from bz_cS' (own := RX11) (idx := 75) (n := 3) bp_X11_in bq_X11_in (by decide +kernel) (bz_tb 809 (by decide +kernel) (by decide +kernel)) (bz_tb 810 (by decide +kernel) (by decide +kernel)) rfl (by decide) (by decide)) ?_
  refine bz_ac (show bz_ok RX11 cX11_season 9 (bz_if_eq 36) from bz_o_if_eq (off := 27) (t := 36) (by decide +kernel) (by decide)) ?_
  refine bz_ac (show bz_ok RX11 cX11_season 12 (bz_iload 2 1) from bz_o_iload_n (k := 2) (i := 2) (by decide +kernel) rfl) ?_
  refine bz_ac (show bz_ok RX11 cX11_season 13 (bz_i2l) from bz_o_i2l (by decide +kernel)) ?_
  refine bz_ac (show bz_ok RX11 cX11_season 14 (bz_push (.long 1) 1) from bz_o_lconst (n := 1) (v := 1) (by decide +kernel) (by decide)) ?_
  refine bz_ac (show bz_ok RX11 cX11_season 15 (bz_push (.long 99) 3) from bz_o_ldc2 (own := RX11) (i := 107) (v := 99) (by decide +kernel) (bz_tb 830 (by decide +kernel) (by decide +kernel))) ?_
  refine bz_ac (show bz_cok bz_P l RX11 cX11_season 6 143 18 mX11_in 3 0 from bz_cS' (own := RX11) (idx := 75) (n := 3) bp_X11_in bq_X11_in (by decide +kernel) (bz_tb 809 (by decide +kernel) (by decide +kernel)) (bz_tb 810 (by decide +kernel) (by decide +kernel)) rfl (by decide) (by decide)) ?_
  refine bz_ac (show bz_ok RX11 cX11_season 21 (bz_if_eq 36) from bz_o_if_eq (off := 15) (t := 36) (by decide +kernel) (by decide)) ?_
  refine bz_ac (show bz_ok RX11 cX11_season 24 (bz_iload 3 1) from bz_o_iload_n (k := 3) (i := 3) (by decide +kernel) rfl) ?_
  refine bz_ac (show bz_ok RX11 cX11_season 25 (bz_i2l) from bz_o_i2l (by decide +kernel)) ?_
  refine bz_ac (show bz_ok RX11 cX11_season 26 (bz_push (.long 0) 1) from bz_o_lconst (n := 0) (v := 0) (by decide +kernel) (by decide)) ?_
  refine bz_ac (show bz_ok RX11 cX11_season 27 (bz_push (.long 2) 3) from bz_o_ldc2 (own := RX11) (i := 73) (v := 2) (by decide +kernel) (bz_tb 808 (by decide +kernel) (by decide +kernel))) ?_
  refine bz_ac (show bz_cok bz_P l RX11 cX11_season 6 143 30 mX11_in 3 0 from bz_cS' (own := RX11) (idx := 75) (n := 3) bp_X11_in bq_X11_in (by decide +kernel) (bz_tb 809 (by decide +kernel) (by decide +kernel)) (bz_tb 810 (by decide +kernel) (by decide +kernel)) rfl (by decide) (by decide)) ?_
  refine bz_ac (show bz_ok RX11 cX11_season 33 (bz_if_ne 39) from bz_o_if_ne (off := 6) (t := 39) (by decide +kernel) (by decide)) ?_
  refine bz_ac (show bz_ok RX11 cX11_season 36 (bz_push (.int (-2)) 2) from bz_o_bipush (n := (-2)) (v := (-2)) (by decide +kernel) (by decide)) ?_
  refine bz_ac (show bz_rok cX11_season (some .int) 38 1 from Or.inr (Or.inl ⟨rfl, rfl, by decide +kernel⟩)) ?_
  refine bz_ac (show bz_ok RX11 cX11_season 39 (bz_aload 0 1) from bz_o_aload_n (k := 0) (i := 0) (by decide +kernel) rfl) ?_
  refine bz_ac (show bz_cok bz_P l RX11 cX11_season 6 143 40 mX11_keepNow 1 11 from bz_cV' (own := RX11) (idx := 236) (ci := 10) (N := 42) (T := TX11) (n := 0) bp_X11_keepNow bq_X11_keepNow (by decide +kernel) (bz_tb 879 (by decide +kernel) (by decide +kernel)) (bz_tb 881 (by decide +kernel) (by decide +kernel)) (bz_tb 19 (by decide +kernel) (by decide +kernel)) rfl rfl (by decide) (by decide)) ?_
  refine bz_ac (show bz_ok RX11 cX11_season 43 (bz_iload 1 1) from bz_o_iload_n (k := 1) (i := 1) (by decide +kernel) rfl) ?_
  refine bz_ac (show bz_ok RX11 cX11_season 44 (bz_istore 4 2) from bz_o_istore (i := 4) (by decide +kernel)) ?_
  refine bz_ac (show bz_ok RX11 cX11_season 46 (bz_push (.int 0) 1) from bz_o_iconst (n := 0) (v := 0) (by decide +kernel) (by decide)) ?_
  refine bz_ac (show bz_ok RX11 cX11_season 47 (bz_istore 5 2) from bz_o_istore (i := 5) (by decide +kernel)) ?_
  refine bz_ac (show bz_ok RX11 cX11_season 49 (bz_iload 5 2) from bz_o_iload (i := 5) (by decide +kernel)) ?_
  refine bz_ac (show bz_ok RX11 cX11_season 51 (bz_iload 2 1) from bz_o_iload_n (k := 2) (i := 2) (by decide +kernel) rfl) ?_
  refine bz_ac (show bz_ok RX11 cX11_season 52 (bz_ic_ge 136) from bz_o_ic_ge (off := 84) (t := 136) (by decide +kernel) (by decide)) ?_
  refine bz_ac (show bz_ok RX11 cX11_season 55 (bz_push (.long 75) 3) from bz_o_ldc2 (own := RX11) (i := 332) (v := 75) (by decide +kernel) (bz_tb 1070 (by decide +kernel) (by decide +kernel))) ?_
  refine bz_ac (show bz_ok RX11 cX11_season 58 (bz_iload 4 2) from bz_o_iload (i := 4) (by decide +kernel)) ?_
  refine bz_ac (show bz_ok RX11 cX11_season 60 (bz_i2l) from bz_o_i2l (by decide +kernel)) ?_
  refine bz_ac (show bz_ok RX11 cX11_season 61 (bz_lmul) from bz_o_lmul (by decide +kernel)) ?_
  refine bz_ac (show bz_ok RX11 cX11_season 62 (bz_push (.long 74) 3) from bz_o_ldc2 (own := RX11) (i := 334) (v := 74) (by decide +kernel) (bz_tb 1071 (by decide +kernel) (by decide +kernel))) ?_
  refine bz_ac (show bz_ok RX11 cX11_season 65 (bz_ladd) from bz_o_ladd (by decide +kernel)) ?_
  refine bz_ac (show bz_ok RX11 cX11_season 66 (bz_push (.long 65537) 3) from bz_o_ldc2 (own := RX11) (i := 336) (v := 65537) (by decide +kernel) (bz_tb 1072 (by decide +kernel) (by decide +kernel))) ?_
  refine bz_ac (show bz_ok RX11 cX11_season 69 (bz_lrem) from bz_o_lrem (by decide +kernel)) ?_
  refine bz_ac (show bz_ok RX11 cX11_season 70 (bz_l2i) from bz_o_l2i (by decide +kernel)) ?_
  refine bz_ac (show bz_ok RX11 cX11_season 71 (bz_istore 4 2) from bz_o_istore (i := 4) (by decide +kernel)) ?_
  refine bz_ac (show bz_ok RX11 cX11_season 73 (bz_iload 4 2) from bz_o_iload (i := 4) (by decide +kernel)) ?_
  refine bz_ac (show bz_ok RX11 cX11_season 75 (bz_push (.int 3) 1) from bz_o_iconst (n := 3) (v := 3) (by decide +kernel) (by decide)) ?_
  refine bz_ac (show bz_ok RX11 cX11_season 76 (bz_idiv) from bz_o_idiv (by decide +kernel)) ?_
  refine bz_ac (show bz_ok RX11 cX11_season 77 (bz_push (.int 8) 2) from bz_o_bipush (n := 8) (v := 8) (by decide +kernel) (by decide)) ?_
  refine bz_ac (show bz_ok RX11 cX11_season 79 (bz_irem) from bz_o_irem (by decide +kernel)) ?_
  refine bz_ac (show bz_cok bz_P l RX11 cX11_season 6 143 80 mX11_actBy 1 0 from bz_cS' (own := RX11) (idx := 338) (n := 1) bp_X11_actBy bq_X11_actBy (by decide +kernel) (bz_tb 1073 (by decide +kernel) (by decide +kernel)) (bz_tb 1074 (by decide +kernel) (by decide +kernel)) rfl (by decide) (by decide)) ?_
  refine bz_ac (show bz_ok RX11 cX11_season 83 (bz_istore 6 2) from bz_o_istore (i := 6) (by decide +kernel)) ?_
  refine bz_ac (show bz_ok RX11 cX11_season 85 (bz_iload 4 2) from bz_o_iload (i := 4) (by decide +kernel)) ?_
  refine bz_ac (show bz_ok RX11 cX11_season 87 (bz_push (.int 24) 2) from bz_o_bipush (n := 24) (v := 24) (by decide +kernel) (by decide)) ?_
  refine bz_ac (show bz_ok RX11 cX11_season 89 (bz_idiv) from bz_o_idiv (by decide +kernel)) ?_
  refine bz_ac (show bz_ok RX11 cX11_season 90 (bz_istore 7 2) from bz_o_istore (i := 7) (by decide +kernel)) ?_
  refine bz_ac (show bz_ok RX11 cX11_season 92 (bz_aload 0 1) from bz_o_aload_n (k := 0) (i := 0) (by decide +kernel) rfl) ?_
  refine bz_ac (show bz_ok RX11 cX11_season 93 (bz_iload 6 2) from bz_o_iload (i := 6) (by decide +kernel)) ?_
  refine bz_ac (show bz_ok RX11 cX11_season 95 (bz_iload 4 2) from bz_o_iload (i := 4) (by decide +kernel)) ?_
  refine bz_ac (show bz_ok RX11 cX11_season 97 (bz_push (.int 3) 1) from bz_o_iconst (n := 3) (v := 3) (by decide +kernel) (by decide)) ?_
  refine bz_ac (show bz_ok RX11 cX11_season 98 (bz_irem) from bz_o_irem (by decide +kernel)) ?_
  refine bz_ac (show bz_cok bz_P l RX11 cX11_season 6 143 99 mX11_whyNot 3 11 from bz_cV' (own := RX11) (idx := 229) (ci := 10) (N := 42) (T := TX11) (n := 2) bp_X11_whyNot bq_X11_whyNot (by decide +kernel) (bz_tb 888 (by decide +kernel) (by decide +kernel)) (bz_tb 890 (by decide +kernel) (by decide +kernel)) (bz_tb 21 (by decide +kernel) (by decide +kernel)) rfl rfl (by decide) (by decide)) ?_
  refine bz_ac (show bz_ok RX11 cX11_season 102 (bz_if_ne 130) from bz_o_if_ne (off := 28) (t := 130) (by decide +kernel) (by decide)) ?_
  refine bz_ac (show bz_ok RX11 cX11_season 105 (bz_aload 0 1) from bz_o_aload_n (k := 0) (i := 0) (by decide +kernel) rfl) ?_
  refine bz_ac (show bz_ok RX11 cX11_season 106 (bz_iload 6 2) from bz_o_iload (i := 6) (by decide +kernel)) ?_
  refine bz_ac (show bz_ok RX11 cX11_season 108 (bz_iload 4 2) from bz_o_iload (i := 4) (by decide +kernel)) ?_
  refine bz_ac (show bz_ok RX11 cX11_season 110 (bz_push (.int 3) 1) from bz_o_iconst (n := 3) (v := 3) (by decide +kernel) (by decide)) ?_
  refine bz_ac (show bz_ok RX11 cX11_season 111 (bz_irem) from bz_o_irem (by decide +kernel)) ?_
  refine bz_ac (show bz_ok RX11 cX11_season 112 (bz_iload 7 2) from bz_o_iload (i := 7) (by decide +kernel)) ?_
  refine bz_ac (show bz_ok RX11 cX11_season 114 (bz_push (.int 8) 2) from bz_o_bipush (n := 8) (v := 8) (by decide +kernel) (by decide)) ?_
  refine bz_ac (show bz_ok RX11 cX11_season 116 (bz_irem) from bz_o_irem (by decide +kernel)) ?_
  refine bz_ac (show bz_ok RX11 cX11_season 117 (bz_push (.int 1) 1) from bz_o_iconst (n := 1) (v := 1) (by decide +kernel) (by decide)) ?_
  refine bz_ac (show bz_ok RX11 cX11_season 118 (bz_iload 7 2) from bz_o_iload (i := 7) (by decide +kernel)) ?_
  refine bz_ac (show bz_ok RX11 cX11_season 120 (bz_push (.int 8) 2) from bz_o_bipush (n := 8) (v := 8) (by decide +kernel) (by decide)) ?_
  refine bz_ac (show bz_ok RX11 cX11_season 122 (bz_idiv) from bz_o_idiv (by decide +kernel)) ?_
  refine bz_ac (show bz_ok RX11 cX11_season 123 (bz_push (.int 9) 2) from bz_o_bipush (n := 9) (v := 9) (by decide +kernel) (by decide)) ?_
  refine bz_ac (show bz_ok RX11 cX11_season 125 (bz_irem) from bz_o_irem (by decide +kernel)) ?_
  refine bz_ac (show bz_ok RX11 cX11_season 126 (bz_iadd) from bz_o_iadd (by decide +kernel)) ?_
  refine bz_ac (show bz_cok bz_P l RX11 cX11_season 6 143 127 mX11_happen 5 11 from bz_cV' (own := RX11) (idx := 232) (ci := 10) (N := 42) (T := TX11) (n := 4) bp_X11_happen bq_X11_happen (by decide +kernel) (bz_tb 892 (by decide +kernel) (by decide +kernel)) (bz_tb 894 (by decide +kernel) (by decide +kernel)) (bz_tb 22 (by decide +kernel) (by decide +kernel)) rfl rfl (by decide) (by decide)) ?_
  refine bz_ac (show bz_ok RX11 cX11_season 130 (bz_iinc 5 1) from bz_o_iinc (i := 5) (n := 1) (v := 1) (by decide +kernel) (by decide)) ?_
  refine bz_ac (show bz_ok RX11 cX11_season 133 (bz_goto 49) from bz_o_goto (off := (-84)) (t := 49) (by decide +kernel) (by decide)) ?_
  refine bz_ac (show bz_ok RX11 cX11_season 136 (bz_aload 0 1) from bz_o_aload_n (k := 0) (i := 0) (by decide +kernel) rfl) ?_
  refine bz_ac (show bz_ok RX11 cX11_season 137 (bz_iload 3 1) from bz_o_iload_n (k := 3) (i := 3) (by decide +kernel) rfl) ?_
  refine bz_ac (show bz_ok RX11 cX11_season 138 (bz_if_ne 148) from bz_o_if_ne (off := 10) (t := 148) (by decide +kernel) (by decide)) ?_
  refine bz_ac (show bz_ok RX11 cX11_season 141 (bz_aload 0 1) from bz_o_aload_n (k := 0) (i := 0) (by decide +kernel) rfl) ?_
  refine bz_ac (show bz_ok RX11 cX11_season 142 (bz_getI 10 1) from bz_o_getI (ci := 10) (k := 1) (idx := 109) (C := RX11) (T := TX11) (N := 42) rfl bh_10 rfl rfl (bz_tb 673 (by decide +kernel) (by decide +kernel)) (Or.inl rfl) (by decide +kernel)) ?_
  refine bz_ac (show bz_ok RX11 cX11_season 145 (bz_goto 164) from bz_o_goto (off := 19) (t := 164) (by decide +kernel) (by decide)) ?_
  refine bz_ac (show bz_ok RX11 cX11_season 148 (bz_iload 3 1) from bz_o_iload_n (k := 3) (i := 3) (by decide +kernel) rfl) ?_
  refine bz_ac (show bz_ok RX11 cX11_season 149 (bz_push (.int 1) 1) from bz_o_iconst (n := 1) (v := 1) (by decide +kernel) (by decide)) ?_
  refine bz_ac (show bz_ok RX11 cX11_season 150 (bz_ic_ne 160) from bz_o_ic_ne (off := 10) (t := 160) (by decide +kernel) (by decide)) ?_
  refine bz_ac (show bz_ok RX11 cX11_season 153 (bz_aload 0 1) from bz_o_aload_n (k := 0) (i := 0) (by decide +kernel) rfl) ?_
  refine bz_ac (show bz_ok RX11 cX11_season 154 (bz_getI 10 2) from bz_o_getI (ci := 10) (k := 2) (idx := 113) (C := RX11) (T := TX11) (N := 42) rfl bh_10 rfl rfl (bz_tb 674 (by decide +kernel) (by decide +kernel)) (Or.inl rfl) (by decide +kernel)) ?_
  refine bz_ac (show bz_ok RX11 cX11_season 157 (bz_goto 164) from bz_o_goto (off := 7) (t := 164) (by decide +kernel) (by decide)) ?_
  refine bz_ac (show bz_ok RX11 cX11_season 160 (bz_aload 0 1) from bz_o_aload_n (k := 0) (i := 0) (by decide +kernel) rfl) ?_
  refine bz_ac (show bz_cok bz_P l RX11 cX11_season 6 143 161 mX11_downMany 1 11 from bz_cV' (own := RX11) (idx := 254) (ci := 10) (N := 42) (T := TX11) (n := 0) bp_X11_downMany bq_X11_downMany (by decide +kernel) (bz_tb 950 (by decide +kernel) (by decide +kernel)) (bz_tb 952 (by decide +kernel) (by decide +kernel)) (bz_tb 30 (by decide +kernel) (by decide +kernel)) rfl rfl (by decide) (by decide)) ?_
  refine bz_ac (show bz_cok bz_P l RX11 cX11_season 6 143 164 mX11_back 2 11 from bz_cV' (own := RX11) (idx := 249) (ci := 10) (N := 42) (T := TX11) (n := 1) bp_X11_back bq_X11_back (by decide +kernel) (bz_tb 937 (by decide +kernel) (by decide +kernel)) (bz_tb 939 (by decide +kernel) (by decide +kernel)) (bz_tb 29 (by decide +kernel) (by decide +kernel)) rfl rfl (by decide) (by decide)) ?_
  refine bz_ac (show bz_rok cX11_season (some .int) 167 1 from Or.inr (Or.inl ⟨rfl, rfl, by decide +kernel⟩)) ?_
  exact bz_an
set_option maxRecDepth 100000 in
theorem bo_X11_pass (l : Launch) : ∀ q ∈ bt_X11_pass, bz_rw bz_P l bm_X11_pass q := by
  refine bz_ac (show bz_ok RX11 cX11_pass 0 (bz_aload 0 1) from bz_o_aload_n (k := 0) (i := 0) (by decide +kernel) rfl) ?_
  refine bz_ac (show bz_ok RX11 cX11_pass 1 (bz_getI 10 41) from bz_o_getI (ci := 10) (k := 41) (idx := 341) (C := RX11) (T := TX11) (N := 42) rfl bh_10 rfl rfl (bz_tb 713 (by decide +kernel) (by decide +kernel)) (Or.inr rfl) (by decide +kernel)) ?_
  refine bz_ac (show bz_ok RX11 cX11_pass 4 (bz_if_eq 11) from bz_o_if_eq (off := 7) (t := 11) (by decide +kernel) (by decide)) ?_
  refine bz_ac (show bz_ok RX11 cX11_pass 7 (bz_iload 1 1) from bz_o_iload_n (k := 1) (i := 1) (by decide +kernel) rfl) ?_
  refine bz_ac (show bz_ok RX11 cX11_pass 8 (bz_goto 20) from bz_o_goto (off := 12) (t := 20) (by decide +kernel) (by decide)) ?_
  refine bz_ac (show bz_ok RX11 cX11_pass 11 (bz_aload 0 1) from bz_o_aload_n (k := 0) (i := 0) (by decide +kernel) rfl) ?_
  refine bz_ac (show bz_ok RX11 cX11_pass 12 (bz_getR 10 38) from bz_o_getR (ci := 10) (k := 38) (idx := 63) (C := RX11) (T := TX11) (N := 42) rfl bh_10 rfl rfl (bz_tb 710 (by decide +kernel) (by decide +kernel)) rfl (by decide +kernel)) ?_
  refine bz_ac (show bz_ok RX11 cX11_pass 15 (bz_aload 0 1) from bz_o_aload_n (k := 0) (i := 0) (by decide +kernel) rfl) ?_
  refine bz_ac (show bz_ok RX11 cX11_pass 16 (bz_getI 10 40) from bz_o_getI (ci := 10) (k := 40) (idx := 345) (C := RX11) (T := TX11) (N := 42) rfl bh_10 rfl rfl (bz_tb 712 (by decide +kernel) (by decide +kernel)) (Or.inl rfl) (by decide +kernel)) ?_
  refine bz_ac (show bz_ok RX11 cX11_pass 19 (bz_iald) from bz_o_iald (by decide +kernel)) ?_
  refine bz_ac (show bz_ok RX11 cX11_pass 20 (bz_istore 2 1) from bz_o_istore_n (k := 2) (i := 2) (by decide +kernel) rfl) ?_
  refine bz_ac (show bz_ok RX11 cX11_pass 21 (bz_aload 0 1) from bz_o_aload_n (k := 0) (i := 0) (by decide +kernel) rfl) ?_
  refine bz_ac (show bz_ok RX11 cX11_pass 22 (bz_getR 10 38) from bz_o_getR (ci := 10) (k := 38) (idx := 63) (C := RX11) (T := TX11) (N := 42) rfl bh_10 rfl rfl (bz_tb 710 (by decide +kernel) (by decide +kernel)) rfl (by decide +kernel)) ?_
  refine bz_ac (show bz_ok RX11 cX11_pass 25 (bz_aload 0 1) from bz_o_aload_n (k := 0) (i := 0) (by decide +kernel) rfl) ?_
  refine bz_ac (show bz_ok RX11 cX11_pass 26 (bz_getI 10 40) from bz_o_getI (ci := 10) (k := 40) (idx := 345) (C := RX11) (T := TX11) (N := 42) rfl bh_10 rfl rfl (bz_tb 712 (by decide +kernel) (by decide +kernel)) (Or.inl rfl) (by decide +kernel)) ?_
  refine bz_ac (show bz_ok RX11 cX11_pass 29 (bz_iload 2 1) from bz_o_iload_n (k := 2) (i := 2) (by decide +kernel) rfl) ?_
  refine bz_ac (show bz_ok RX11 cX11_pass 30 (bz_iast) from bz_o_iast (by decide +kernel)) ?_
  refine bz_ac (show bz_ok RX11 cX11_pass 31 (bz_aload 0 1) from bz_o_aload_n (k := 0) (i := 0) (by decide +kernel) rfl) ?_
  refine bz_ac (show bz_ok RX11 cX11_pass 32 (bz_dup) from bz_o_dup (by decide +kernel)) ?_
  refine bz_ac (show bz_ok RX11 cX11_pass 33 (bz_getI 10 40) from bz_o_getI (ci := 10) (k := 40) (idx := 345) (C := RX11) (T := TX11) (N := 42) rfl bh_10 rfl rfl (bz_tb 712 (by decide +kernel) (by decide +kernel)) (Or.inl rfl) (by decide +kernel)) ?_
  refine bz_ac (show bz_ok RX11 cX11_pass 36 (bz_push (.int 1) 1) from bz_o_iconst (n := 1) (v := 1) (by decide +kernel) (by decide)) ?_
  refine bz_ac (show bz_ok RX11 cX11_pass 37 (bz_iadd) from bz_o_iadd (by decide +kernel)) ?_
  refine bz_ac (show bz_ok RX11 cX11_pass 38 (bz_putI 10 40) from bz_o_putI (ci := 10) (k := 40) (idx := 345) (C := RX11) (T := TX11) (N := 42) rfl bh_10 rfl rfl (bz_tb 712 (by decide +kernel) (by decide +kernel)) tyX11 tyX11_ok nmX11 rfl rfl rfl (by decide +kernel)) ?_
  refine bz_ac (show bz_ok RX11 cX11_pass 41 (bz_iload 2 1) from bz_o_iload_n (k := 2) (i := 2) (by decide +kernel) rfl) ?_
  refine bz_ac (show bz_rok cX11_pass (some .int) 42 1 from Or.inr (Or.inl ⟨rfl, rfl, by decide +kernel⟩)) ?_
  exact bz_an
set_option maxRecDepth 100000 in
theorem bo_X11_passRow (l : Launch) : ∀ q ∈ bt_X11_passRow, bz_rw bz_P l bm_X11_passRow q := by
  refine bz_ac (show bz_ok RX11 cX11_passRow 0 (bz_push (.int 0) 1) from bz_o_iconst (n := 0) (v := 0) (by decide +kernel) (by decide)) ?_
  refine bz_ac (show bz_ok RX11 cX11_passRow 1 (bz_istore 3 1) from bz_o_istore_n (k := 3) (i := 3) (by decide +kernel) rfl) ?_
  refine bz_ac (show bz_ok RX11 cX11_passRow 2 (bz_iload 3 1) from bz_o_iload_n (k := 3) (i := 3) (by decide +kernel) rfl) ?_
  refine bz_ac (show bz_ok RX11 cX11_passRow 3 (bz_iload 2 1) from bz_o_iload_n (k := 2) (i := 2) (by decide +kernel) rfl) ?_
  refine bz_ac (show bz_ok RX11 cX11_passRow 4 (bz_ic_ge 23) from bz_o_ic_ge (off := 19) (t := 23) (by decide +kernel) (by decide)) ?_
  refine bz_ac (show bz_ok RX11 cX11_passRow 7 (bz_aload 1 1) from bz_o_aload_n (k := 1) (i := 1) (by decide +kernel) rfl) ?_
  refine bz_ac (show bz_ok RX11 cX11_passRow 8 (bz_iload 3 1) from bz_o_iload_n (k := 3) (i := 3) (by decide +kernel) rfl) ?_
  refine bz_ac (show bz_ok RX11 cX11_passRow 9 (bz_aload 0 1) from bz_o_aload_n (k := 0) (i := 0) (by decide +kernel) rfl) ?_
  refine bz_ac (show bz_ok RX11 cX11_passRow 10 (bz_aload 1 1) from bz_o_aload_n (k := 1) (i := 1) (by decide +kernel) rfl) ?_
  refine bz_ac (show bz_ok RX11 cX11_passRow 11 (bz_iload 3 1) from bz_o_iload_n (k := 3) (i := 3) (by decide +kernel) rfl) ?_
  refine bz_ac (show bz_ok RX11 cX11_passRow 12 (bz_iald) from bz_o_iald (by decide +kernel)) ?_
  refine bz_ac (show bz_cok bz_P l RX11 cX11_passRow 1 22 13 mX11_pass 2 11 from bz_cV' (own := RX11) (idx := 348) (ci := 10) (N := 42) (T := TX11) (n := 1) bp_X11_pass bq_X11_pass (by decide +kernel) (bz_tb 1084 (by decide +kernel) (by decide +kernel)) (bz_tb 1086 (by decide +kernel) (by decide +kernel)) (bz_tb 42 (by decide +kernel) (by decide +kernel)) rfl rfl (by decide) (by decide)) ?_
  refine bz_ac (show bz_ok RX11 cX11_passRow 16 (bz_iast) from bz_o_iast (by decide +kernel)) ?_
  refine bz_ac (show bz_ok RX11 cX11_passRow 17 (bz_iinc 3 1) from bz_o_iinc (i := 3) (n := 1) (v := 1) (by decide +kernel) (by decide)) ?_
  refine bz_ac (show bz_ok RX11 cX11_passRow 20 (bz_goto 2) from bz_o_goto (off := (-18)) (t := 2) (by decide +kernel) (by decide)) ?_
  refine bz_ac (show bz_rok cX11_passRow none 23 0 from Or.inl ⟨rfl, rfl, by decide +kernel⟩) ?_
  exact bz_an
set_option maxRecDepth 100000 in
theorem bo_X11_passAll (l : Launch) : ∀ q ∈ bt_X11_passAll, bz_rw bz_P l bm_X11_passAll q := by
  refine bz_ac (show bz_ok RX11 cX11_passAll 0 (bz_aload 0 1) from bz_o_aload_n (k := 0) (i := 0) (by decide +kernel) rfl) ?_
  refine bz_ac (show bz_ok RX11 cX11_passAll 1 (bz_aload 0 1) from bz_o_aload_n (k := 0) (i := 0) (by decide +kernel) rfl) ?_
  refine bz_ac (show bz_ok RX11 cX11_passAll 2 (bz_aload 0 1) from bz_o_aload_n (k := 0) (i := 0) (by decide +kernel) rfl) ?_
  refine bz_ac (show bz_ok RX11 cX11_passAll 3 (bz_getI 10 1) from bz_o_getI (ci := 10) (k := 1) (idx := 109) (C := RX11) (T := TX11) (N := 42) rfl bh_10 rfl rfl (bz_tb 673 (by decide +kernel) (by decide +kernel)) (Or.inl rfl) (by decide +kernel)) ?_
  refine bz_ac (show bz_cok bz_P l RX11 cX11_passAll 2 45 6 mX11_pass 2 11 from bz_cV' (own := RX11) (idx := 348) (ci := 10) (N := 42) (T := TX11) (n := 1) bp_X11_pass bq_X11_pass (by decide +kernel) (bz_tb 1084 (by decide +kernel) (by decide +kernel)) (bz_tb 1086 (by decide +kernel) (by decide +kernel)) (bz_tb 42 (by decide +kernel) (by decide +kernel)) rfl rfl (by decide) (by decide)) ?_
  refine bz_ac (show bz_ok RX11 cX11_passAll 9 (bz_putI 10 1) from bz_o_putI (ci := 10) (k := 1) (idx := 109) (C := RX11) (T := TX11) (N := 42) rfl bh_10 rfl rfl (bz_tb 673 (by decide +kernel) (by decide +kernel)) tyX11 tyX11_ok nmX11 rfl rfl rfl (by decide +kernel)) ?_
  refine bz_ac (show bz_ok RX11 cX11_passAll 12 (bz_aload 0 1) from bz_o_aload_n (k := 0) (i := 0) (by decide +kernel) rfl) ?_
  refine bz_ac (show bz_ok RX11 cX11_passAll 13 (bz_aload 0 1) from bz_o_aload_n (k := 0) (i := 0) (by decide +kernel) rfl) ?_
  refine bz_ac (show bz_ok RX11 cX11_passAll 14 (bz_aload 0 1) from bz_o_aload_n (k := 0) (i := 0) (by decide +kernel) rfl) ?_
  refine bz_ac (show bz_ok RX11 cX11_passAll 15 (bz_getI 10 2) from bz_o_getI (ci := 10) (k := 2) (idx := 113) (C := RX11) (T := TX11) (N := 42) rfl bh_10 rfl rfl (bz_tb 674 (by decide +kernel) (by decide +kernel)) (Or.inl rfl) (by decide +kernel)) ?_
  refine bz_ac (show bz_cok bz_P l RX11 cX11_passAll 2 45 18 mX11_pass 2 11 from bz_cV' (own := RX11) (idx := 348) (ci := 10) (N := 42) (T := TX11) (n := 1) bp_X11_pass bq_X11_pass (by decide +kernel) (bz_tb 1084 (by decide +kernel) (by decide +kernel)) (bz_tb 1086 (by decide +kernel) (by decide +kernel)) (bz_tb 42 (by decide +kernel) (by decide +kernel)) rfl rfl (by decide) (by decide)) ?_
  refine bz_ac (show bz_ok RX11 cX11_passAll 21 (bz_putI 10 2) from bz_o_putI (ci := 10) (k := 2) (idx := 113) (C := RX11) (T := TX11) (N := 42) rfl bh_10 rfl rfl (bz_tb 674 (by decide +kernel) (by decide +kernel)) tyX11 tyX11_ok nmX11 rfl rfl rfl (by decide +kernel)) ?_
  refine bz_ac (show bz_ok RX11 cX11_passAll 24 (bz_aload 0 1) from bz_o_aload_n (k := 0) (i := 0) (by decide +kernel) rfl) ?_
  refine bz_ac (show bz_ok RX11 cX11_passAll 25 (bz_aload 0 1) from bz_o_aload_n (k := 0) (i := 0) (by decide +kernel) rfl) ?_
  refine bz_ac (show bz_ok RX11 cX11_passAll 26 (bz_aload 0 1) from bz_o_aload_n (k := 0) (i := 0) (by decide +kernel) rfl) ?_
  refine bz_ac (show bz_ok RX11 cX11_passAll 27 (bz_getI 10 3) from bz_o_getI (ci := 10) (k := 3) (idx := 211) (C := RX11) (T := TX11) (N := 42) rfl bh_10 rfl rfl (bz_tb 675 (by decide +kernel) (by decide +kernel)) (Or.inl rfl) (by decide +kernel)) ?_
  refine bz_ac (show bz_cok bz_P l RX11 cX11_passAll 2 45 30 mX11_pass 2 11 from bz_cV' (own := RX11) (idx := 348) (ci := 10) (N := 42) (T := TX11) (n := 1) bp_X11_pass bq_X11_pass (by decide +kernel) (bz_tb 1084 (by decide +kernel) (by decide +kernel)) (bz_tb 1086 (by decide +kernel) (by decide +kernel)) (bz_tb 42 (by decide +kernel) (by decide +kernel)) rfl rfl (by decide) (by decide)) ?_
  refine bz_ac (show bz_ok RX11 cX11_passAll 33 (bz_putI 10 3) from bz_o_putI (ci := 10) (k := 3) (idx := 211) (C := RX11) (T := TX11) (N := 42) rfl bh_10 rfl rfl (bz_tb 675 (by decide +kernel) (by decide +kernel)) tyX11 tyX11_ok nmX11 rfl rfl rfl (by decide +kernel)) ?_
  refine bz_ac (show bz_ok RX11 cX11_passAll 36 (bz_aload 0 1) from bz_o_aload_n (k := 0) (i := 0) (by decide +kernel) rfl) ?_
  refine bz_ac (show bz_ok RX11 cX11_passAll 37 (bz_aload 0 1) from bz_o_aload_n (k := 0) (i := 0) (by decide +kernel) rfl) ?_
  refine bz_ac (show bz_ok RX11 cX11_passAll 38 (bz_aload 0 1) from bz_o_aload_n (k := 0) (i := 0) (by decide +kernel) rfl) ?_
  refine bz_ac (show bz_ok RX11 cX11_passAll 39 (bz_getI 10 6) from bz_o_getI (ci := 10) (k := 6) (idx := 289) (C := RX11) (T := TX11) (N := 42) rfl bh_10 rfl rfl (bz_tb 678 (by decide +kernel) (by decide +kernel)) (Or.inl rfl) (by decide +kernel)) ?_
  refine bz_ac (show bz_cok bz_P l RX11 cX11_passAll 2 45 42 mX11_pass 2 11 from bz_cV' (own := RX11) (idx := 348) (ci := 10) (N := 42) (T := TX11) (n := 1) bp_X11_pass bq_X11_pass (by decide +kernel) (bz_tb 1084 (by decide +kernel) (by decide +kernel)) (bz_tb 1086 (by decide +kernel) (by decide +kernel)) (bz_tb 42 (by decide +kernel) (by decide +kernel)) rfl rfl (by decide) (by decide)) ?_
  refine bz_ac (show bz_ok RX11 cX11_passAll 45 (bz_putI 10 6) from bz_o_putI (ci := 10) (k := 6) (idx := 289) (C := RX11) (T := TX11) (N := 42) rfl bh_10 rfl rfl (bz_tb 678 (by decide +kernel) (by decide +kernel)) tyX11 tyX11_ok nmX11 rfl rfl rfl (by decide +kernel)) ?_
  refine bz_ac (show bz_ok RX11 cX11_passAll 48 (bz_aload 0 1) from bz_o_aload_n (k := 0) (i := 0) (by decide +kernel) rfl) ?_
  refine bz_ac (show bz_ok RX11 cX11_passAll 49 (bz_aload 0 1) from bz_o_aload_n (k := 0) (i := 0) (by decide +kernel) rfl) ?_
  refine bz_ac (show bz_ok RX11 cX11_passAll 50 (bz_getR 10 0) from bz_o_getR (ci := 10) (k := 0) (idx := 7) (C := RX11) (T := TX11) (N := 42) rfl bh_10 rfl rfl (bz_tb 672 (by decide +kernel) (by decide +kernel)) rfl (by decide +kernel)) ?_
  refine bz_ac (show bz_ok RX11 cX11_passAll 53 (bz_push (.int 3) 1) from bz_o_iconst (n := 3) (v := 3) (by decide +kernel) (by decide)) ?_
  refine bz_ac (show bz_cok bz_P l RX11 cX11_passAll 2 45 54 mX11_passRow 3 11 from bz_cV' (own := RX11) (idx := 351) (ci := 10) (N := 42) (T := TX11) (n := 2) bp_X11_passRow bq_X11_passRow (by decide +kernel) (bz_tb 1088 (by decide +kernel) (by decide +kernel)) (bz_tb 1090 (by decide +kernel) (by decide +kernel)) (bz_tb 43 (by decide +kernel) (by decide +kernel)) rfl rfl (by decide) (by decide)) ?_
  refine bz_ac (show bz_ok RX11 cX11_passAll 57 (bz_aload 0 1) from bz_o_aload_n (k := 0) (i := 0) (by decide +kernel) rfl) ?_
  refine bz_ac (show bz_ok RX11 cX11_passAll 58 (bz_aload 0 1) from bz_o_aload_n (k := 0) (i := 0) (by decide +kernel) rfl) ?_
  refine bz_ac (show bz_ok RX11 cX11_passAll 59 (bz_getR 10 4) from bz_o_getR (ci := 10) (k := 4) (idx := 13) (C := RX11) (T := TX11) (N := 42) rfl bh_10 rfl rfl (bz_tb 676 (by decide +kernel) (by decide +kernel)) rfl (by decide +kernel)) ?_
  refine bz_ac (show bz_ok RX11 cX11_passAll 62 (bz_push (.int 8) 2) from bz_o_bipush (n := 8) (v := 8) (by decide +kernel) (by decide)) ?_
  refine bz_ac (show bz_cok bz_P l RX11 cX11_passAll 2 45 64 mX11_passRow 3 11 from bz_cV' (own := RX11) (idx := 351) (ci := 10) (N := 42) (T := TX11) (n := 2) bp_X11_passRow bq_X11_passRow (by decide +kernel) (bz_tb 1088 (by decide +kernel) (by decide +kernel)) (bz_tb 1090 (by decide +kernel) (by decide +kernel)) (bz_tb 43 (by decide +kernel) (by decide +kernel)) rfl rfl (by decide) (by decide)) ?_
  refine bz_ac (show bz_ok RX11 cX11_passAll 67 (bz_aload 0 1) from bz_o_aload_n (k := 0) (i := 0) (by decide +kernel) rfl) ?_
  refine bz_ac (show bz_ok RX11 cX11_passAll 68 (bz_aload 0 1) from bz_o_aload_n (k := 0) (i := 0) (by decide +kernel) rfl) ?_
  refine bz_ac (show bz_ok RX11 cX11_passAll 69 (bz_getR 10 5) from bz_o_getR (ci := 10) (k := 5) (idx := 16) (C := RX11) (T := TX11) (N := 42) rfl bh_10 rfl rfl (bz_tb 677 (by decide +kernel) (by decide +kernel)) rfl (by decide +kernel)) ?_
  refine bz_ac (show bz_ok RX11 cX11_passAll 72 (bz_push (.int 8) 2) from bz_o_bipush (n := 8) (v := 8) (by decide +kernel) (by decide)) ?_
  refine bz_ac (show bz_cok bz_P l RX11 cX11_passAll 2 45 74 mX11_passRow 3 11 from bz_cV' (own := RX11) (idx := 351) (ci := 10) (N := 42) (T := TX11) (n := 2) bp_X11_passRow bq_X11_passRow (by decide +kernel) (bz_tb 1088 (by decide +kernel) (by decide +kernel)) (bz_tb 1090 (by decide +kernel) (by decide +kernel)) (bz_tb 43 (by decide +kernel) (by decide +kernel)) rfl rfl (by decide) (by decide)) ?_
  refine bz_ac (show bz_rok cX11_passAll none 77 0 from Or.inl ⟨rfl, rfl, by decide +kernel⟩) ?_
  exact bz_an
set_option maxRecDepth 100000 in
theorem bo_X11_image (l : Launch) : ∀ q ∈ bt_X11_image, bz_rw bz_P l bm_X11_image q := by
  refine bz_ac (show bz_ok RX11 cX11_image 0 (bz_iload 1 1) from bz_o_iload_n (k := 1) (i := 1) (by decide +kernel) rfl) ?_
  refine bz_ac (show bz_ok RX11 cX11_image 1 (bz_i2l) from bz_o_i2l (by decide +kernel)) ?_
  refine bz_ac (show bz_ok RX11 cX11_image 2 (bz_push (.long 0) 1) from bz_o_lconst (n := 0) (v := 0) (by decide +kernel) (by decide)) ?_
  refine bz_ac (show bz_ok RX11 cX11_image 3 (bz_push (.long 1) 1) from bz_o_lconst (n := 1) (v := 1) (by decide +kernel) (by decide)) ?_
  refine bz_ac (show bz_cok bz_P l RX11 cX11_image 3 65 4 mX11_in 3 0 from bz_cS' (own := RX11) (idx := 75) (n := 3) bp_X11_in bq_X11_in (by decide +kernel) (bz_tb 809 (by decide +kernel) (by decide +kernel)) (bz_tb 810 (by decide +kernel) (by decide +kernel)) rfl (by decide) (by decide)) ?_
  refine bz_ac (show bz_ok RX11 cX11_image 7 (bz_if_ne 13) from bz_o_if_ne (off := 6) (t := 13) (by decide +kernel) (by decide)) ?_
  refine bz_ac (show bz_ok RX11 cX11_image 10 (bz_push (.int (-2)) 2) from bz_o_bipush (n := (-2)) (v := (-2)) (by decide +kernel) (by decide)) ?_
  refine bz_ac (show bz_rok cX11_image (some .int) 12 1 from Or.inr (Or.inl ⟨rfl, rfl, by decide +kernel⟩)) ?_
  refine bz_ac (show bz_ok RX11 cX11_image 13 (bz_aload 0 1) from bz_o_aload_n (k := 0) (i := 0) (by decide +kernel) rfl) ?_
  refine bz_ac (show bz_ok RX11 cX11_image 14 (bz_push (.int 30) 2) from bz_o_bipush (n := 30) (v := 30) (by decide +kernel) (by decide)) ?_
  refine bz_ac (show bz_ok RX11 cX11_image 16 (bz_iload 1 1) from bz_o_iload_n (k := 1) (i := 1) (by decide +kernel) rfl) ?_
  refine bz_ac (show bz_ok RX11 cX11_image 17 (bz_imul) from bz_o_imul (by decide +kernel)) ?_
  refine bz_ac (show bz_ok RX11 cX11_image 18 (bz_putI 10 40) from bz_o_putI (ci := 10) (k := 40) (idx := 345) (C := RX11) (T := TX11) (N := 42) rfl bh_10 rfl rfl (bz_tb 712 (by decide +kernel) (by decide +kernel)) tyX11 tyX11_ok nmX11 rfl rfl rfl (by decide +kernel)) ?_
  refine bz_ac (show bz_ok RX11 cX11_image 21 (bz_aload 0 1) from bz_o_aload_n (k := 0) (i := 0) (by decide +kernel) rfl) ?_
  refine bz_ac (show bz_ok RX11 cX11_image 22 (bz_push (.int 1) 1) from bz_o_iconst (n := 1) (v := 1) (by decide +kernel) (by decide)) ?_
  refine bz_ac (show bz_ok RX11 cX11_image 23 (bz_putZ 10 41) from bz_o_putZ (ci := 10) (k := 41) (idx := 341) (C := RX11) (T := TX11) (N := 42) rfl bh_10 rfl rfl (bz_tb 713 (by decide +kernel) (by decide +kernel)) tyX11 tyX11_ok nmX11 rfl rfl rfl (by decide +kernel)) ?_
  refine bz_ac (show bz_ok RX11 cX11_image 26 (bz_aload 0 1) from bz_o_aload_n (k := 0) (i := 0) (by decide +kernel) rfl) ?_
  refine bz_ac (show bz_cok bz_P l RX11 cX11_image 3 65 27 mX11_passAll 1 11 from bz_cV' (own := RX11) (idx := 355) (ci := 10) (N := 42) (T := TX11) (n := 0) bp_X11_passAll bq_X11_passAll (by decide +kernel) (bz_tb 1080 (by decide +kernel) (by decide +kernel)) (bz_tb 1082 (by decide +kernel) (by decide +kernel)) (bz_tb 41 (by decide +kernel) (by decide +kernel)) rfl rfl (by decide) (by decide)) ?_
  refine bz_ac (show bz_ok RX11 cX11_image 30 (bz_aload 0 1) from bz_o_aload_n (k := 0) (i := 0) (by decide +kernel) rfl) ?_
  refine bz_ac (show bz_ok RX11 cX11_image 31 (bz_getR 10 39) from bz_o_getR (ci := 10) (k := 39) (idx := 66) (C := RX11) (T := TX11) (N := 42) rfl bh_10 rfl rfl (bz_tb 711 (by decide +kernel) (by decide +kernel)) rfl (by decide +kernel)) ?_
  refine bz_ac (show bz_ok RX11 cX11_image 34 (bz_iload 1 1) from bz_o_iload_n (k := 1) (i := 1) (by decide +kernel) rfl) ?_
  refine bz_ac (show bz_ok RX11 cX11_image 35 (bz_push (.int 1) 1) from bz_o_iconst (n := 1) (v := 1) (by decide +kernel) (by decide)) ?_
  refine bz_ac (show bz_ok RX11 cX11_image 36 (bz_zast) from bz_o_zast (by decide +kernel)) ?_
  refine bz_ac (show bz_ok RX11 cX11_image 37 (bz_push (.int 1) 1) from bz_o_iconst (n := 1) (v := 1) (by decide +kernel) (by decide)) ?_
  refine bz_ac (show bz_rok cX11_image (some .int) 38 1 from Or.inr (Or.inl ⟨rfl, rfl, by decide +kernel⟩)) ?_
  exact bz_an
set_option maxRecDepth 100000 in
theorem bo_X11_restore (l : Launch) : ∀ q ∈ bt_X11_restore, bz_rw bz_P l bm_X11_restore q := by
  refine bz_ac (show bz_ok RX11 cX11_restore 0 (bz_iload 1 1) from bz_o_iload_n (k := 1) (i := 1) (by decide +kernel) rfl) ?_
  refine bz_ac (show bz_ok RX11 cX11_restore 1 (bz_i2l) from bz_o_i2l (by decide +kernel)) ?_
  refine bz_ac (show bz_ok RX11 cX11_restore 2 (bz_push (.long 0) 1) from bz_o_lconst (n := 0) (v := 0) (by decide +kernel) (by decide)) ?_
  refine bz_ac (show bz_ok RX11 cX11_restore 3 (bz_push (.long 1) 1) from bz_o_lconst (n := 1) (v := 1) (by decide +kernel) (by decide)) ?_
  refine bz_ac (show bz_cok bz_P l RX11 cX11_restore 3 65 4 mX11_in 3 0 from bz_cS' (own := RX11) (idx := 75) (n := 3) bp_X11_in bq_X11_in (by decide +kernel) (bz_tb 809 (by decide +kernel) (by decide +kernel)) (bz_tb 810 (by decide +kernel) (by decide +kernel)) rfl (by decide) (by decide)) ?_
  refine bz_ac (show bz_ok RX11 cX11_restore 7 (bz_if_ne 13) from bz_o_if_ne (off := 6) (t := 13) (by decide +kernel) (by decide)) ?_
  refine bz_ac (show bz_ok RX11 cX11_restore 10 (bz_push (.int (-2)) 2) from bz_o_bipush (n := (-2)) (v := (-2)) (by decide +kernel) (by decide)) ?_
  refine bz_ac (show bz_rok cX11_restore (some .int) 12 1 from Or.inr (Or.inl ⟨rfl, rfl, by decide +kernel⟩)) ?_
  refine bz_ac (show bz_ok RX11 cX11_restore 13 (bz_aload 0 1) from bz_o_aload_n (k := 0) (i := 0) (by decide +kernel) rfl) ?_
  refine bz_ac (show bz_ok RX11 cX11_restore 14 (bz_getR 10 39) from bz_o_getR (ci := 10) (k := 39) (idx := 66) (C := RX11) (T := TX11) (N := 42) rfl bh_10 rfl rfl (bz_tb 711 (by decide +kernel) (by decide +kernel)) rfl (by decide +kernel)) ?_
  refine bz_ac (show bz_ok RX11 cX11_restore 17 (bz_iload 1 1) from bz_o_iload_n (k := 1) (i := 1) (by decide +kernel) rfl) ?_
  refine bz_ac (show bz_ok RX11 cX11_restore 18 (bz_zald) from bz_o_zald (by decide +kernel)) ?_
  refine bz_ac (show bz_ok RX11 cX11_restore 19 (bz_if_ne 25) from bz_o_if_ne (off := 6) (t := 25) (by decide +kernel) (by decide)) ?_
  refine bz_ac (show bz_ok RX11 cX11_restore 22 (bz_push (.int (-3)) 2) from bz_o_bipush (n := (-3)) (v := (-3)) (by decide +kernel) (by decide)) ?_
  refine bz_ac (show bz_rok cX11_restore (some .int) 24 1 from Or.inr (Or.inl ⟨rfl, rfl, by decide +kernel⟩)) ?_
  refine bz_ac (show bz_ok RX11 cX11_restore 25 (bz_aload 0 1) from bz_o_aload_n (k := 0) (i := 0) (by decide +kernel) rfl) ?_
  refine bz_ac (show bz_ok RX11 cX11_restore 26 (bz_push (.int 30) 2) from bz_o_bipush (n := 30) (v := 30) (by decide +kernel) (by decide)) ?_
  refine bz_ac (show bz_ok RX11 cX11_restore 28 (bz_iload 1 1) from bz_o_iload_n (k := 1) (i := 1) (by decide +kernel) rfl) ?_
  refine bz_ac (show bz_ok RX11 cX11_restore 29 (bz_imul) from bz_o_imul (by decide +kernel)) ?_
  refine bz_ac (show bz_ok RX11 cX11_restore 30 (bz_putI 10 40) from bz_o_putI (ci := 10) (k := 40) (idx := 345) (C := RX11) (T := TX11) (N := 42) rfl bh_10 rfl rfl (bz_tb 712 (by decide +kernel) (by decide +kernel)) tyX11 tyX11_ok nmX11 rfl rfl rfl (by decide +kernel)) ?_
  refine bz_ac (show bz_ok RX11 cX11_restore 33 (bz_aload 0 1) from bz_o_aload_n (k := 0) (i := 0) (by decide +kernel) rfl) ?_
  refine bz_ac (show bz_ok RX11 cX11_restore 34 (bz_push (.int 0) 1) from bz_o_iconst (n := 0) (v := 0) (by decide +kernel) (by decide)) ?_
  refine bz_ac (show bz_ok RX11 cX11_restore 35 (bz_putZ 10 41) from bz_o_putZ (ci := 10) (k := 41) (idx := 341) (C := RX11) (T := TX11) (N := 42) rfl bh_10 rfl rfl (bz_tb 713 (by decide +kernel) (by decide +kernel)) tyX11 tyX11_ok nmX11 rfl rfl rfl (by decide +kernel)) ?_
  refine bz_ac (show bz_ok RX11 cX11_restore 38 (bz_aload 0 1) from bz_o_aload_n (k := 0) (i := 0) (by decide +kernel) rfl) ?_
  refine bz_ac (show bz_cok bz_P l RX11 cX11_restore 3 65 39 mX11_passAll 1 11 from bz_cV' (own := RX11) (idx := 355) (ci := 10) (N := 42) (T := TX11) (n := 0) bp_X11_passAll bq_X11_passAll (by decide +kernel) (bz_tb 1080 (by decide +kernel) (by decide +kernel)) (bz_tb 1082 (by decide +kernel) (by decide +kernel)) (bz_tb 41 (by decide +kernel) (by decide +kernel)) rfl rfl (by decide) (by decide)) ?_
  refine bz_ac (show bz_ok RX11 cX11_restore 42 (bz_push (.int 1) 1) from bz_o_iconst (n := 1) (v := 1) (by decide +kernel) (by decide)) ?_
  refine bz_ac (show bz_rok cX11_restore (some .int) 43 1 from Or.inr (Or.inl ⟨rfl, rfl, by decide +kernel⟩)) ?_
  exact bz_an
set_option maxRecDepth 100000 in
theorem bo_X11_told (l : Launch) : ∀ q ∈ bt_X11_told, bz_rw bz_P l bm_X11_told q := by
  refine bz_ac (show bz_ok RX11 cX11_told 0 (bz_iload 1 1) from bz_o_iload_n (k := 1) (i := 1) (by decide +kernel) rfl) ?_
  refine bz_ac (show bz_ok RX11 cX11_told 1 (bz_i2l) from bz_o_i2l (by decide +kernel)) ?_
  refine bz_ac (show bz_ok RX11 cX11_told 2 (bz_push (.long 10) 3) from bz_o_ldc2 (own := RX11) (i := 315) (v := 10) (by decide +kernel) (bz_tb 1053 (by decide +kernel) (by decide +kernel))) ?_
  refine bz_ac (show bz_ok RX11 cX11_told 5 (bz_push (.long 12) 3) from bz_o_ldc2 (own := RX11) (i := 358) (v := 12) (by decide +kernel) (bz_tb 1100 (by decide +kernel) (by decide +kernel))) ?_
  refine bz_ac (show bz_cok bz_P l RX11 cX11_told 1 25 8 mX11_in 3 0 from bz_cS' (own := RX11) (idx := 75) (n := 3) bp_X11_in bq_X11_in (by decide +kernel) (bz_tb 809 (by decide +kernel) (by decide +kernel)) (bz_tb 810 (by decide +kernel) (by decide +kernel)) rfl (by decide) (by decide)) ?_
  refine bz_ac (show bz_ok RX11 cX11_told 11 (bz_if_eq 24) from bz_o_if_eq (off := 13) (t := 24) (by decide +kernel) (by decide)) ?_
  refine bz_ac (show bz_ok RX11 cX11_told 14 (bz_aload 0 1) from bz_o_aload_n (k := 0) (i := 0) (by decide +kernel) rfl) ?_
  refine bz_ac (show bz_ok RX11 cX11_told 15 (bz_getR 10 0) from bz_o_getR (ci := 10) (k := 0) (idx := 7) (C := RX11) (T := TX11) (N := 42) rfl bh_10 rfl rfl (bz_tb 672 (by decide +kernel) (by decide +kernel)) rfl (by decide +kernel)) ?_
  refine bz_ac (show bz_ok RX11 cX11_told 18 (bz_iload 1 1) from bz_o_iload_n (k := 1) (i := 1) (by decide +kernel) rfl) ?_
  refine bz_ac (show bz_ok RX11 cX11_told 19 (bz_push (.int 10) 2) from bz_o_bipush (n := 10) (v := 10) (by decide +kernel) (by decide)) ?_
  refine bz_ac (show bz_ok RX11 cX11_told 21 (bz_isub) from bz_o_isub (by decide +kernel)) ?_
  refine bz_ac (show bz_ok RX11 cX11_told 22 (bz_iald) from bz_o_iald (by decide +kernel)) ?_
  refine bz_ac (show bz_rok cX11_told (some .int) 23 1 from Or.inr (Or.inl ⟨rfl, rfl, by decide +kernel⟩)) ?_
  refine bz_ac (show bz_ok RX11 cX11_told 24 (bz_iload 1 1) from bz_o_iload_n (k := 1) (i := 1) (by decide +kernel) rfl) ?_
  refine bz_ac (show bz_ok RX11 cX11_told 25 (bz_switch (bz_mk 0 [60, 65, 70, 75, 80]) 85) from bz_o_table (df := 60) (offs := #[35, 40, 45, 50, 55]) (len := 35) (lo := 0) (hi := 4) (ts := [60, 65, 70, 75, 80]) (d := 85) (by decide +kernel) (by decide) (by decide +kernel) (by decide)) ?_
  refine bz_ac (show bz_ok RX11 cX11_told 60 (bz_aload 0 1) from bz_o_aload_n (k := 0) (i := 0) (by decide +kernel) rfl) ?_
  refine bz_ac (show bz_ok RX11 cX11_told 61 (bz_getI 10 8) from bz_o_getI (ci := 10) (k := 8) (idx := 120) (C := RX11) (T := TX11) (N := 42) rfl bh_10 rfl rfl (bz_tb 680 (by decide +kernel) (by decide +kernel)) (Or.inl rfl) (by decide +kernel)) ?_
  refine bz_ac (show bz_rok cX11_told (some .int) 64 1 from Or.inr (Or.inl ⟨rfl, rfl, by decide +kernel⟩)) ?_
  refine bz_ac (show bz_ok RX11 cX11_told 65 (bz_aload 0 1) from bz_o_aload_n (k := 0) (i := 0) (by decide +kernel) rfl) ?_
  refine bz_ac (show bz_ok RX11 cX11_told 66 (bz_getI 10 1) from bz_o_getI (ci := 10) (k := 1) (idx := 109) (C := RX11) (T := TX11) (N := 42) rfl bh_10 rfl rfl (bz_tb 673 (by decide +kernel) (by decide +kernel)) (Or.inl rfl) (by decide +kernel)) ?_
  refine bz_ac (show bz_rok cX11_told (some .int) 69 1 from Or.inr (Or.inl ⟨rfl, rfl, by decide +kernel⟩)) ?_
  refine bz_ac (show bz_ok RX11 cX11_told 70 (bz_aload 0 1) from bz_o_aload_n (k := 0) (i := 0) (by decide +kernel) rfl) ?_
  refine bz_ac (show bz_ok RX11 cX11_told 71 (bz_getI 10 2) from bz_o_getI (ci := 10) (k := 2) (idx := 113) (C := RX11) (T := TX11) (N := 42) rfl bh_10 rfl rfl (bz_tb 674 (by decide +kernel) (by decide +kernel)) (Or.inl rfl) (by decide +kernel)) ?_
  refine bz_ac (show bz_rok cX11_told (some .int) 74 1 from Or.inr (Or.inl ⟨rfl, rfl, by decide +kernel⟩)) ?_
  refine bz_ac (show bz_ok RX11 cX11_told 75 (bz_aload 0 1) from bz_o_aload_n (k := 0) (i := 0) (by decide +kernel) rfl) ?_
  refine bz_ac (show bz_ok RX11 cX11_told 76 (bz_getI 10 3) from bz_o_getI (ci := 10) (k := 3) (idx := 211) (C := RX11) (T := TX11) (N := 42) rfl bh_10 rfl rfl (bz_tb 675 (by decide +kernel) (by decide +kernel)) (Or.inl rfl) (by decide +kernel)) ?_
  refine bz_ac (show bz_rok cX11_told (some .int) 79 1 from Or.inr (Or.inl ⟨rfl, rfl, by decide +kernel⟩)) ?_
  refine bz_ac (show bz_ok RX11 cX11_told 80 (bz_aload 0 1) from bz_o_aload_n (k := 0) (i := 0) (by decide +kernel) rfl) ?_
  refine bz_ac (show bz_ok RX11 cX11_told 81 (bz_getI 10 6) from bz_o_getI (ci := 10) (k := 6) (idx := 289) (C := RX11) (T := TX11) (N := 42) rfl bh_10 rfl rfl (bz_tb 678 (by decide +kernel) (by decide +kernel)) (Or.inl rfl) (by decide +kernel)) ?_
  refine bz_ac (show bz_rok cX11_told (some .int) 84 1 from Or.inr (Or.inl ⟨rfl, rfl, by decide +kernel⟩)) ?_
  refine bz_ac (show bz_ok RX11 cX11_told 85 (bz_push (.int (-2)) 2) from bz_o_bipush (n := (-2)) (v := (-2)) (by decide +kernel) (by decide)) ?_
  refine bz_ac (show bz_rok cX11_told (some .int) 87 1 from Or.inr (Or.inl ⟨rfl, rfl, by decide +kernel⟩)) ?_
  exact bz_an
set_option maxRecDepth 100000 in
theorem bo_L_law (l : Launch) : ∀ q ∈ bt_L_law, bz_rw bz_P l bm_L_law q := by
  refine bz_ac (show bz_ok RL cL_law 16 (bz_push (.int 0) 1) from bz_o_iconst (n := 0) (v := 0) (by decide +kernel) (by decide)) ?_
  refine bz_ac (show bz_ok RL cL_law 17 (bz_istore 3 1) from bz_o_istore_n (k := 3) (i := 3) (by decide +kernel) rfl) ?_
  refine bz_ac (show bz_ok RL cL_law 18 (bz_iload 3 1) from bz_o_iload_n (k := 3) (i := 3) (by decide +kernel) rfl) ?_
  refine bz_ac (show bz_ok RL cL_law 19 (bz_aload 0 1) from bz_o_aload_n (k := 0) (i := 0) (by decide +kernel) rfl) ?_
  refine bz_ac (show bz_ok RL cL_law 20 (bz_slen) from bz_o_slen (by decide +kernel)) ?_
  refine bz_ac (show bz_ok RL cL_law 21 (bz_push (.int 7) 2) from bz_o_bipush (n := 7) (v := 7) (by decide +kernel) (by decide)) ?_
  refine bz_ac (show bz_ok RL cL_law 23 (bz_isub) from bz_o_isub (by decide +kernel)) ?_
  refine bz_ac (show bz_ok RL cL_law 24 (bz_ic_gt 838) from bz_o_ic_gt (off := 814) (t := 838) (by decide +kernel) (by decide)) ?_
  refine bz_ac (show bz_ok RL cL_law 27 (bz_aload 0 1) from bz_o_aload_n (k := 0) (i := 0) (by decide +kernel) rfl) ?_
  refine bz_ac (show bz_ok RL cL_law 28 (bz_iload 3 1) from bz_o_iload_n (k := 3) (i := 3) (by decide +kernel) rfl) ?_
  refine bz_ac (show bz_ok RL cL_law 29 (bz_iald) from bz_o_iald (by decide +kernel)) ?_
  refine bz_ac (show bz_ok RL cL_law 30 (bz_push (.int 31) 2) from bz_o_bipush (n := 31) (v := 31) (by decide +kernel) (by decide)) ?_
  refine bz_ac (show bz_ok RL cL_law 32 (bz_iand) from bz_o_iand (by decide +kernel)) ?_
  refine bz_ac (show bz_ok RL cL_law 33 (bz_switch (bz_mk 0 [140, 173, 206, 229, 242, 255, 278, 301, 324, 347, 360, 413, 466, 509, 542, 555, 578, 601, 644, 720, 763, 786, 809]) 832) from bz_o_table (df := 799) (offs := #[107, 140, 173, 196, 209, 222, 245, 268, 291, 314, 327, 380, 433, 476, 509, 522, 545, 568, 611, 687, 730, 753, 776]) (len := 107) (lo := 0) (hi := 22) (ts := [140, 173, 206, 229, 242, 255, 278, 301, 324, 347, 360, 413, 466, 509, 542, 555, 578, 601, 644, 720, 763, 786, 809]) (d := 832) (by decide +kernel) (by decide) (by decide +kernel) (by decide)) ?_
  refine bz_ac (show bz_ok RL cL_law 140 (bz_aload 1 1) from bz_o_aload_n (k := 1) (i := 1) (by decide +kernel) rfl) ?_
  refine bz_ac (show bz_ok RL cL_law 141 (bz_aload 0 1) from bz_o_aload_n (k := 0) (i := 0) (by decide +kernel) rfl) ?_
  refine bz_ac (show bz_ok RL cL_law 142 (bz_iload 3 1) from bz_o_iload_n (k := 3) (i := 3) (by decide +kernel) rfl) ?_
  refine bz_ac (show bz_ok RL cL_law 143 (bz_push (.int 1) 1) from bz_o_iconst (n := 1) (v := 1) (by decide +kernel) (by decide)) ?_
  refine bz_ac (show bz_ok RL cL_law 144 (bz_iadd) from bz_o_iadd (by decide +kernel)) ?_
  refine bz_ac (show bz_ok RL cL_law 145 (bz_iald) from bz_o_iald (by decide +kernel)) ?_
  refine bz_ac (show bz_ok RL cL_law 146 (bz_aload 0 1) from bz_o_aload_n (k := 0) (i := 0) (by decide +kernel) rfl) ?_
  refine bz_ac (show bz_ok RL cL_law 147 (bz_iload 3 1) from bz_o_iload_n (k := 3) (i := 3) (by decide +kernel) rfl) ?_
  refine bz_ac (show bz_ok RL cL_law 148 (bz_push (.int 2) 1) from bz_o_iconst (n := 2) (v := 2) (by decide +kernel) (by decide)) ?_
  refine bz_ac (show bz_ok RL cL_law 149 (bz_iadd) from bz_o_iadd (by decide +kernel)) ?_
  refine bz_ac (show bz_ok RL cL_law 150 (bz_iald) from bz_o_iald (by decide +kernel)) ?_
  refine bz_ac (show bz_cok bz_P l RL cL_law 9 208 151 mX10_ball 3 10 from bz_cV' (own := RL) (idx := 13) (ci := 9) (N := 8) (T := TX10) (n := 2) bp_X10_ball bq_X10_ball (by decide +kernel) (bz_tb 309 (by decide +kernel) (by decide +kernel)) (bz_tb 310 (by decide +kernel) (by decide +kernel)) (bz_tb 311 (by decide +kernel) (by decide +kernel)) rfl rfl (by decide) (by decide)) ?_
  refine bz_ac (show bz_ok RL cL_law 154 (bz_aload 2 1) from bz_o_aload_n (k := 2) (i := 2) (by decide +kernel) rfl) ?_
  refine bz_ac (show bz_ok RL cL_law 155 (bz_aload 0 1) from bz_o_aload_n (k := 0) (i := 0) (by decide +kernel) rfl) ?_
  refine bz_ac (show bz_ok RL cL_law 156 (bz_iload 3 1) from bz_o_iload_n (k := 3) (i := 3) (by decide +kernel) rfl) ?_
  refine bz_ac (show bz_ok RL cL_law 157 (bz_push (.int 1) 1) from bz_o_iconst (n := 1) (v := 1) (by decide +kernel) (by decide)) ?_
  refine bz_ac (show bz_ok RL cL_law 158 (bz_iadd) from bz_o_iadd (by decide +kernel)) ?_
  refine bz_ac (show bz_ok RL cL_law 159 (bz_iald) from bz_o_iald (by decide +kernel)) ?_
  refine bz_ac (show bz_ok RL cL_law 160 (bz_aload 0 1) from bz_o_aload_n (k := 0) (i := 0) (by decide +kernel) rfl) ?_
  refine bz_ac (show bz_ok RL cL_law 161 (bz_iload 3 1) from bz_o_iload_n (k := 3) (i := 3) (by decide +kernel) rfl) ?_
  refine bz_ac (show bz_ok RL cL_law 162 (bz_push (.int 2) 1) from bz_o_iconst (n := 2) (v := 2) (by decide +kernel) (by decide)) ?_
  refine bz_ac (show bz_ok RL cL_law 163 (bz_iadd) from bz_o_iadd (by decide +kernel)) ?_
  refine bz_ac (show bz_ok RL cL_law 164 (bz_iald) from bz_o_iald (by decide +kernel)) ?_
  refine bz_ac (show bz_cok bz_P l RL cL_law 9 208 165 mX11_ball 3 11 from bz_cV' (own := RL) (idx := 17) (ci := 10) (N := 42) (T := TX11) (n := 2) bp_X11_ball bq_X11_ball (by decide +kernel) (bz_tb 801 (by decide +kernel) (by decide +kernel)) (bz_tb 802 (by decide +kernel) (by decide +kernel)) (bz_tb 803 (by decide +kernel) (by decide +kernel)) rfl rfl (by decide) (by decide)) ?_
  refine bz_ac (show bz_ok RL cL_law 168 (bz_ic_eq 832) from bz_o_ic_eq (off := 664) (t := 832) (by decide +kernel) (by decide)) ?_
  refine bz_ac (show bz_ok RL cL_law 171 (bz_push (.int 0) 1) from bz_o_iconst (n := 0) (v := 0) (by decide +kernel) (by decide)) ?_
  refine bz_ac (show bz_rok cL_law (some .boolean) 172 3 from Or.inr (Or.inr (Or.inr ⟨rfl, rfl, by decide +kernel⟩))) ?_
  refine bz_ac (show bz_ok RL cL_law 173 (bz_aload 1 1) from bz_o_aload_n (k := 1) (i := 1) (by decide +kernel) rfl) ?_
  refine bz_ac (show bz_ok RL cL_law 174 (bz_aload 0 1) from bz_o_aload_n (k := 0) (i := 0) (by decide +kernel) rfl) ?_
  refine bz_ac (show bz_ok RL cL_law 175 (bz_iload 3 1) from bz_o_iload_n (k := 3) (i := 3) (by decide +kernel) rfl) ?_
  refine bz_ac (show bz_ok RL cL_law 176 (bz_push (.int 1) 1) from bz_o_iconst (n := 1) (v := 1) (by decide +kernel) (by decide)) ?_
  refine bz_ac (show bz_ok RL cL_law 177 (bz_iadd) from bz_o_iadd (by decide +kernel)) ?_
  refine bz_ac (show bz_ok RL cL_law 178 (bz_iald) from bz_o_iald (by decide +kernel)) ?_
  refine bz_ac (show bz_ok RL cL_law 179 (bz_aload 0 1) from bz_o_aload_n (k := 0) (i := 0) (by decide +kernel) rfl) ?_
  refine bz_ac (show bz_ok RL cL_law 180 (bz_iload 3 1) from bz_o_iload_n (k := 3) (i := 3) (by decide +kernel) rfl) ?_
  refine bz_ac (show bz_ok RL cL_law 181 (bz_push (.int 2) 1) from bz_o_iconst (n := 2) (v := 2) (by decide +kernel) (by decide)) ?_
  refine bz_ac (show bz_ok RL cL_law 182 (bz_iadd) from bz_o_iadd (by decide +kernel)) ?_
  refine bz_ac (show bz_ok RL cL_law 183 (bz_iald) from bz_o_iald (by decide +kernel)) ?_
  refine bz_ac (show bz_cok bz_P l RL cL_law 9 208 184 mX10_score 3 10 from bz_cV' (own := RL) (idx := 18) (ci := 9) (N := 8) (T := TX10) (n := 2) bp_X10_score bq_X10_score (by decide +kernel) (bz_tb 341 (by decide +kernel) (by decide +kernel)) (bz_tb 342 (by decide +kernel) (by decide +kernel)) (bz_tb 343 (by decide +kernel) (by decide +kernel)) rfl rfl (by decide) (by decide)) ?_
  refine bz_ac (show bz_ok RL cL_law 187 (bz_aload 2 1) from bz_o_aload_n (k := 2) (i := 2) (by decide +kernel) rfl) ?_
  refine bz_ac (show bz_ok RL cL_law 188 (bz_aload 0 1) from bz_o_aload_n (k := 0) (i := 0) (by decide +kernel) rfl) ?_
  refine bz_ac (show bz_ok RL cL_law 189 (bz_iload 3 1) from bz_o_iload_n (k := 3) (i := 3) (by decide +kernel) rfl) ?_
  refine bz_ac (show bz_ok RL cL_law 190 (bz_push (.int 1) 1) from bz_o_iconst (n := 1) (v := 1) (by decide +kernel) (by decide)) ?_
  refine bz_ac (show bz_ok RL cL_law 191 (bz_iadd) from bz_o_iadd (by decide +kernel)) ?_
  refine bz_ac (show bz_ok RL cL_law 192 (bz_iald) from bz_o_iald (by decide +kernel)) ?_
  refine bz_ac (show bz_ok RL cL_law 193 (bz_aload 0 1) from bz_o_aload_n (k := 0) (i := 0) (by decide +kernel) rfl) ?_
  refine bz_ac (show bz_ok RL cL_law 194 (bz_iload 3 1) from bz_o_iload_n (k := 3) (i := 3) (by decide +kernel) rfl) ?_
  refine bz_ac (show bz_ok RL cL_law 195 (bz_push (.int 2) 1) from bz_o_iconst (n := 2) (v := 2) (by decide +kernel) (by decide)) ?_
  refine bz_ac (show bz_ok RL cL_law 196 (bz_iadd) from bz_o_iadd (by decide +kernel)) ?_
  refine bz_ac (show bz_ok RL cL_law 197 (bz_iald) from bz_o_iald (by decide +kernel)) ?_
  refine bz_ac (show bz_cok bz_P l RL cL_law 9 208 198 mX11_score 3 11 from bz_cV' (own := RL) (idx := 21) (ci := 10) (N := 42) (T := TX11) (n := 2) bp_X11_score bq_X11_score (by decide +kernel) (bz_tb 826 (by decide +kernel) (by decide +kernel)) (bz_tb 827 (by decide +kernel) (by decide +kernel)) (bz_tb 828 (by decide +kernel) (by decide +kernel)) rfl rfl (by decide) (by decide)) ?_
  refine bz_ac (show bz_ok RL cL_law 201 (bz_ic_eq 832) from bz_o_ic_eq (off := 631) (t := 832) (by decide +kernel) (by decide)) ?_
  refine bz_ac (show bz_ok RL cL_law 204 (bz_push (.int 0) 1) from bz_o_iconst (n := 0) (v := 0) (by decide +kernel) (by decide)) ?_
  refine bz_ac (show bz_rok cL_law (some .boolean) 205 3 from Or.inr (Or.inr (Or.inr ⟨rfl, rfl, by decide +kernel⟩))) ?_
  refine bz_ac (show bz_ok RL cL_law 206 (bz_aload 1 1) from bz_o_aload_n (k := 1) (i := 1) (by decide +kernel) rfl) ?_
  refine bz_ac (show bz_ok RL cL_law 207 (bz_aload 0 1) from bz_o_aload_n (k := 0) (i := 0) (by decide +kernel) rfl) ?_
  refine bz_ac (show bz_ok RL cL_law 208 (bz_iload 3 1) from bz_o_iload_n (k := 3) (i := 3) (by decide +kernel) rfl) ?_
  refine bz_ac (show bz_ok RL cL_law 209 (bz_push (.int 1) 1) from bz_o_iconst (n := 1) (v := 1) (by decide +kernel) (by decide)) ?_
  refine bz_ac (show bz_ok RL cL_law 210 (bz_iadd) from bz_o_iadd (by decide +kernel)) ?_
  refine bz_ac (show bz_ok RL cL_law 211 (bz_iald) from bz_o_iald (by decide +kernel)) ?_
  refine bz_ac (show bz_cok bz_P l RL cL_law 9 208 212 mX10_say 2 10 from bz_cV' (own := RL) (idx := 22) (ci := 9) (N := 8) (T := TX10) (n := 1) bp_X10_say bq_X10_say (by decide +kernel) (bz_tb 345 (by decide +kernel) (by decide +kernel)) (bz_tb 346 (by decide +kernel) (by decide +kernel)) (bz_tb 347 (by decide +kernel) (by decide +kernel)) rfl rfl (by decide) (by decide)) ?_
  refine bz_ac (show bz_ok RL cL_law 215 (bz_aload 2 1) from bz_o_aload_n (k := 2) (i := 2) (by decide +kernel) rfl) ?_
  refine bz_ac (show bz_ok RL cL_law 216 (bz_aload 0 1) from bz_o_aload_n (k := 0) (i := 0) (by decide +kernel) rfl) ?_
  refine bz_ac (show bz_ok RL cL_law 217 (bz_iload 3 1) from bz_o_iload_n (k := 3) (i := 3) (by decide +kernel) rfl) ?_
  refine bz_ac (show bz_ok RL cL_law 218 (bz_push (.int 1) 1) from bz_o_iconst (n := 1) (v := 1) (by decide +kernel) (by decide)) ?_
  refine bz_ac (show bz_ok RL cL_law 219 (bz_iadd) from bz_o_iadd (by decide +kernel)) ?_
  refine bz_ac (show bz_ok RL cL_law 220 (bz_iald) from bz_o_iald (by decide +kernel)) ?_
  refine bz_ac (show bz_cok bz_P l RL cL_law 9 208 221 mX11_say 2 11 from bz_cV' (own := RL) (idx := 26) (ci := 10) (N := 42) (T := TX11) (n := 1) bp_X11_say bq_X11_say (by decide +kernel) (bz_tb 831 (by decide +kernel) (by decide +kernel)) (bz_tb 832 (by decide +kernel) (by decide +kernel)) (bz_tb 833 (by decide +kernel) (by decide +kernel)) rfl rfl (by decide) (by decide)) ?_
  refine bz_ac (show bz_ok RL cL_law 224 (bz_ic_eq 832) from bz_o_ic_eq (off := 608) (t := 832) (by decide +kernel) (by decide)) ?_
  refine bz_ac (show bz_ok RL cL_law 227 (bz_push (.int 0) 1) from bz_o_iconst (n := 0) (v := 0) (by decide +kernel) (by decide)) ?_
  refine bz_ac (show bz_rok cL_law (some .boolean) 228 3 from Or.inr (Or.inr (Or.inr ⟨rfl, rfl, by decide +kernel⟩))) ?_
  refine bz_ac (show bz_ok RL cL_law 229 (bz_aload 1 1) from bz_o_aload_n (k := 1) (i := 1) (by decide +kernel) rfl) ?_
  refine bz_ac (show bz_cok bz_P l RL cL_law 9 208 230 mX10_wipe 1 10 from bz_cV' (own := RL) (idx := 27) (ci := 9) (N := 8) (T := TX10) (n := 0) bp_X10_wipe bq_X10_wipe (by decide +kernel) (bz_tb 353 (by decide +kernel) (by decide +kernel)) (bz_tb 354 (by decide +kernel) (by decide +kernel)) (bz_tb 355 (by decide +kernel) (by decide +kernel)) rfl rfl (by decide) (by decide)) ?_
  refine bz_ac (show bz_ok RL cL_law 233 (bz_aload 2 1) from bz_o_aload_n (k := 2) (i := 2) (by decide +kernel) rfl) ?_
  refine bz_ac (show bz_cok bz_P l RL cL_law 9 208 234 mX11_wipe 1 11 from bz_cV' (own := RL) (idx := 31) (ci := 10) (N := 42) (T := TX11) (n := 0) bp_X11_wipe bq_X11_wipe (by decide +kernel) (bz_tb 837 (by decide +kernel) (by decide +kernel)) (bz_tb 838 (by decide +kernel) (by decide +kernel)) (bz_tb 839 (by decide +kernel) (by decide +kernel)) rfl rfl (by decide) (by decide)) ?_
  refine bz_ac (show bz_ok RL cL_law 237 (bz_ic_eq 832) from bz_o_ic_eq (off := 595) (t := 832) (by decide +kernel) (by decide)) ?_
  refine bz_ac (show bz_ok RL cL_law 240 (bz_push (.int 0) 1) from bz_o_iconst (n := 0) (v := 0) (by decide +kernel) (by decide)) ?_
  refine bz_ac (show bz_rok cL_law (some .boolean) 241 3 from Or.inr (Or.inr (Or.inr ⟨rfl, rfl, by decide +kernel⟩))) ?_
  refine bz_ac (show bz_ok RL cL_law 242 (bz_aload 1 1) from bz_o_aload_n (k := 1) (i := 1) (by decide +kernel) rfl) ?_
  refine bz_ac (show bz_cok bz_P l RL cL_law 9 208 243 mX10_fault 1 10 from bz_cV' (own := RL) (idx := 32) (ci := 9) (N := 8) (T := TX10) (n := 0) bp_X10_fault bq_X10_fault (by decide +kernel) (bz_tb 361 (by decide +kernel) (by decide +kernel)) (bz_tb 362 (by decide +kernel) (by decide +kernel)) (bz_tb 363 (by decide +kernel) (by decide +kernel)) rfl rfl (by decide) (by decide)) ?_
  refine bz_ac (show bz_ok RL cL_law 246 (bz_aload 2 1) from bz_o_aload_n (k := 2) (i := 2) (by decide +kernel) rfl) ?_
  refine bz_ac (show bz_cok bz_P l RL cL_law 9 208 247 mX11_fault 1 11 from bz_cV' (own := RL) (idx := 35) (ci := 10) (N := 42) (T := TX11) (n := 0) bp_X11_fault bq_X11_fault (by decide +kernel) (bz_tb 841 (by decide +kernel) (by decide +kernel)) (bz_tb 842 (by decide +kernel) (by decide +kernel)) (bz_tb 843 (by decide +kernel) (by decide +kernel)) rfl rfl (by decide) (by decide)) ?_
  refine bz_ac (show bz_ok RL cL_law 250 (bz_ic_eq 832) from bz_o_ic_eq (off := 582) (t := 832) (by decide +kernel) (by decide)) ?_
  refine bz_ac (show bz_ok RL cL_law 253 (bz_push (.int 0) 1) from bz_o_iconst (n := 0) (v := 0) (by decide +kernel) (by decide)) ?_
  refine bz_ac (show bz_rok cL_law (some .boolean) 254 3 from Or.inr (Or.inr (Or.inr ⟨rfl, rfl, by decide +kernel⟩))) ?_
  refine bz_ac (show bz_ok RL cL_law 255 (bz_aload 1 1) from bz_o_aload_n (k := 1) (i := 1) (by decide +kernel) rfl) ?_
  refine bz_ac (show bz_ok RL cL_law 256 (bz_aload 0 1) from bz_o_aload_n (k := 0) (i := 0) (by decide +kernel) rfl) ?_
  refine bz_ac (show bz_ok RL cL_law 257 (bz_iload 3 1) from bz_o_iload_n (k := 3) (i := 3) (by decide +kernel) rfl) ?_
  refine bz_ac (show bz_ok RL cL_law 258 (bz_push (.int 1) 1) from bz_o_iconst (n := 1) (v := 1) (by decide +kernel) (by decide)) ?_
  refine bz_ac (show bz_ok RL cL_law 259 (bz_iadd) from bz_o_iadd (by decide +kernel)) ?_
  refine bz_ac (show bz_ok RL cL_law 260 (bz_iald) from bz_o_iald (by decide +kernel)) ?_
  refine bz_ac (show bz_cok bz_P l RL cL_law 9 208 261 mX10_judge 2 10 from bz_cV' (own := RL) (idx := 36) (ci := 9) (N := 8) (T := TX10) (n := 1) bp_X10_judge bq_X10_judge (by decide +kernel) (bz_tb 379 (by decide +kernel) (by decide +kernel)) (bz_tb 380 (by decide +kernel) (by decide +kernel)) (bz_tb 381 (by decide +kernel) (by decide +kernel)) rfl rfl (by decide) (by decide)) ?_
  refine bz_ac (show bz_ok RL cL_law 264 (bz_aload 2 1) from bz_o_aload_n (k := 2) (i := 2) (by decide +kernel) rfl) ?_
  refine bz_ac (show bz_ok RL cL_law 265 (bz_aload 0 1) from bz_o_aload_n (k := 0) (i := 0) (by decide +kernel) rfl) ?_
  refine bz_ac (show bz_ok RL cL_law 266 (bz_iload 3 1) from bz_o_iload_n (k := 3) (i := 3) (by decide +kernel) rfl) ?_
  refine bz_ac (show bz_ok RL cL_law 267 (bz_push (.int 1) 1) from bz_o_iconst (n := 1) (v := 1) (by decide +kernel) (by decide)) ?_
  refine bz_ac (show bz_ok RL cL_law 268 (bz_iadd) from bz_o_iadd (by decide +kernel)) ?_
  refine bz_ac (show bz_ok RL cL_law 269 (bz_iald) from bz_o_iald (by decide +kernel)) ?_
  refine bz_ac (show bz_cok bz_P l RL cL_law 9 208 270 mX11_judge 2 11 from bz_cV' (own := RL) (idx := 39) (ci := 10) (N := 42) (T := TX11) (n := 1) bp_X11_judge bq_X11_judge (by decide +kernel) (bz_tb 871 (by decide +kernel) (by decide +kernel)) (bz_tb 872 (by decide +kernel) (by decide +kernel)) (bz_tb 873 (by decide +kernel) (by decide +kernel)) rfl rfl (by decide) (by decide)) ?_
  refine bz_ac (show bz_ok RL cL_law 273 (bz_ic_eq 832) from bz_o_ic_eq (off := 559) (t := 832) (by decide +kernel) (by decide)) ?_
  refine bz_ac (show bz_ok RL cL_law 276 (bz_push (.int 0) 1) from bz_o_iconst (n := 0) (v := 0) (by decide +kernel) (by decide)) ?_
  refine bz_ac (show bz_rok cL_law (some .boolean) 277 3 from Or.inr (Or.inr (Or.inr ⟨rfl, rfl, by decide +kernel⟩))) ?_
  refine bz_ac (show bz_ok RL cL_law 278 (bz_aload 1 1) from bz_o_aload_n (k := 1) (i := 1) (by decide +kernel) rfl) ?_
  refine bz_ac (show bz_ok RL cL_law 279 (bz_aload 0 1) from bz_o_aload_n (k := 0) (i := 0) (by decide +kernel) rfl) ?_
  refine bz_ac (show bz_ok RL cL_law 280 (bz_iload 3 1) from bz_o_iload_n (k := 3) (i := 3) (by decide +kernel) rfl) ?_
  refine bz_ac (show bz_ok RL cL_law 281 (bz_push (.int 1) 1) from bz_o_iconst (n := 1) (v := 1) (by decide +kernel) (by decide)) ?_
  refine bz_ac (show bz_ok RL cL_law 282 (bz_iadd) from bz_o_iadd (by decide +kernel)) ?_
  refine bz_ac (show bz_ok RL cL_law 283 (bz_iald) from bz_o_iald (by decide +kernel)) ?_
  refine bz_ac (show bz_cok bz_P l RL cL_law 9 208 284 mX10_behind 2 10 from bz_cV' (own := RL) (idx := 40) (ci := 9) (N := 8) (T := TX10) (n := 1) bp_X10_behind bq_X10_behind (by decide +kernel) (bz_tb 468 (by decide +kernel) (by decide +kernel)) (bz_tb 469 (by decide +kernel) (by decide +kernel)) (bz_tb 470 (by decide +kernel) (by decide +kernel)) rfl rfl (by decide) (by decide)) ?_
  refine bz_ac (show bz_ok RL cL_law 287 (bz_aload 2 1) from bz_o_aload_n (k := 2) (i := 2) (by decide +kernel) rfl) ?_
  refine bz_ac (show bz_ok RL cL_law 288 (bz_aload 0 1) from bz_o_aload_n (k := 0) (i := 0) (by decide +kernel) rfl) ?_
  refine bz_ac (show bz_ok RL cL_law 289 (bz_iload 3 1) from bz_o_iload_n (k := 3) (i := 3) (by decide +kernel) rfl) ?_
  refine bz_ac (show bz_ok RL cL_law 290 (bz_push (.int 1) 1) from bz_o_iconst (n := 1) (v := 1) (by decide +kernel) (by decide)) ?_
  refine bz_ac (show bz_ok RL cL_law 291 (bz_iadd) from bz_o_iadd (by decide +kernel)) ?_
  refine bz_ac (show bz_ok RL cL_law 292 (bz_iald) from bz_o_iald (by decide +kernel)) ?_
  refine bz_ac (show bz_cok bz_P l RL cL_law 9 208 293 mX11_behind 2 11 from bz_cV' (own := RL) (idx := 43) (ci := 10) (N := 42) (T := TX11) (n := 1) bp_X11_behind bq_X11_behind (by decide +kernel) (bz_tb 941 (by decide +kernel) (by decide +kernel)) (bz_tb 942 (by decide +kernel) (by decide +kernel)) (bz_tb 943 (by decide +kernel) (by decide +kernel)) rfl rfl (by decide) (by decide)) ?_
  refine bz_ac (show bz_ok RL cL_law 296 (bz_ic_eq 832) from bz_o_ic_eq (off := 536) (t := 832) (by decide +kernel) (by decide)) ?_
  refine bz_ac (show bz_ok RL cL_law 299 (bz_push (.int 0) 1) from bz_o_iconst (n := 0) (v := 0) (by decide +kernel) (by decide)) ?_
  refine bz_ac (show bz_rok cL_law (some .boolean) 300 3 from Or.inr (Or.inr (Or.inr ⟨rfl, rfl, by decide +kernel⟩))) ?_
  refine bz_ac (show bz_ok RL cL_law 301 (bz_aload 1 1) from bz_o_aload_n (k := 1) (i := 1) (by decide +kernel) rfl) ?_
  refine bz_ac (show bz_ok RL cL_law 302 (bz_aload 0 1) from bz_o_aload_n (k := 0) (i := 0) (by decide +kernel) rfl) ?_
  refine bz_ac (show bz_ok RL cL_law 303 (bz_iload 3 1) from bz_o_iload_n (k := 3) (i := 3) (by decide +kernel) rfl) ?_
  refine bz_ac (show bz_ok RL cL_law 304 (bz_push (.int 1) 1) from bz_o_iconst (n := 1) (v := 1) (by decide +kernel) (by decide)) ?_
  refine bz_ac (show bz_ok RL cL_law 305 (bz_iadd) from bz_o_iadd (by decide +kernel)) ?_
  refine bz_ac (show bz_ok RL cL_law 306 (bz_iald) from bz_o_iald (by decide +kernel)) ?_
  refine bz_ac (show bz_cok bz_P l RL cL_law 9 208 307 mX10_table 2 10 from bz_cV' (own := RL) (idx := 44) (ci := 9) (N := 8) (T := TX10) (n := 1) bp_X10_table bq_X10_table (by decide +kernel) (bz_tb 472 (by decide +kernel) (by decide +kernel)) (bz_tb 473 (by decide +kernel) (by decide +kernel)) (bz_tb 474 (by decide +kernel) (by decide +kernel)) rfl rfl (by decide) (by decide)) ?_
  refine bz_ac (show bz_ok RL cL_law 310 (bz_aload 2 1) from bz_o_aload_n (k := 2) (i := 2) (by decide +kernel) rfl) ?_
  refine bz_ac (show bz_ok RL cL_law 311 (bz_aload 0 1) from bz_o_aload_n (k := 0) (i := 0) (by decide +kernel) rfl) ?_
  refine bz_ac (show bz_ok RL cL_law 312 (bz_iload 3 1) from bz_o_iload_n (k := 3) (i := 3) (by decide +kernel) rfl) ?_
  refine bz_ac (show bz_ok RL cL_law 313 (bz_push (.int 1) 1) from bz_o_iconst (n := 1) (v := 1) (by decide +kernel) (by decide)) ?_
  refine bz_ac (show bz_ok RL cL_law 314 (bz_iadd) from bz_o_iadd (by decide +kernel)) ?_
  refine bz_ac (show bz_ok RL cL_law 315 (bz_iald) from bz_o_iald (by decide +kernel)) ?_
  refine bz_ac (show bz_cok bz_P l RL cL_law 9 208 316 mX11_table 2 11 from bz_cV' (own := RL) (idx := 47) (ci := 10) (N := 42) (T := TX11) (n := 1) bp_X11_table bq_X11_table (by decide +kernel) (bz_tb 945 (by decide +kernel) (by decide +kernel)) (bz_tb 946 (by decide +kernel) (by decide +kernel)) (bz_tb 947 (by decide +kernel) (by decide +kernel)) rfl rfl (by decide) (by decide)) ?_
  refine bz_ac (show bz_ok RL cL_law 319 (bz_ic_eq 832) from bz_o_ic_eq (off := 513) (t := 832) (by decide +kernel) (by decide)) ?_
  refine bz_ac (show bz_ok RL cL_law 322 (bz_push (.int 0) 1) from bz_o_iconst (n := 0) (v := 0) (by decide +kernel) (by decide)) ?_
  refine bz_ac (show bz_rok cL_law (some .boolean) 323 3 from Or.inr (Or.inr (Or.inr ⟨rfl, rfl, by decide +kernel⟩))) ?_
  refine bz_ac (show bz_ok RL cL_law 324 (bz_aload 1 1) from bz_o_aload_n (k := 1) (i := 1) (by decide +kernel) rfl) ?_
  refine bz_ac (show bz_ok RL cL_law 325 (bz_aload 0 1) from bz_o_aload_n (k := 0) (i := 0) (by decide +kernel) rfl) ?_
  refine bz_ac (show bz_ok RL cL_law 326 (bz_iload 3 1) from bz_o_iload_n (k := 3) (i := 3) (by decide +kernel) rfl) ?_
  refine bz_ac (show bz_ok RL cL_law 327 (bz_push (.int 1) 1) from bz_o_iconst (n := 1) (v := 1) (by decide +kernel) (by decide)) ?_
  refine bz_ac (show bz_ok RL cL_law 328 (bz_iadd) from bz_o_iadd (by decide +kernel)) ?_
  refine bz_ac (show bz_ok RL cL_law 329 (bz_iald) from bz_o_iald (by decide +kernel)) ?_
  refine bz_ac (show bz_cok bz_P l RL cL_law 9 208 330 mX10_candour 2 10 from bz_cV' (own := RL) (idx := 48) (ci := 9) (N := 8) (T := TX10) (n := 1) bp_X10_candour bq_X10_candour (by decide +kernel) (bz_tb 480 (by decide +kernel) (by decide +kernel)) (bz_tb 481 (by decide +kernel) (by decide +kernel)) (bz_tb 482 (by decide +kernel) (by decide +kernel)) rfl rfl (by decide) (by decide)) ?_
  refine bz_ac (show bz_ok RL cL_law 333 (bz_aload 2 1) from bz_o_aload_n (k := 2) (i := 2) (by decide +kernel) rfl) ?_
  refine bz_ac (show bz_ok RL cL_law 334 (bz_aload 0 1) from bz_o_aload_n (k := 0) (i := 0) (by decide +kernel) rfl) ?_
  refine bz_ac (show bz_ok RL cL_law 335 (bz_iload 3 1) from bz_o_iload_n (k := 3) (i := 3) (by decide +kernel) rfl) ?_
  refine bz_ac (show bz_ok RL cL_law 336 (bz_push (.int 1) 1) from bz_o_iconst (n := 1) (v := 1) (by decide +kernel) (by decide)) ?_
  refine bz_ac (show bz_ok RL cL_law 337 (bz_iadd) from bz_o_iadd (by decide +kernel)) ?_
  refine bz_ac (show bz_ok RL cL_law 338 (bz_iald) from bz_o_iald (by decide +kernel)) ?_
  refine bz_ac (show bz_cok bz_P l RL cL_law 9 208 339 mX11_candour 2 11 from bz_cV' (own := RL) (idx := 51) (ci := 10) (N := 42) (T := TX11) (n := 1) bp_X11_candour bq_X11_candour (by decide +kernel) (bz_tb 954 (by decide +kernel) (by decide +kernel)) (bz_tb 955 (by decide +kernel) (by decide +kernel)) (bz_tb 956 (by decide +kernel) (by decide +kernel)) rfl rfl (by decide) (by decide)) ?_
  refine bz_ac (show bz_ok RL cL_law 342 (bz_ic_eq 832) from bz_o_ic_eq (off := 490) (t := 832) (by decide +kernel) (by decide)) ?_
  refine bz_ac (show bz_ok RL cL_law 345 (bz_push (.int 0) 1) from bz_o_iconst (n := 0) (v := 0) (by decide +kernel) (by decide)) ?_
  refine bz_ac (show bz_rok cL_law (some .boolean) 346 3 from Or.inr (Or.inr (Or.inr ⟨rfl, rfl, by decide +kernel⟩))) ?_
  refine bz_ac (show bz_ok RL cL_law 347 (bz_aload 1 1) from bz_o_aload_n (k := 1) (i := 1) (by decide +kernel) rfl) ?_
  refine bz_ac (show bz_cok bz_P l RL cL_law 9 208 348 mX10_done 1 10 from bz_cV' (own := RL) (idx := 52) (ci := 9) (N := 8) (T := TX10) (n := 0) bp_X10_done bq_X10_done (by decide +kernel) (bz_tb 484 (by decide +kernel) (by decide +kernel)) (bz_tb 485 (by decide +kernel) (by decide +kernel)) (bz_tb 486 (by decide +kernel) (by decide +kernel)) rfl rfl (by decide) (by decide)) ?_
  refine bz_ac (show bz_ok RL cL_law 351 (bz_aload 2 1) from bz_o_aload_n (k := 2) (i := 2) (by decide +kernel) rfl) ?_
  refine bz_ac (show bz_cok bz_P l RL cL_law 9 208 352 mX11_done 1 11 from bz_cV' (own := RL) (idx := 55) (ci := 10) (N := 42) (T := TX11) (n := 0) bp_X11_done bq_X11_done (by decide +kernel) (bz_tb 958 (by decide +kernel) (by decide +kernel)) (bz_tb 959 (by decide +kernel) (by decide +kernel)) (bz_tb 960 (by decide +kernel) (by decide +kernel)) rfl rfl (by decide) (by decide)) ?_
  refine bz_ac (show bz_ok RL cL_law 355 (bz_ic_eq 832) from bz_o_ic_eq (off := 477) (t := 832) (by decide +kernel) (by decide)) ?_
  refine bz_ac (show bz_ok RL cL_law 358 (bz_push (.int 0) 1) from bz_o_iconst (n := 0) (v := 0) (by decide +kernel) (by decide)) ?_
  refine bz_ac (show bz_rok cL_law (some .boolean) 359 3 from Or.inr (Or.inr (Or.inr ⟨rfl, rfl, by decide +kernel⟩))) ?_
  refine bz_ac (show bz_ok RL cL_law 360 (bz_aload 1 1) from bz_o_aload_n (k := 1) (i := 1) (by decide +kernel) rfl) ?_
  refine bz_ac (show bz_ok RL cL_law 361 (bz_aload 0 1) from bz_o_aload_n (k := 0) (i := 0) (by decide +kernel) rfl) ?_
  refine bz_ac (show bz_ok RL cL_law 362 (bz_iload 3 1) from bz_o_iload_n (k := 3) (i := 3) (by decide +kernel) rfl) ?_
  refine bz_ac (show bz_ok RL cL_law 363 (bz_push (.int 1) 1) from bz_o_iconst (n := 1) (v := 1) (by decide +kernel) (by decide)) ?_
  refine bz_ac (show bz_ok RL cL_law 364 (bz_iadd) from bz_o_iadd (by decide +kernel)) ?_
  refine bz_ac (show bz_ok RL cL_law 365 (bz_iald) from bz_o_iald (by decide +kernel)) ?_
  refine bz_ac (show bz_ok RL cL_law 366 (bz_aload 0 1) from bz_o_aload_n (k := 0) (i := 0) (by decide +kernel) rfl) ?_
  refine bz_ac (show bz_ok RL cL_law 367 (bz_iload 3 1) from bz_o_iload_n (k := 3) (i := 3) (by decide +kernel) rfl) ?_
  refine bz_ac (show bz_ok RL cL_law 368 (bz_push (.int 2) 1) from bz_o_iconst (n := 2) (v := 2) (by decide +kernel) (by decide)) ?_
  refine bz_ac (show bz_ok RL cL_law 369 (bz_iadd) from bz_o_iadd (by decide +kernel)) ?_
  refine bz_ac (show bz_ok RL cL_law 370 (bz_iald) from bz_o_iald (by decide +kernel)) ?_
  refine bz_ac (show bz_ok RL cL_law 371 (bz_aload 0 1) from bz_o_aload_n (k := 0) (i := 0) (by decide +kernel) rfl) ?_
  refine bz_ac (show bz_ok RL cL_law 372 (bz_iload 3 1) from bz_o_iload_n (k := 3) (i := 3) (by decide +kernel) rfl) ?_
  refine bz_ac (show bz_ok RL cL_law 373 (bz_push (.int 3) 1) from bz_o_iconst (n := 3) (v := 3) (by decide +kernel) (by decide)) ?_
  refine bz_ac (show bz_ok RL cL_law 374 (bz_iadd) from bz_o_iadd (by decide +kernel)) ?_
  refine bz_ac (show bz_ok RL cL_law 375 (bz_iald) from bz_o_iald (by decide +kernel)) ?_
  refine bz_ac (show bz_ok RL cL_law 376 (bz_aload 0 1) from bz_o_aload_n (k := 0) (i := 0) (by decide +kernel) rfl) ?_
  refine bz_ac (show bz_ok RL cL_law 377 (bz_iload 3 1) from bz_o_iload_n (k := 3) (i := 3) (by decide +kernel) rfl) ?_
  refine bz_ac (show bz_ok RL cL_law 378 (bz_push (.int 4) 1) from bz_o_iconst (n := 4) (v := 4) (by decide +kernel) (by decide)) ?_
  refine bz_ac (show bz_ok RL cL_law 379 (bz_iadd) from bz_o_iadd (by decide +kernel)) ?_
  refine bz_ac (show bz_ok RL cL_law 380 (bz_iald) from bz_o_iald (by decide +kernel)) ?_
  refine bz_ac (show bz_cok bz_P l RL cL_law 9 208 381 mX10_hint 5 10 from bz_cV' (own := RL) (idx := 56) (ci := 9) (N := 8) (T := TX10) (n := 4) bp_X10_hint bq_X10_hint (by decide +kernel) (bz_tb 489 (by decide +kernel) (by decide +kernel)) (bz_tb 490 (by decide +kernel) (by decide +kernel)) (bz_tb 491 (by decide +kernel) (by decide +kernel)) rfl rfl (by decide) (by decide)) ?_
  refine bz_ac (show bz_ok RL cL_law 384 (bz_aload 2 1) from bz_o_aload_n (k := 2) (i := 2) (by decide +kernel) rfl) ?_
  refine bz_ac (show bz_ok RL cL_law 385 (bz_aload 0 1) from bz_o_aload_n (k := 0) (i := 0) (by decide +kernel) rfl) ?_
  refine bz_ac (show bz_ok RL cL_law 386 (bz_iload 3 1) from bz_o_iload_n (k := 3) (i := 3) (by decide +kernel) rfl) ?_
  refine bz_ac (show bz_ok RL cL_law 387 (bz_push (.int 1) 1) from bz_o_iconst (n := 1) (v := 1) (by decide +kernel) (by decide)) ?_
  refine bz_ac (show bz_ok RL cL_law 388 (bz_iadd) from bz_o_iadd (by decide +kernel)) ?_
  refine bz_ac (show bz_ok RL cL_law 389 (bz_iald) from bz_o_iald (by decide +kernel)) ?_
  refine bz_ac (show bz_ok RL cL_law 390 (bz_aload 0 1) from bz_o_aload_n (k := 0) (i := 0) (by decide +kernel) rfl) ?_
  refine bz_ac (show bz_ok RL cL_law 391 (bz_iload 3 1) from bz_o_iload_n (k := 3) (i := 3) (by decide +kernel) rfl) ?_
  refine bz_ac (show bz_ok RL cL_law 392 (bz_push (.int 2) 1) from bz_o_iconst (n := 2) (v := 2) (by decide +kernel) (by decide)) ?_
  refine bz_ac (show bz_ok RL cL_law 393 (bz_iadd) from bz_o_iadd (by decide +kernel)) ?_
  refine bz_ac (show bz_ok RL cL_law 394 (bz_iald) from bz_o_iald (by decide +kernel)) ?_
  refine bz_ac (show bz_ok RL cL_law 395 (bz_aload 0 1) from bz_o_aload_n (k := 0) (i := 0) (by decide +kernel) rfl) ?_
  refine bz_ac (show bz_ok RL cL_law 396 (bz_iload 3 1) from bz_o_iload_n (k := 3) (i := 3) (by decide +kernel) rfl) ?_
  refine bz_ac (show bz_ok RL cL_law 397 (bz_push (.int 3) 1) from bz_o_iconst (n := 3) (v := 3) (by decide +kernel) (by decide)) ?_
  refine bz_ac (show bz_ok RL cL_law 398 (bz_iadd) from bz_o_iadd (by decide +kernel)) ?_
  refine bz_ac (show bz_ok RL cL_law 399 (bz_iald) from bz_o_iald (by decide +kernel)) ?_
  refine bz_ac (show bz_ok RL cL_law 400 (bz_aload 0 1) from bz_o_aload_n (k := 0) (i := 0) (by decide +kernel) rfl) ?_
  refine bz_ac (show bz_ok RL cL_law 401 (bz_iload 3 1) from bz_o_iload_n (k := 3) (i := 3) (by decide +kernel) rfl) ?_
  refine bz_ac (show bz_ok RL cL_law 402 (bz_push (.int 4) 1) from bz_o_iconst (n := 4) (v := 4) (by decide +kernel) (by decide)) ?_
  refine bz_ac (show bz_ok RL cL_law 403 (bz_iadd) from bz_o_iadd (by decide +kernel)) ?_
  refine bz_ac (show bz_ok RL cL_law 404 (bz_iald) from bz_o_iald (by decide +kernel)) ?_
  refine bz_ac (show bz_cok bz_P l RL cL_law 9 208 405 mX11_hint 5 11 from bz_cV' (own := RL) (idx := 60) (ci := 10) (N := 42) (T := TX11) (n := 4) bp_X11_hint bq_X11_hint (by decide +kernel) (bz_tb 962 (by decide +kernel) (by decide +kernel)) (bz_tb 963 (by decide +kernel) (by decide +kernel)) (bz_tb 964 (by decide +kernel) (by decide +kernel)) rfl rfl (by decide) (by decide)) ?_
  refine bz_ac (show bz_ok RL cL_law 408 (bz_ic_eq 832) from bz_o_ic_eq (off := 424) (t := 832) (by decide +kernel) (by decide)) ?_
  refine bz_ac (show bz_ok RL cL_law 411 (bz_push (.int 0) 1) from bz_o_iconst (n := 0) (v := 0) (by decide +kernel) (by decide)) ?_
  refine bz_ac (show bz_rok cL_law (some .boolean) 412 3 from Or.inr (Or.inr (Or.inr ⟨rfl, rfl, by decide +kernel⟩))) ?_
  refine bz_ac (show bz_ok RL cL_law 413 (bz_aload 1 1) from bz_o_aload_n (k := 1) (i := 1) (by decide +kernel) rfl) ?_
  refine bz_ac (show bz_ok RL cL_law 414 (bz_aload 0 1) from bz_o_aload_n (k := 0) (i := 0) (by decide +kernel) rfl) ?_
  refine bz_ac (show bz_ok RL cL_law 415 (bz_iload 3 1) from bz_o_iload_n (k := 3) (i := 3) (by decide +kernel) rfl) ?_
  refine bz_ac (show bz_ok RL cL_law 416 (bz_push (.int 1) 1) from bz_o_iconst (n := 1) (v := 1) (by decide +kernel) (by decide)) ?_
  refine bz_ac (show bz_ok RL cL_law 417 (bz_iadd) from bz_o_iadd (by decide +kernel)) ?_
  refine bz_ac (show bz_ok RL cL_law 418 (bz_iald) from bz_o_iald (by decide +kernel)) ?_
  refine bz_ac (show bz_ok RL cL_law 419 (bz_aload 0 1) from bz_o_aload_n (k := 0) (i := 0) (by decide +kernel) rfl) ?_
  refine bz_ac (show bz_ok RL cL_law 420 (bz_iload 3 1) from bz_o_iload_n (k := 3) (i := 3) (by decide +kernel) rfl) ?_
  refine bz_ac (show bz_ok RL cL_law 421 (bz_push (.int 2) 1) from bz_o_iconst (n := 2) (v := 2) (by decide +kernel) (by decide)) ?_
  refine bz_ac (show bz_ok RL cL_law 422 (bz_iadd) from bz_o_iadd (by decide +kernel)) ?_
  refine bz_ac (show bz_ok RL cL_law 423 (bz_iald) from bz_o_iald (by decide +kernel)) ?_
  refine bz_ac (show bz_ok RL cL_law 424 (bz_aload 0 1) from bz_o_aload_n (k := 0) (i := 0) (by decide +kernel) rfl) ?_
  refine bz_ac (show bz_ok RL cL_law 425 (bz_iload 3 1) from bz_o_iload_n (k := 3) (i := 3) (by decide +kernel) rfl) ?_
  refine bz_ac (show bz_ok RL cL_law 426 (bz_push (.int 3) 1) from bz_o_iconst (n := 3) (v := 3) (by decide +kernel) (by decide)) ?_
  refine bz_ac (show bz_ok RL cL_law 427 (bz_iadd) from bz_o_iadd (by decide +kernel)) ?_
  refine bz_ac (show bz_ok RL cL_law 428 (bz_iald) from bz_o_iald (by decide +kernel)) ?_
  refine bz_ac (show bz_ok RL cL_law 429 (bz_aload 0 1) from bz_o_aload_n (k := 0) (i := 0) (by decide +kernel) rfl) ?_
  refine bz_ac (show bz_ok RL cL_law 430 (bz_iload 3 1) from bz_o_iload_n (k := 3) (i := 3) (by decide +kernel) rfl) ?_
  refine bz_ac (show bz_ok RL cL_law 431 (bz_push (.int 4) 1) from bz_o_iconst (n := 4) (v := 4) (by decide +kernel) (by decide)) ?_
  refine bz_ac (show bz_ok RL cL_law 432 (bz_iadd) from bz_o_iadd (by decide +kernel)) ?_
  refine bz_ac (show bz_ok RL cL_law 433 (bz_iald) from bz_o_iald (by decide +kernel)) ?_
  refine bz_ac (show bz_cok bz_P l RL cL_law 9 208 434 mX10_alone 5 10 from bz_cV' (own := RL) (idx := 61) (ci := 9) (N := 8) (T := TX10) (n := 4) bp_X10_alone bq_X10_alone (by decide +kernel) (bz_tb 498 (by decide +kernel) (by decide +kernel)) (bz_tb 499 (by decide +kernel) (by decide +kernel)) (bz_tb 500 (by decide +kernel) (by decide +kernel)) rfl rfl (by decide) (by decide)) ?_
  refine bz_ac (show bz_ok RL cL_law 437 (bz_aload 2 1) from bz_o_aload_n (k := 2) (i := 2) (by decide +kernel) rfl) ?_
  refine bz_ac (show bz_ok RL cL_law 438 (bz_aload 0 1) from bz_o_aload_n (k := 0) (i := 0) (by decide +kernel) rfl) ?_
  refine bz_ac (show bz_ok RL cL_law 439 (bz_iload 3 1) from bz_o_iload_n (k := 3) (i := 3) (by decide +kernel) rfl) ?_
  refine bz_ac (show bz_ok RL cL_law 440 (bz_push (.int 1) 1) from bz_o_iconst (n := 1) (v := 1) (by decide +kernel) (by decide)) ?_
  refine bz_ac (show bz_ok RL cL_law 441 (bz_iadd) from bz_o_iadd (by decide +kernel)) ?_
  refine bz_ac (show bz_ok RL cL_law 442 (bz_iald) from bz_o_iald (by decide +kernel)) ?_
  refine bz_ac (show bz_ok RL cL_law 443 (bz_aload 0 1) from bz_o_aload_n (k := 0) (i := 0) (by decide +kernel) rfl) ?_
  refine bz_ac (show bz_ok RL cL_law 444 (bz_iload 3 1) from bz_o_iload_n (k := 3) (i := 3) (by decide +kernel) rfl) ?_
  refine bz_ac (show bz_ok RL cL_law 445 (bz_push (.int 2) 1) from bz_o_iconst (n := 2) (v := 2) (by decide +kernel) (by decide)) ?_
  refine bz_ac (show bz_ok RL cL_law 446 (bz_iadd) from bz_o_iadd (by decide +kernel)) ?_
  refine bz_ac (show bz_ok RL cL_law 447 (bz_iald) from bz_o_iald (by decide +kernel)) ?_
  refine bz_ac (show bz_ok RL cL_law 448 (bz_aload 0 1) from bz_o_aload_n (k := 0) (i := 0) (by decide +kernel) rfl) ?_
  refine bz_ac (show bz_ok RL cL_law 449 (bz_iload 3 1) from bz_o_iload_n (k := 3) (i := 3) (by decide +kernel) rfl) ?_
  refine bz_ac (show bz_ok RL cL_law 450 (bz_push (.int 3) 1) from bz_o_iconst (n := 3) (v := 3) (by decide +kernel) (by decide)) ?_
  refine bz_ac (show bz_ok RL cL_law 451 (bz_iadd) from bz_o_iadd (by decide +kernel)) ?_
  refine bz_ac (show bz_ok RL cL_law 452 (bz_iald) from bz_o_iald (by decide +kernel)) ?_
  refine bz_ac (show bz_ok RL cL_law 453 (bz_aload 0 1) from bz_o_aload_n (k := 0) (i := 0) (by decide +kernel) rfl) ?_
  refine bz_ac (show bz_ok RL cL_law 454 (bz_iload 3 1) from bz_o_iload_n (k := 3) (i := 3) (by decide +kernel) rfl) ?_
  refine bz_ac (show bz_ok RL cL_law 455 (bz_push (.int 4) 1) from bz_o_iconst (n := 4) (v := 4) (by decide +kernel) (by decide)) ?_
  refine bz_ac (show bz_ok RL cL_law 456 (bz_iadd) from bz_o_iadd (by decide +kernel)) ?_
  refine bz_ac (show bz_ok RL cL_law 457 (bz_iald) from bz_o_iald (by decide +kernel)) ?_
  refine bz_ac (show bz_cok bz_P l RL cL_law 9 208 458 mX11_alone 5 11 from bz_cV' (own := RL) (idx := 64) (ci := 10) (N := 42) (T := TX11) (n := 4) bp_X11_alone bq_X11_alone (by decide +kernel) (bz_tb 970 (by decide +kernel) (by decide +kernel)) (bz_tb 971 (by decide +kernel) (by decide +kernel)) (bz_tb 972 (by decide +kernel) (by decide +kernel)) rfl rfl (by decide) (by decide)) ?_
  refine bz_ac (show bz_ok RL cL_law 461 (bz_ic_eq 832) from bz_o_ic_eq (off := 371) (t := 832) (by decide +kernel) (by decide)) ?_
  refine bz_ac (show bz_ok RL cL_law 464 (bz_push (.int 0) 1) from bz_o_iconst (n := 0) (v := 0) (by decide +kernel) (by decide)) ?_
  refine bz_ac (show bz_rok cL_law (some .boolean) 465 3 from Or.inr (Or.inr (Or.inr ⟨rfl, rfl, by decide +kernel⟩))) ?_
  refine bz_ac (show bz_ok RL cL_law 466 (bz_aload 1 1) from bz_o_aload_n (k := 1) (i := 1) (by decide +kernel) rfl) ?_
  refine bz_ac (show bz_ok RL cL_law 467 (bz_aload 0 1) from bz_o_aload_n (k := 0) (i := 0) (by decide +kernel) rfl) ?_
  refine bz_ac (show bz_ok RL cL_law 468 (bz_iload 3 1) from bz_o_iload_n (k := 3) (i := 3) (by decide +kernel) rfl) ?_
  refine bz_ac (show bz_ok RL cL_law 469 (bz_push (.int 1) 1) from bz_o_iconst (n := 1) (v := 1) (by decide +kernel) (by decide)) ?_
  refine bz_ac (show bz_ok RL cL_law 470 (bz_iadd) from bz_o_iadd (by decide +kernel)) ?_
  refine bz_ac (show bz_ok RL cL_law 471 (bz_iald) from bz_o_iald (by decide +kernel)) ?_
  refine bz_ac (show bz_ok RL cL_law 472 (bz_aload 0 1) from bz_o_aload_n (k := 0) (i := 0) (by decide +kernel) rfl) ?_
  refine bz_ac (show bz_ok RL cL_law 473 (bz_iload 3 1) from bz_o_iload_n (k := 3) (i := 3) (by decide +kernel) rfl) ?_
  refine bz_ac (show bz_ok RL cL_law 474 (bz_push (.int 2) 1) from bz_o_iconst (n := 2) (v := 2) (by decide +kernel) (by decide)) ?_
  refine bz_ac (show bz_ok RL cL_law 475 (bz_iadd) from bz_o_iadd (by decide +kernel)) ?_
  refine bz_ac (show bz_ok RL cL_law 476 (bz_iald) from bz_o_iald (by decide +kernel)) ?_
  refine bz_ac (show bz_ok RL cL_law 477 (bz_aload 0 1) from bz_o_aload_n (k := 0) (i := 0) (by decide +kernel) rfl) ?_
  refine bz_ac (show bz_ok RL cL_law 478 (bz_iload 3 1) from bz_o_iload_n (k := 3) (i := 3) (by decide +kernel) rfl) ?_
  refine bz_ac (show bz_ok RL cL_law 479 (bz_push (.int 3) 1) from bz_o_iconst (n := 3) (v := 3) (by decide +kernel) (by decide)) ?_
  refine bz_ac (show bz_ok RL cL_law 480 (bz_iadd) from bz_o_iadd (by decide +kernel)) ?_
  refine bz_ac (show bz_ok RL cL_law 481 (bz_iald) from bz_o_iald (by decide +kernel)) ?_
  refine bz_ac (show bz_cok bz_P l RL cL_law 9 208 482 mX10_strokes 4 10 from bz_cV' (own := RL) (idx := 65) (ci := 9) (N := 8) (T := TX10) (n := 3) bp_X10_strokes bq_X10_strokes (by decide +kernel) (bz_tb 525 (by decide +kernel) (by decide +kernel)) (bz_tb 526 (by decide +kernel) (by decide +kernel)) (bz_tb 527 (by decide +kernel) (by decide +kernel)) rfl rfl (by decide) (by decide)) ?_
  refine bz_ac (show bz_ok RL cL_law 485 (bz_aload 2 1) from bz_o_aload_n (k := 2) (i := 2) (by decide +kernel) rfl) ?_
  refine bz_ac (show bz_ok RL cL_law 486 (bz_aload 0 1) from bz_o_aload_n (k := 0) (i := 0) (by decide +kernel) rfl) ?_
  refine bz_ac (show bz_ok RL cL_law 487 (bz_iload 3 1) from bz_o_iload_n (k := 3) (i := 3) (by decide +kernel) rfl) ?_
  refine bz_ac (show bz_ok RL cL_law 488 (bz_push (.int 1) 1) from bz_o_iconst (n := 1) (v := 1) (by decide +kernel) (by decide)) ?_
  refine bz_ac (show bz_ok RL cL_law 489 (bz_iadd) from bz_o_iadd (by decide +kernel)) ?_
  refine bz_ac (show bz_ok RL cL_law 490 (bz_iald) from bz_o_iald (by decide +kernel)) ?_
  refine bz_ac (show bz_ok RL cL_law 491 (bz_aload 0 1) from bz_o_aload_n (k := 0) (i := 0) (by decide +kernel) rfl) ?_
  refine bz_ac (show bz_ok RL cL_law 492 (bz_iload 3 1) from bz_o_iload_n (k := 3) (i := 3) (by decide +kernel) rfl) ?_
  refine bz_ac (show bz_ok RL cL_law 493 (bz_push (.int 2) 1) from bz_o_iconst (n := 2) (v := 2) (by decide +kernel) (by decide)) ?_
  refine bz_ac (show bz_ok RL cL_law 494 (bz_iadd) from bz_o_iadd (by decide +kernel)) ?_
  refine bz_ac (show bz_ok RL cL_law 495 (bz_iald) from bz_o_iald (by decide +kernel)) ?_
  refine bz_ac (show bz_ok RL cL_law 496 (bz_aload 0 1) from bz_o_aload_n (k := 0) (i := 0) (by decide +kernel) rfl) ?_
  refine bz_ac (show bz_ok RL cL_law 497 (bz_iload 3 1) from bz_o_iload_n (k := 3) (i := 3) (by decide +kernel) rfl) ?_
  refine bz_ac (show bz_ok RL cL_law 498 (bz_push (.int 3) 1) from bz_o_iconst (n := 3) (v := 3) (by decide +kernel) (by decide)) ?_
  refine bz_ac (show bz_ok RL cL_law 499 (bz_iadd) from bz_o_iadd (by decide +kernel)) ?_
  refine bz_ac (show bz_ok RL cL_law 500 (bz_iald) from bz_o_iald (by decide +kernel)) ?_
  refine bz_ac (show bz_cok bz_P l RL cL_law 9 208 501 mX11_strokes 4 11 from bz_cV' (own := RL) (idx := 69) (ci := 10) (N := 42) (T := TX11) (n := 3) bp_X11_strokes bq_X11_strokes (by decide +kernel) (bz_tb 989 (by decide +kernel) (by decide +kernel)) (bz_tb 990 (by decide +kernel) (by decide +kernel)) (bz_tb 991 (by decide +kernel) (by decide +kernel)) rfl rfl (by decide) (by decide)) ?_
  refine bz_ac (show bz_ok RL cL_law 504 (bz_ic_eq 832) from bz_o_ic_eq (off := 328) (t := 832) (by decide +kernel) (by decide)) ?_
  refine bz_ac (show bz_ok RL cL_law 507 (bz_push (.int 0) 1) from bz_o_iconst (n := 0) (v := 0) (by decide +kernel) (by decide)) ?_
  refine bz_ac (show bz_rok cL_law (some .boolean) 508 3 from Or.inr (Or.inr (Or.inr ⟨rfl, rfl, by decide +kernel⟩))) ?_
  refine bz_ac (show bz_ok RL cL_law 509 (bz_aload 1 1) from bz_o_aload_n (k := 1) (i := 1) (by decide +kernel) rfl) ?_
  refine bz_ac (show bz_ok RL cL_law 510 (bz_aload 0 1) from bz_o_aload_n (k := 0) (i := 0) (by decide +kernel) rfl) ?_
  refine bz_ac (show bz_ok RL cL_law 511 (bz_iload 3 1) from bz_o_iload_n (k := 3) (i := 3) (by decide +kernel) rfl) ?_
  refine bz_ac (show bz_ok RL cL_law 512 (bz_push (.int 1) 1) from bz_o_iconst (n := 1) (v := 1) (by decide +kernel) (by decide)) ?_
  refine bz_ac (show bz_ok RL cL_law 513 (bz_iadd) from bz_o_iadd (by decide +kernel)) ?_
  refine bz_ac (show bz_ok RL cL_law 514 (bz_iald) from bz_o_iald (by decide +kernel)) ?_
  refine bz_ac (show bz_ok RL cL_law 515 (bz_aload 0 1) from bz_o_aload_n (k := 0) (i := 0) (by decide +kernel) rfl) ?_
  refine bz_ac (show bz_ok RL cL_law 516 (bz_iload 3 1) from bz_o_iload_n (k := 3) (i := 3) (by decide +kernel) rfl) ?_
  refine bz_ac (show bz_ok RL cL_law 517 (bz_push (.int 2) 1) from bz_o_iconst (n := 2) (v := 2) (by decide +kernel) (by decide)) ?_
  refine bz_ac (show bz_ok RL cL_law 518 (bz_iadd) from bz_o_iadd (by decide +kernel)) ?_
  refine bz_ac (show bz_ok RL cL_law 519 (bz_iald) from bz_o_iald (by decide +kernel)) ?_
  refine bz_ac (show bz_cok bz_P l RL cL_law 9 208 520 mX10_seen 3 10 from bz_cV' (own := RL) (idx := 70) (ci := 9) (N := 8) (T := TX10) (n := 2) bp_X10_seen bq_X10_seen (by decide +kernel) (bz_tb 541 (by decide +kernel) (by decide +kernel)) (bz_tb 542 (by decide +kernel) (by decide +kernel)) (bz_tb 543 (by decide +kernel) (by decide +kernel)) rfl rfl (by decide) (by decide)) ?_
  refine bz_ac (show bz_ok RL cL_law 523 (bz_aload 2 1) from bz_o_aload_n (k := 2) (i := 2) (by decide +kernel) rfl) ?_
  refine bz_ac (show bz_ok RL cL_law 524 (bz_aload 0 1) from bz_o_aload_n (k := 0) (i := 0) (by decide +kernel) rfl) ?_
  refine bz_ac (show bz_ok RL cL_law 525 (bz_iload 3 1) from bz_o_iload_n (k := 3) (i := 3) (by decide +kernel) rfl) ?_
  refine bz_ac (show bz_ok RL cL_law 526 (bz_push (.int 1) 1) from bz_o_iconst (n := 1) (v := 1) (by decide +kernel) (by decide)) ?_
  refine bz_ac (show bz_ok RL cL_law 527 (bz_iadd) from bz_o_iadd (by decide +kernel)) ?_
  refine bz_ac (show bz_ok RL cL_law 528 (bz_iald) from bz_o_iald (by decide +kernel)) ?_
  refine bz_ac (show bz_ok RL cL_law 529 (bz_aload 0 1) from bz_o_aload_n (k := 0) (i := 0) (by decide +kernel) rfl) ?_
  refine bz_ac (show bz_ok RL cL_law 530 (bz_iload 3 1) from bz_o_iload_n (k := 3) (i := 3) (by decide +kernel) rfl) ?_
  refine bz_ac (show bz_ok RL cL_law 531 (bz_push (.int 2) 1) from bz_o_iconst (n := 2) (v := 2) (by decide +kernel) (by decide)) ?_
  refine bz_ac (show bz_ok RL cL_law 532 (bz_iadd) from bz_o_iadd (by decide +kernel)) ?_
  refine bz_ac (show bz_ok RL cL_law 533 (bz_iald) from bz_o_iald (by decide +kernel)) ?_
  refine bz_ac (show bz_cok bz_P l RL cL_law 9 208 534 mX11_seen 3 11 from bz_cV' (own := RL) (idx := 73) (ci := 10) (N := 42) (T := TX11) (n := 2) bp_X11_seen bq_X11_seen (by decide +kernel) (bz_tb 1005 (by decide +kernel) (by decide +kernel)) (bz_tb 1006 (by decide +kernel) (by decide +kernel)) (bz_tb 1007 (by decide +kernel) (by decide +kernel)) rfl rfl (by decide) (by decide)) ?_
  refine bz_ac (show bz_ok RL cL_law 537 (bz_ic_eq 832) from bz_o_ic_eq (off := 295) (t := 832) (by decide +kernel) (by decide)) ?_
  refine bz_ac (show bz_ok RL cL_law 540 (bz_push (.int 0) 1) from bz_o_iconst (n := 0) (v := 0) (by decide +kernel) (by decide)) ?_
  refine bz_ac (show bz_rok cL_law (some .boolean) 541 3 from Or.inr (Or.inr (Or.inr ⟨rfl, rfl, by decide +kernel⟩))) ?_
  refine bz_ac (show bz_ok RL cL_law 542 (bz_aload 1 1) from bz_o_aload_n (k := 1) (i := 1) (by decide +kernel) rfl) ?_
  refine bz_ac (show bz_cok bz_P l RL cL_law 9 208 543 mX10_forget 1 10 from bz_cV' (own := RL) (idx := 74) (ci := 9) (N := 8) (T := TX10) (n := 0) bp_X10_forget bq_X10_forget (by decide +kernel) (bz_tb 549 (by decide +kernel) (by decide +kernel)) (bz_tb 550 (by decide +kernel) (by decide +kernel)) (bz_tb 551 (by decide +kernel) (by decide +kernel)) rfl rfl (by decide) (by decide)) ?_
  refine bz_ac (show bz_ok RL cL_law 546 (bz_aload 2 1) from bz_o_aload_n (k := 2) (i := 2) (by decide +kernel) rfl) ?_
  refine bz_ac (show bz_cok bz_P l RL cL_law 9 208 547 mX11_forget 1 11 from bz_cV' (own := RL) (idx := 77) (ci := 10) (N := 42) (T := TX11) (n := 0) bp_X11_forget bq_X11_forget (by decide +kernel) (bz_tb 1010 (by decide +kernel) (by decide +kernel)) (bz_tb 1011 (by decide +kernel) (by decide +kernel)) (bz_tb 1012 (by decide +kernel) (by decide +kernel)) rfl rfl (by decide) (by decide)) ?_
  refine bz_ac (show bz_ok RL cL_law 550 (bz_ic_eq 832) from bz_o_ic_eq (off := 282) (t := 832) (by decide +kernel) (by decide)) ?_
  refine bz_ac (show bz_ok RL cL_law 553 (bz_push (.int 0) 1) from bz_o_iconst (n := 0) (v := 0) (by decide +kernel) (by decide)) ?_
  refine bz_ac (show bz_rok cL_law (some .boolean) 554 3 from Or.inr (Or.inr (Or.inr ⟨rfl, rfl, by decide +kernel⟩))) ?_
  refine bz_ac (show bz_ok RL cL_law 555 (bz_aload 1 1) from bz_o_aload_n (k := 1) (i := 1) (by decide +kernel) rfl) ?_
  refine bz_ac (show bz_ok RL cL_law 556 (bz_aload 0 1) from bz_o_aload_n (k := 0) (i := 0) (by decide +kernel) rfl) ?_
  refine bz_ac (show bz_ok RL cL_law 557 (bz_iload 3 1) from bz_o_iload_n (k := 3) (i := 3) (by decide +kernel) rfl) ?_
  refine bz_ac (show bz_ok RL cL_law 558 (bz_push (.int 1) 1) from bz_o_iconst (n := 1) (v := 1) (by decide +kernel) (by decide)) ?_
  refine bz_ac (show bz_ok RL cL_law 559 (bz_iadd) from bz_o_iadd (by decide +kernel)) ?_
  refine bz_ac (show bz_ok RL cL_law 560 (bz_iald) from bz_o_iald (by decide +kernel)) ?_
  refine bz_ac (show bz_cok bz_P l RL cL_law 9 208 561 mX10_sent 2 10 from bz_cV' (own := RL) (idx := 78) (ci := 9) (N := 8) (T := TX10) (n := 1) bp_X10_sent bq_X10_sent (by decide +kernel) (bz_tb 553 (by decide +kernel) (by decide +kernel)) (bz_tb 554 (by decide +kernel) (by decide +kernel)) (bz_tb 555 (by decide +kernel) (by decide +kernel)) rfl rfl (by decide) (by decide)) ?_
  refine bz_ac (show bz_ok RL cL_law 564 (bz_aload 2 1) from bz_o_aload_n (k := 2) (i := 2) (by decide +kernel) rfl) ?_
  refine bz_ac (show bz_ok RL cL_law 565 (bz_aload 0 1) from bz_o_aload_n (k := 0) (i := 0) (by decide +kernel) rfl) ?_
  refine bz_ac (show bz_ok RL cL_law 566 (bz_iload 3 1) from bz_o_iload_n (k := 3) (i := 3) (by decide +kernel) rfl) ?_
  refine bz_ac (show bz_ok RL cL_law 567 (bz_push (.int 1) 1) from bz_o_iconst (n := 1) (v := 1) (by decide +kernel) (by decide)) ?_
  refine bz_ac (show bz_ok RL cL_law 568 (bz_iadd) from bz_o_iadd (by decide +kernel)) ?_
  refine bz_ac (show bz_ok RL cL_law 569 (bz_iald) from bz_o_iald (by decide +kernel)) ?_
  refine bz_ac (show bz_cok bz_P l RL cL_law 9 208 570 mX11_sent 2 11 from bz_cV' (own := RL) (idx := 81) (ci := 10) (N := 42) (T := TX11) (n := 1) bp_X11_sent bq_X11_sent (by decide +kernel) (bz_tb 1014 (by decide +kernel) (by decide +kernel)) (bz_tb 1015 (by decide +kernel) (by decide +kernel)) (bz_tb 1016 (by decide +kernel) (by decide +kernel)) rfl rfl (by decide) (by decide)) ?_
  refine bz_ac (show bz_ok RL cL_law 573 (bz_ic_eq 832) from bz_o_ic_eq (off := 259) (t := 832) (by decide +kernel) (by decide)) ?_
  refine bz_ac (show bz_ok RL cL_law 576 (bz_push (.int 0) 1) from bz_o_iconst (n := 0) (v := 0) (by decide +kernel) (by decide)) ?_
  refine bz_ac (show bz_rok cL_law (some .boolean) 577 3 from Or.inr (Or.inr (Or.inr ⟨rfl, rfl, by decide +kernel⟩))) ?_
  refine bz_ac (show bz_ok RL cL_law 578 (bz_aload 1 1) from bz_o_aload_n (k := 1) (i := 1) (by decide +kernel) rfl) ?_
  refine bz_ac (show bz_ok RL cL_law 579 (bz_aload 0 1) from bz_o_aload_n (k := 0) (i := 0) (by decide +kernel) rfl) ?_
  refine bz_ac (show bz_ok RL cL_law 580 (bz_iload 3 1) from bz_o_iload_n (k := 3) (i := 3) (by decide +kernel) rfl) ?_
  refine bz_ac (show bz_ok RL cL_law 581 (bz_push (.int 1) 1) from bz_o_iconst (n := 1) (v := 1) (by decide +kernel) (by decide)) ?_
  refine bz_ac (show bz_ok RL cL_law 582 (bz_iadd) from bz_o_iadd (by decide +kernel)) ?_
  refine bz_ac (show bz_ok RL cL_law 583 (bz_iald) from bz_o_iald (by decide +kernel)) ?_
  refine bz_ac (show bz_cok bz_P l RL cL_law 9 208 584 mX10_ask 2 10 from bz_cV' (own := RL) (idx := 82) (ci := 9) (N := 8) (T := TX10) (n := 1) bp_X10_ask bq_X10_ask (by decide +kernel) (bz_tb 568 (by decide +kernel) (by decide +kernel)) (bz_tb 569 (by decide +kernel) (by decide +kernel)) (bz_tb 570 (by decide +kernel) (by decide +kernel)) rfl rfl (by decide) (by decide)) ?_
  refine bz_ac (show bz_ok RL cL_law 587 (bz_aload 2 1) from bz_o_aload_n (k := 2) (i := 2) (by decide +kernel) rfl) ?_
  refine bz_ac (show bz_ok RL cL_law 588 (bz_aload 0 1) from bz_o_aload_n (k := 0) (i := 0) (by decide +kernel) rfl) ?_
  refine bz_ac (show bz_ok RL cL_law 589 (bz_iload 3 1) from bz_o_iload_n (k := 3) (i := 3) (by decide +kernel) rfl) ?_
  refine bz_ac (show bz_ok RL cL_law 590 (bz_push (.int 1) 1) from bz_o_iconst (n := 1) (v := 1) (by decide +kernel) (by decide)) ?_
  refine bz_ac (show bz_ok RL cL_law 591 (bz_iadd) from bz_o_iadd (by decide +kernel)) ?_
  refine bz_ac (show bz_ok RL cL_law 592 (bz_iald) from bz_o_iald (by decide +kernel)) ?_
  refine bz_ac (show bz_cok bz_P l RL cL_law 9 208 593 mX11_ask 2 11 from bz_cV' (own := RL) (idx := 85) (ci := 10) (N := 42) (T := TX11) (n := 1) bp_X11_ask bq_X11_ask (by decide +kernel) (bz_tb 1026 (by decide +kernel) (by decide +kernel)) (bz_tb 1027 (by decide +kernel) (by decide +kernel)) (bz_tb 1028 (by decide +kernel) (by decide +kernel)) rfl rfl (by decide) (by decide)) ?_
  refine bz_ac (show bz_ok RL cL_law 596 (bz_ic_eq 832) from bz_o_ic_eq (off := 236) (t := 832) (by decide +kernel) (by decide)) ?_
  refine bz_ac (show bz_ok RL cL_law 599 (bz_push (.int 0) 1) from bz_o_iconst (n := 0) (v := 0) (by decide +kernel) (by decide)) ?_
  refine bz_ac (show bz_rok cL_law (some .boolean) 600 3 from Or.inr (Or.inr (Or.inr ⟨rfl, rfl, by decide +kernel⟩))) ?_
  refine bz_ac (show bz_ok RL cL_law 601 (bz_aload 1 1) from bz_o_aload_n (k := 1) (i := 1) (by decide +kernel) rfl) ?_
  refine bz_ac (show bz_ok RL cL_law 602 (bz_aload 0 1) from bz_o_aload_n (k := 0) (i := 0) (by decide +kernel) rfl) ?_
  refine bz_ac (show bz_ok RL cL_law 603 (bz_iload 3 1) from bz_o_iload_n (k := 3) (i := 3) (by decide +kernel) rfl) ?_
  refine bz_ac (show bz_ok RL cL_law 604 (bz_push (.int 1) 1) from bz_o_iconst (n := 1) (v := 1) (by decide +kernel) (by decide)) ?_
  refine bz_ac (show bz_ok RL cL_law 605 (bz_iadd) from bz_o_iadd (by decide +kernel)) ?_
  refine bz_ac (show bz_ok RL cL_law 606 (bz_iald) from bz_o_iald (by decide +kernel)) ?_
  refine bz_ac (show bz_ok RL cL_law 607 (bz_aload 0 1) from bz_o_aload_n (k := 0) (i := 0) (by decide +kernel) rfl) ?_
  refine bz_ac (show bz_ok RL cL_law 608 (bz_iload 3 1) from bz_o_iload_n (k := 3) (i := 3) (by decide +kernel) rfl) ?_
  refine bz_ac (show bz_ok RL cL_law 609 (bz_push (.int 2) 1) from bz_o_iconst (n := 2) (v := 2) (by decide +kernel) (by decide)) ?_
  refine bz_ac (show bz_ok RL cL_law 610 (bz_iadd) from bz_o_iadd (by decide +kernel)) ?_
  refine bz_ac (show bz_ok RL cL_law 611 (bz_iald) from bz_o_iald (by decide +kernel)) ?_
  refine bz_ac (show bz_ok RL cL_law 612 (bz_aload 0 1) from bz_o_aload_n (k := 0) (i := 0) (by decide +kernel) rfl) ?_
  refine bz_ac (show bz_ok RL cL_law 613 (bz_iload 3 1) from bz_o_iload_n (k := 3) (i := 3) (by decide +kernel) rfl) ?_
  refine bz_ac (show bz_ok RL cL_law 614 (bz_push (.int 3) 1) from bz_o_iconst (n := 3) (v := 3) (by decide +kernel) (by decide)) ?_
  refine bz_ac (show bz_ok RL cL_law 615 (bz_iadd) from bz_o_iadd (by decide +kernel)) ?_
  refine bz_ac (show bz_ok RL cL_law 616 (bz_iald) from bz_o_iald (by decide +kernel)) ?_
  refine bz_ac (show bz_cok bz_P l RL cL_law 9 208 617 mX10_chalk 4 10 from bz_cV' (own := RL) (idx := 86) (ci := 9) (N := 8) (T := TX10) (n := 3) bp_X10_chalk bq_X10_chalk (by decide +kernel) (bz_tb 588 (by decide +kernel) (by decide +kernel)) (bz_tb 589 (by decide +kernel) (by decide +kernel)) (bz_tb 590 (by decide +kernel) (by decide +kernel)) rfl rfl (by decide) (by decide)) ?_
  refine bz_ac (show bz_ok RL cL_law 620 (bz_aload 2 1) from bz_o_aload_n (k := 2) (i := 2) (by decide +kernel) rfl) ?_
  refine bz_ac (show bz_ok RL cL_law 621 (bz_aload 0 1) from bz_o_aload_n (k := 0) (i := 0) (by decide +kernel) rfl) ?_
  refine bz_ac (show bz_ok RL cL_law 622 (bz_iload 3 1) from bz_o_iload_n (k := 3) (i := 3) (by decide +kernel) rfl) ?_
  refine bz_ac (show bz_ok RL cL_law 623 (bz_push (.int 1) 1) from bz_o_iconst (n := 1) (v := 1) (by decide +kernel) (by decide)) ?_
  refine bz_ac (show bz_ok RL cL_law 624 (bz_iadd) from bz_o_iadd (by decide +kernel)) ?_
  refine bz_ac (show bz_ok RL cL_law 625 (bz_iald) from bz_o_iald (by decide +kernel)) ?_
  refine bz_ac (show bz_ok RL cL_law 626 (bz_aload 0 1) from bz_o_aload_n (k := 0) (i := 0) (by decide +kernel) rfl) ?_
  refine bz_ac (show bz_ok RL cL_law 627 (bz_iload 3 1) from bz_o_iload_n (k := 3) (i := 3) (by decide +kernel) rfl) ?_
  refine bz_ac (show bz_ok RL cL_law 628 (bz_push (.int 2) 1) from bz_o_iconst (n := 2) (v := 2) (by decide +kernel) (by decide)) ?_
  refine bz_ac (show bz_ok RL cL_law 629 (bz_iadd) from bz_o_iadd (by decide +kernel)) ?_
  refine bz_ac (show bz_ok RL cL_law 630 (bz_iald) from bz_o_iald (by decide +kernel)) ?_
  refine bz_ac (show bz_ok RL cL_law 631 (bz_aload 0 1) from bz_o_aload_n (k := 0) (i := 0) (by decide +kernel) rfl) ?_
  refine bz_ac (show bz_ok RL cL_law 632 (bz_iload 3 1) from bz_o_iload_n (k := 3) (i := 3) (by decide +kernel) rfl) ?_
  refine bz_ac (show bz_ok RL cL_law 633 (bz_push (.int 3) 1) from bz_o_iconst (n := 3) (v := 3) (by decide +kernel) (by decide)) ?_
  refine bz_ac (show bz_ok RL cL_law 634 (bz_iadd) from bz_o_iadd (by decide +kernel)) ?_
  refine bz_ac (show bz_ok RL cL_law 635 (bz_iald) from bz_o_iald (by decide +kernel)) ?_
  refine bz_ac (show bz_cok bz_P l RL cL_law 9 208 636 mX11_chalk 4 11 from bz_cV' (own := RL) (idx := 89) (ci := 10) (N := 42) (T := TX11) (n := 3) bp_X11_chalk bq_X11_chalk (by decide +kernel) (bz_tb 1034 (by decide +kernel) (by decide +kernel)) (bz_tb 1035 (by decide +kernel) (by decide +kernel)) (bz_tb 1036 (by decide +kernel) (by decide +kernel)) rfl rfl (by decide) (by decide)) ?_
  refine bz_ac (show bz_ok RL cL_law 639 (bz_ic_eq 832) from bz_o_ic_eq (off := 193) (t := 832) (by decide +kernel) (by decide)) ?_
  refine bz_ac (show bz_ok RL cL_law 642 (bz_push (.int 0) 1) from bz_o_iconst (n := 0) (v := 0) (by decide +kernel) (by decide)) ?_
  refine bz_ac (show bz_rok cL_law (some .boolean) 643 3 from Or.inr (Or.inr (Or.inr ⟨rfl, rfl, by decide +kernel⟩))) ?_
  refine bz_ac (show bz_ok RL cL_law 644 (bz_aload 1 1) from bz_o_aload_n (k := 1) (i := 1) (by decide +kernel) rfl) ?_
  refine bz_ac (show bz_ok RL cL_law 645 (bz_aload 0 1) from bz_o_aload_n (k := 0) (i := 0) (by decide +kernel) rfl) ?_
  refine bz_ac (show bz_ok RL cL_law 646 (bz_iload 3 1) from bz_o_iload_n (k := 3) (i := 3) (by decide +kernel) rfl) ?_
  refine bz_ac (show bz_ok RL cL_law 647 (bz_push (.int 1) 1) from bz_o_iconst (n := 1) (v := 1) (by decide +kernel) (by decide)) ?_
  refine bz_ac (show bz_ok RL cL_law 648 (bz_iadd) from bz_o_iadd (by decide +kernel)) ?_
  refine bz_ac (show bz_ok RL cL_law 649 (bz_iald) from bz_o_iald (by decide +kernel)) ?_
  refine bz_ac (show bz_ok RL cL_law 650 (bz_aload 0 1) from bz_o_aload_n (k := 0) (i := 0) (by decide +kernel) rfl) ?_
  refine bz_ac (show bz_ok RL cL_law 651 (bz_iload 3 1) from bz_o_iload_n (k := 3) (i := 3) (by decide +kernel) rfl) ?_
  refine bz_ac (show bz_ok RL cL_law 652 (bz_push (.int 2) 1) from bz_o_iconst (n := 2) (v := 2) (by decide +kernel) (by decide)) ?_
  refine bz_ac (show bz_ok RL cL_law 653 (bz_iadd) from bz_o_iadd (by decide +kernel)) ?_
  refine bz_ac (show bz_ok RL cL_law 654 (bz_iald) from bz_o_iald (by decide +kernel)) ?_
  refine bz_ac (show bz_ok RL cL_law 655 (bz_aload 0 1) from bz_o_aload_n (k := 0) (i := 0) (by decide +kernel) rfl) ?_
  refine bz_ac (show bz_ok RL cL_law 656 (bz_iload 3 1) from bz_o_iload_n (k := 3) (i := 3) (by decide +kernel) rfl) ?_
  refine bz_ac (show bz_ok RL cL_law 657 (bz_push (.int 3) 1) from bz_o_iconst (n := 3) (v := 3) (by decide +kernel) (by decide)) ?_
  refine bz_ac (show bz_ok RL cL_law 658 (bz_iadd) from bz_o_iadd (by decide +kernel)) ?_
  refine bz_ac (show bz_ok RL cL_law 659 (bz_iald) from bz_o_iald (by decide +kernel)) ?_
  refine bz_ac (show bz_ok RL cL_law 660 (bz_aload 0 1) from bz_o_aload_n (k := 0) (i := 0) (by decide +kernel) rfl) ?_
  refine bz_ac (show bz_ok RL cL_law 661 (bz_iload 3 1) from bz_o_iload_n (k := 3) (i := 3) (by decide +kernel) rfl) ?_
  refine bz_ac (show bz_ok RL cL_law 662 (bz_push (.int 4) 1) from bz_o_iconst (n := 4) (v := 4) (by decide +kernel) (by decide)) ?_
  refine bz_ac (show bz_ok RL cL_law 663 (bz_iadd) from bz_o_iadd (by decide +kernel)) ?_
  refine bz_ac (show bz_ok RL cL_law 664 (bz_iald) from bz_o_iald (by decide +kernel)) ?_
  refine bz_ac (show bz_ok RL cL_law 665 (bz_aload 0 1) from bz_o_aload_n (k := 0) (i := 0) (by decide +kernel) rfl) ?_
  refine bz_ac (show bz_ok RL cL_law 666 (bz_iload 3 1) from bz_o_iload_n (k := 3) (i := 3) (by decide +kernel) rfl) ?_
  refine bz_ac (show bz_ok RL cL_law 667 (bz_push (.int 5) 1) from bz_o_iconst (n := 5) (v := 5) (by decide +kernel) (by decide)) ?_
  refine bz_ac (show bz_ok RL cL_law 668 (bz_iadd) from bz_o_iadd (by decide +kernel)) ?_
  refine bz_ac (show bz_ok RL cL_law 669 (bz_iald) from bz_o_iald (by decide +kernel)) ?_
  refine bz_ac (show bz_ok RL cL_law 670 (bz_aload 0 1) from bz_o_aload_n (k := 0) (i := 0) (by decide +kernel) rfl) ?_
  refine bz_ac (show bz_ok RL cL_law 671 (bz_iload 3 1) from bz_o_iload_n (k := 3) (i := 3) (by decide +kernel) rfl) ?_
  refine bz_ac (show bz_ok RL cL_law 672 (bz_push (.int 6) 2) from bz_o_bipush (n := 6) (v := 6) (by decide +kernel) (by decide)) ?_
  refine bz_ac (show bz_ok RL cL_law 674 (bz_iadd) from bz_o_iadd (by decide +kernel)) ?_
  refine bz_ac (show bz_ok RL cL_law 675 (bz_iald) from bz_o_iald (by decide +kernel)) ?_
  refine bz_ac (show bz_cok bz_P l RL cL_law 9 208 676 mX10_match 7 10 from bz_cV' (own := RL) (idx := 90) (ci := 9) (N := 8) (T := TX10) (n := 6) bp_X10_match bq_X10_match (by decide +kernel) (bz_tb 608 (by decide +kernel) (by decide +kernel)) (bz_tb 609 (by decide +kernel) (by decide +kernel)) (bz_tb 610 (by decide +kernel) (by decide +kernel)) rfl rfl (by decide) (by decide)) ?_
  refine bz_ac (show bz_ok RL cL_law 679 (bz_aload 2 1) from bz_o_aload_n (k := 2) (i := 2) (by decide +kernel) rfl) ?_
  refine bz_ac (show bz_ok RL cL_law 680 (bz_aload 0 1) from bz_o_aload_n (k := 0) (i := 0) (by decide +kernel) rfl) ?_
  refine bz_ac (show bz_ok RL cL_law 681 (bz_iload 3 1) from bz_o_iload_n (k := 3) (i := 3) (by decide +kernel) rfl) ?_
  refine bz_ac (show bz_ok RL cL_law 682 (bz_push (.int 1) 1) from bz_o_iconst (n := 1) (v := 1) (by decide +kernel) (by decide)) ?_
  refine bz_ac (show bz_ok RL cL_law 683 (bz_iadd) from bz_o_iadd (by decide +kernel)) ?_
  refine bz_ac (show bz_ok RL cL_law 684 (bz_iald) from bz_o_iald (by decide +kernel)) ?_
  refine bz_ac (show bz_ok RL cL_law 685 (bz_aload 0 1) from bz_o_aload_n (k := 0) (i := 0) (by decide +kernel) rfl) ?_
  refine bz_ac (show bz_ok RL cL_law 686 (bz_iload 3 1) from bz_o_iload_n (k := 3) (i := 3) (by decide +kernel) rfl) ?_
  refine bz_ac (show bz_ok RL cL_law 687 (bz_push (.int 2) 1) from bz_o_iconst (n := 2) (v := 2) (by decide +kernel) (by decide)) ?_
  refine bz_ac (show bz_ok RL cL_law 688 (bz_iadd) from bz_o_iadd (by decide +kernel)) ?_
  refine bz_ac (show bz_ok RL cL_law 689 (bz_iald) from bz_o_iald (by decide +kernel)) ?_
  refine bz_ac (show bz_ok RL cL_law 690 (bz_aload 0 1) from bz_o_aload_n (k := 0) (i := 0) (by decide +kernel) rfl) ?_
  refine bz_ac (show bz_ok RL cL_law 691 (bz_iload 3 1) from bz_o_iload_n (k := 3) (i := 3) (by decide +kernel) rfl) ?_
  refine bz_ac (show bz_ok RL cL_law 692 (bz_push (.int 3) 1) from bz_o_iconst (n := 3) (v := 3) (by decide +kernel) (by decide)) ?_
  refine bz_ac (show bz_ok RL cL_law 693 (bz_iadd) from bz_o_iadd (by decide +kernel)) ?_
  refine bz_ac (show bz_ok RL cL_law 694 (bz_iald) from bz_o_iald (by decide +kernel)) ?_
  refine bz_ac (show bz_ok RL cL_law 695 (bz_aload 0 1) from bz_o_aload_n (k := 0) (i := 0) (by decide +kernel) rfl) ?_
  refine bz_ac (show bz_ok RL cL_law 696 (bz_iload 3 1) from bz_o_iload_n (k := 3) (i := 3) (by decide +kernel) rfl) ?_
  refine bz_ac (show bz_ok RL cL_law 697 (bz_push (.int 4) 1) from bz_o_iconst (n := 4) (v := 4) (by decide +kernel) (by decide)) ?_
  refine bz_ac (show bz_ok RL cL_law 698 (bz_iadd) from bz_o_iadd (by decide +kernel)) ?_
  refine bz_ac (show bz_ok RL cL_law 699 (bz_iald) from bz_o_iald (by decide +kernel)) ?_
  refine bz_ac (show bz_ok RL cL_law 700 (bz_aload 0 1) from bz_o_aload_n (k := 0) (i := 0) (by decide +kernel) rfl) ?_
  refine bz_ac (show bz_ok RL cL_law 701 (bz_iload 3 1) from bz_o_iload_n (k := 3) (i := 3) (by decide +kernel) rfl) ?_
  refine bz_ac (show bz_ok RL cL_law 702 (bz_push (.int 5) 1) from bz_o_iconst (n := 5) (v := 5) (by decide +kernel) (by decide)) ?_
  refine bz_ac (show bz_ok RL cL_law 703 (bz_iadd) from bz_o_iadd (by decide +kernel)) ?_
  refine bz_ac (show bz_ok RL cL_law 704 (bz_iald) from bz_o_iald (by decide +kernel)) ?_
  refine bz_ac (show bz_ok RL cL_law 705 (bz_aload 0 1) from bz_o_aload_n (k := 0) (i := 0) (by decide +kernel) rfl) ?_
  refine bz_ac (show bz_ok RL cL_law 706 (bz_iload 3 1) from bz_o_iload_n (k := 3) (i := 3) (by decide +kernel) rfl) ?_
  refine bz_ac (show bz_ok RL cL_law 707 (bz_push (.int 6) 2) from bz_o_bipush (n := 6) (v := 6) (by decide +kernel) (by decide)) ?_
  refine bz_ac (show bz_ok RL cL_law 709 (bz_iadd) from bz_o_iadd (by decide +kernel)) ?_
  refine bz_ac (show bz_ok RL cL_law 710 (bz_iald) from bz_o_iald (by decide +kernel)) ?_
  refine bz_ac (show bz_cok bz_P l RL cL_law 9 208 711 mX11_match 7 11 from bz_cV' (own := RL) (idx := 94) (ci := 10) (N := 42) (T := TX11) (n := 6) bp_X11_match bq_X11_match (by decide +kernel) (bz_tb 1049 (by decide +kernel) (by decide +kernel)) (bz_tb 1050 (by decide +kernel) (by decide +kernel)) (bz_tb 1051 (by decide +kernel) (by decide +kernel)) rfl rfl (by decide) (by decide)) ?_
  refine bz_ac (show bz_ok RL cL_law 714 (bz_lcmp) from bz_o_lcmp (by decide +kernel)) ?_
  refine bz_ac (show bz_ok RL cL_law 715 (bz_if_eq 832) from bz_o_if_eq (off := 117) (t := 832) (by decide +kernel) (by decide)) ?_
  refine bz_ac (show bz_ok RL cL_law 718 (bz_push (.int 0) 1) from bz_o_iconst (n := 0) (v := 0) (by decide +kernel) (by decide)) ?_
  refine bz_ac (show bz_rok cL_law (some .boolean) 719 3 from Or.inr (Or.inr (Or.inr ⟨rfl, rfl, by decide +kernel⟩))) ?_
  refine bz_ac (show bz_ok RL cL_law 720 (bz_aload 1 1) from bz_o_aload_n (k := 1) (i := 1) (by decide +kernel) rfl) ?_
  refine bz_ac (show bz_ok RL cL_law 721 (bz_aload 0 1) from bz_o_aload_n (k := 0) (i := 0) (by decide +kernel) rfl) ?_
  refine bz_ac (show bz_ok RL cL_law 722 (bz_iload 3 1) from bz_o_iload_n (k := 3) (i := 3) (by decide +kernel) rfl) ?_
  refine bz_ac (show bz_ok RL cL_law 723 (bz_push (.int 1) 1) from bz_o_iconst (n := 1) (v := 1) (by decide +kernel) (by decide)) ?_
  refine bz_ac (show bz_ok RL cL_law 724 (bz_iadd) from bz_o_iadd (by decide +kernel)) ?_
  refine bz_ac (show bz_ok RL cL_law 725 (bz_iald) from bz_o_iald (by decide +kernel)) ?_
  refine bz_ac (show bz_ok RL cL_law 726 (bz_aload 0 1) from bz_o_aload_n (k := 0) (i := 0) (by decide +kernel) rfl) ?_
  refine bz_ac (show bz_ok RL cL_law 727 (bz_iload 3 1) from bz_o_iload_n (k := 3) (i := 3) (by decide +kernel) rfl) ?_
  refine bz_ac (show bz_ok RL cL_law 728 (bz_push (.int 2) 1) from bz_o_iconst (n := 2) (v := 2) (by decide +kernel) (by decide)) ?_
  refine bz_ac (show bz_ok RL cL_law 729 (bz_iadd) from bz_o_iadd (by decide +kernel)) ?_
  refine bz_ac (show bz_ok RL cL_law 730 (bz_iald) from bz_o_iald (by decide +kernel)) ?_
  refine bz_ac (show bz_ok RL cL_law 731 (bz_aload 0 1) from bz_o_aload_n (k := 0) (i := 0) (by decide +kernel) rfl) ?_
  refine bz_ac (show bz_ok RL cL_law 732 (bz_iload 3 1) from bz_o_iload_n (k := 3) (i := 3) (by decide +kernel) rfl) ?_
  refine bz_ac (show bz_ok RL cL_law 733 (bz_push (.int 3) 1) from bz_o_iconst (n := 3) (v := 3) (by decide +kernel) (by decide)) ?_
  refine bz_ac (show bz_ok RL cL_law 734 (bz_iadd) from bz_o_iadd (by decide +kernel)) ?_
  refine bz_ac (show bz_ok RL cL_law 735 (bz_iald) from bz_o_iald (by decide +kernel)) ?_
  refine bz_ac (show bz_cok bz_P l RL cL_law 9 208 736 mX10_season 4 10 from bz_cV' (own := RL) (idx := 95) (ci := 9) (N := 8) (T := TX10) (n := 3) bp_X10_season bq_X10_season (by decide +kernel) (bz_tb 632 (by decide +kernel) (by decide +kernel)) (bz_tb 633 (by decide +kernel) (by decide +kernel)) (bz_tb 634 (by decide +kernel) (by decide +kernel)) rfl rfl (by decide) (by decide)) ?_
  refine bz_ac (show bz_ok RL cL_law 739 (bz_aload 2 1) from bz_o_aload_n (k := 2) (i := 2) (by decide +kernel) rfl) ?_
  refine bz_ac (show bz_ok RL cL_law 740 (bz_aload 0 1) from bz_o_aload_n (k := 0) (i := 0) (by decide +kernel) rfl) ?_
  refine bz_ac (show bz_ok RL cL_law 741 (bz_iload 3 1) from bz_o_iload_n (k := 3) (i := 3) (by decide +kernel) rfl) ?_
  refine bz_ac (show bz_ok RL cL_law 742 (bz_push (.int 1) 1) from bz_o_iconst (n := 1) (v := 1) (by decide +kernel) (by decide)) ?_
  refine bz_ac (show bz_ok RL cL_law 743 (bz_iadd) from bz_o_iadd (by decide +kernel)) ?_
  refine bz_ac (show bz_ok RL cL_law 744 (bz_iald) from bz_o_iald (by decide +kernel)) ?_
  refine bz_ac (show bz_ok RL cL_law 745 (bz_aload 0 1) from bz_o_aload_n (k := 0) (i := 0) (by decide +kernel) rfl) ?_
  refine bz_ac (show bz_ok RL cL_law 746 (bz_iload 3 1) from bz_o_iload_n (k := 3) (i := 3) (by decide +kernel) rfl) ?_
  refine bz_ac (show bz_ok RL cL_law 747 (bz_push (.int 2) 1) from bz_o_iconst (n := 2) (v := 2) (by decide +kernel) (by decide)) ?_
  refine bz_ac (show bz_ok RL cL_law 748 (bz_iadd) from bz_o_iadd (by decide +kernel)) ?_
  refine bz_ac (show bz_ok RL cL_law 749 (bz_iald) from bz_o_iald (by decide +kernel)) ?_
  refine bz_ac (show bz_ok RL cL_law 750 (bz_aload 0 1) from bz_o_aload_n (k := 0) (i := 0) (by decide +kernel) rfl) ?_
  refine bz_ac (show bz_ok RL cL_law 751 (bz_iload 3 1) from bz_o_iload_n (k := 3) (i := 3) (by decide +kernel) rfl) ?_
  refine bz_ac (show bz_ok RL cL_law 752 (bz_push (.int 3) 1) from bz_o_iconst (n := 3) (v := 3) (by decide +kernel) (by decide)) ?_
  refine bz_ac (show bz_ok RL cL_law 753 (bz_iadd) from bz_o_iadd (by decide +kernel)) ?_
  refine bz_ac (show bz_ok RL cL_law 754 (bz_iald) from bz_o_iald (by decide +kernel)) ?_
  refine bz_ac (show bz_cok bz_P l RL cL_law 9 208 755 mX11_season 4 11 from bz_cV' (own := RL) (idx := 98) (ci := 10) (N := 42) (T := TX11) (n := 3) bp_X11_season bq_X11_season (by decide +kernel) (bz_tb 1065 (by decide +kernel) (by decide +kernel)) (bz_tb 1066 (by decide +kernel) (by decide +kernel)) (bz_tb 1067 (by decide +kernel) (by decide +kernel)) rfl rfl (by decide) (by decide)) ?_
  refine bz_ac (show bz_ok RL cL_law 758 (bz_ic_eq 832) from bz_o_ic_eq (off := 74) (t := 832) (by decide +kernel) (by decide)) ?_
  refine bz_ac (show bz_ok RL cL_law 761 (bz_push (.int 0) 1) from bz_o_iconst (n := 0) (v := 0) (by decide +kernel) (by decide)) ?_
  refine bz_ac (show bz_rok cL_law (some .boolean) 762 3 from Or.inr (Or.inr (Or.inr ⟨rfl, rfl, by decide +kernel⟩))) ?_
  refine bz_ac (show bz_ok RL cL_law 763 (bz_aload 1 1) from bz_o_aload_n (k := 1) (i := 1) (by decide +kernel) rfl) ?_
  refine bz_ac (show bz_ok RL cL_law 764 (bz_aload 0 1) from bz_o_aload_n (k := 0) (i := 0) (by decide +kernel) rfl) ?_
  refine bz_ac (show bz_ok RL cL_law 765 (bz_iload 3 1) from bz_o_iload_n (k := 3) (i := 3) (by decide +kernel) rfl) ?_
  refine bz_ac (show bz_ok RL cL_law 766 (bz_push (.int 1) 1) from bz_o_iconst (n := 1) (v := 1) (by decide +kernel) (by decide)) ?_
  refine bz_ac (show bz_ok RL cL_law 767 (bz_iadd) from bz_o_iadd (by decide +kernel)) ?_
  refine bz_ac (show bz_ok RL cL_law 768 (bz_iald) from bz_o_iald (by decide +kernel)) ?_
  refine bz_ac (show bz_cok bz_P l RL cL_law 9 208 769 mX10_image 2 10 from bz_cV' (own := RL) (idx := 99) (ci := 9) (N := 8) (T := TX10) (n := 1) bp_X10_image bq_X10_image (by decide +kernel) (bz_tb 641 (by decide +kernel) (by decide +kernel)) (bz_tb 642 (by decide +kernel) (by decide +kernel)) (bz_tb 643 (by decide +kernel) (by decide +kernel)) rfl rfl (by decide) (by decide)) ?_
  refine bz_ac (show bz_ok RL cL_law 772 (bz_aload 2 1) from bz_o_aload_n (k := 2) (i := 2) (by decide +kernel) rfl) ?_
  refine bz_ac (show bz_ok RL cL_law 773 (bz_aload 0 1) from bz_o_aload_n (k := 0) (i := 0) (by decide +kernel) rfl) ?_
  refine bz_ac (show bz_ok RL cL_law 774 (bz_iload 3 1) from bz_o_iload_n (k := 3) (i := 3) (by decide +kernel) rfl) ?_
  refine bz_ac (show bz_ok RL cL_law 775 (bz_push (.int 1) 1) from bz_o_iconst (n := 1) (v := 1) (by decide +kernel) (by decide)) ?_
  refine bz_ac (show bz_ok RL cL_law 776 (bz_iadd) from bz_o_iadd (by decide +kernel)) ?_
  refine bz_ac (show bz_ok RL cL_law 777 (bz_iald) from bz_o_iald (by decide +kernel)) ?_
  refine bz_ac (show bz_cok bz_P l RL cL_law 9 208 778 mX11_image 2 11 from bz_cV' (own := RL) (idx := 102) (ci := 10) (N := 42) (T := TX11) (n := 1) bp_X11_image bq_X11_image (by decide +kernel) (bz_tb 1076 (by decide +kernel) (by decide +kernel)) (bz_tb 1077 (by decide +kernel) (by decide +kernel)) (bz_tb 1078 (by decide +kernel) (by decide +kernel)) rfl rfl (by decide) (by decide)) ?_
  refine bz_ac (show bz_ok RL cL_law 781 (bz_ic_eq 832) from bz_o_ic_eq (off := 51) (t := 832) (by decide +kernel) (by decide)) ?_
  refine bz_ac (show bz_ok RL cL_law 784 (bz_push (.int 0) 1) from bz_o_iconst (n := 0) (v := 0) (by decide +kernel) (by decide)) ?_
  refine bz_ac (show bz_rok cL_law (some .boolean) 785 3 from Or.inr (Or.inr (Or.inr ⟨rfl, rfl, by decide +kernel⟩))) ?_
  refine bz_ac (show bz_ok RL cL_law 786 (bz_aload 1 1) from bz_o_aload_n (k := 1) (i := 1) (by decide +kernel) rfl) ?_
  refine bz_ac (show bz_ok RL cL_law 787 (bz_aload 0 1) from bz_o_aload_n (k := 0) (i := 0) (by decide +kernel) rfl) ?_
  refine bz_ac (show bz_ok RL cL_law 788 (bz_iload 3 1) from bz_o_iload_n (k := 3) (i := 3) (by decide +kernel) rfl) ?_
  refine bz_ac (show bz_ok RL cL_law 789 (bz_push (.int 1) 1) from bz_o_iconst (n := 1) (v := 1) (by decide +kernel) (by decide)) ?_
  refine bz_ac (show bz_ok RL cL_law 790 (bz_iadd) from bz_o_iadd (by decide +kernel)) ?_
  refine bz_ac (show bz_ok RL cL_law 791 (bz_iald) from bz_o_iald (by decide +kernel)) ?_
  refine bz_ac (show bz_cok bz_P l RL cL_law 9 208 792 mX10_restore 2 10 from bz_cV' (own := RL) (idx := 103) (ci := 9) (N := 8) (T := TX10) (n := 1) bp_X10_restore bq_X10_restore (by decide +kernel) (bz_tb 654 (by decide +kernel) (by decide +kernel)) (bz_tb 655 (by decide +kernel) (by decide +kernel)) (bz_tb 656 (by decide +kernel) (by decide +kernel)) rfl rfl (by decide) (by decide)) ?_
  refine bz_ac (show bz_ok RL cL_law 795 (bz_aload 2 1) from bz_o_aload_n (k := 2) (i := 2) (by decide +kernel) rfl) ?_
  refine bz_ac (show bz_ok RL cL_law 796 (bz_aload 0 1) from bz_o_aload_n (k := 0) (i := 0) (by decide +kernel) rfl) ?_
  refine bz_ac (show bz_ok RL cL_law 797 (bz_iload 3 1) from bz_o_iload_n (k := 3) (i := 3) (by decide +kernel) rfl) ?_
  refine bz_ac (show bz_ok RL cL_law 798 (bz_push (.int 1) 1) from bz_o_iconst (n := 1) (v := 1) (by decide +kernel) (by decide)) ?_
  refine bz_ac (show bz_ok RL cL_law 799 (bz_iadd) from bz_o_iadd (by decide +kernel)) ?_
  refine bz_ac (show bz_ok RL cL_law 800 (bz_iald) from bz_o_iald (by decide +kernel)) ?_
  refine bz_ac (show bz_cok bz_P l RL cL_law 9 208 801 mX11_restore 2 11 from bz_cV' (own := RL) (idx := 106) (ci := 10) (N := 42) (T := TX11) (n := 1) bp_X11_restore bq_X11_restore (by decide +kernel) (bz_tb 1092 (by decide +kernel) (by decide +kernel)) (bz_tb 1093 (by decide +kernel) (by decide +kernel)) (bz_tb 1094 (by decide +kernel) (by decide +kernel)) rfl rfl (by decide) (by decide)) ?_
  refine bz_ac (show bz_ok RL cL_law 804 (bz_ic_eq 832) from bz_o_ic_eq (off := 28) (t := 832) (by decide +kernel) (by decide)) ?_
  refine bz_ac (show bz_ok RL cL_law 807 (bz_push (.int 0) 1) from bz_o_iconst (n := 0) (v := 0) (by decide +kernel) (by decide)) ?_
  refine bz_ac (show bz_rok cL_law (some .boolean) 808 3 from Or.inr (Or.inr (Or.inr ⟨rfl, rfl, by decide +kernel⟩))) ?_
  refine bz_ac (show bz_ok RL cL_law 809 (bz_aload 1 1) from bz_o_aload_n (k := 1) (i := 1) (by decide +kernel) rfl) ?_
  refine bz_ac (show bz_ok RL cL_law 810 (bz_aload 0 1) from bz_o_aload_n (k := 0) (i := 0) (by decide +kernel) rfl) ?_
  refine bz_ac (show bz_ok RL cL_law 811 (bz_iload 3 1) from bz_o_iload_n (k := 3) (i := 3) (by decide +kernel) rfl) ?_
  refine bz_ac (show bz_ok RL cL_law 812 (bz_push (.int 1) 1) from bz_o_iconst (n := 1) (v := 1) (by decide +kernel) (by decide)) ?_
  refine bz_ac (show bz_ok RL cL_law 813 (bz_iadd) from bz_o_iadd (by decide +kernel)) ?_
  refine bz_ac (show bz_ok RL cL_law 814 (bz_iald) from bz_o_iald (by decide +kernel)) ?_
  refine bz_ac (show bz_cok bz_P l RL cL_law 9 208 815 mX10_told 2 10 from bz_cV' (own := RL) (idx := 107) (ci := 9) (N := 8) (T := TX10) (n := 1) bp_X10_told bq_X10_told (by decide +kernel) (bz_tb 659 (by decide +kernel) (by decide +kernel)) (bz_tb 660 (by decide +kernel) (by decide +kernel)) (bz_tb 661 (by decide +kernel) (by decide +kernel)) rfl rfl (by decide) (by decide)) ?_
  refine bz_ac (show bz_ok RL cL_law 818 (bz_aload 2 1) from bz_o_aload_n (k := 2) (i := 2) (by decide +kernel) rfl) ?_
  refine bz_ac (show bz_ok RL cL_law 819 (bz_aload 0 1) from bz_o_aload_n (k := 0) (i := 0) (by decide +kernel) rfl) ?_
  refine bz_ac (show bz_ok RL cL_law 820 (bz_iload 3 1) from bz_o_iload_n (k := 3) (i := 3) (by decide +kernel) rfl) ?_
  refine bz_ac (show bz_ok RL cL_law 821 (bz_push (.int 1) 1) from bz_o_iconst (n := 1) (v := 1) (by decide +kernel) (by decide)) ?_
  refine bz_ac (show bz_ok RL cL_law 822 (bz_iadd) from bz_o_iadd (by decide +kernel)) ?_
  refine bz_ac (show bz_ok RL cL_law 823 (bz_iald) from bz_o_iald (by decide +kernel)) ?_
  refine bz_ac (show bz_cok bz_P l RL cL_law 9 208 824 mX11_told 2 11 from bz_cV' (own := RL) (idx := 110) (ci := 10) (N := 42) (T := TX11) (n := 1) bp_X11_told bq_X11_told (by decide +kernel) (bz_tb 1096 (by decide +kernel) (by decide +kernel)) (bz_tb 1097 (by decide +kernel) (by decide +kernel)) (bz_tb 1098 (by decide +kernel) (by decide +kernel)) rfl rfl (by decide) (by decide)) ?_
  refine bz_ac (show bz_ok RL cL_law 827 (bz_ic_eq 832) from bz_o_ic_eq (off := 5) (t := 832) (by decide +kernel) (by decide)) ?_
  refine bz_ac (show bz_ok RL cL_law 830 (bz_push (.int 0) 1) from bz_o_iconst (n := 0) (v := 0) (by decide +kernel) (by decide)) ?_
  refine bz_ac (show bz_rok cL_law (some .boolean) 831 3 from Or.inr (Or.inr (Or.inr ⟨rfl, rfl, by decide +kernel⟩))) ?_
  refine bz_ac (show bz_ok RL cL_law 832 (bz_iinc 3 7) from bz_o_iinc (i := 3) (n := 7) (v := 7) (by decide +kernel) (by decide)) ?_
  refine bz_ac (show bz_ok RL cL_law 835 (bz_goto 18) from bz_o_goto (off := (-817)) (t := 18) (by decide +kernel) (by decide)) ?_
  refine bz_ac (show bz_ok RL cL_law 838 (bz_push (.int 1) 1) from bz_o_iconst (n := 1) (v := 1) (by decide +kernel) (by decide)) ?_
  refine bz_ac (show bz_rok cL_law (some .boolean) 839 3 from Or.inr (Or.inr (Or.inr ⟨rfl, rfl, by decide +kernel⟩))) ?_
  exact bz_an
