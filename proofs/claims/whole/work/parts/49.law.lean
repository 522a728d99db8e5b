def f_L_law__b2771 (g : GW) (k23 : Nat → Nat → Nat → Int32 → Mo Int32) (a1 : Nat) (a2 : Nat) (a3 : Nat) (x4 : Int32) : Mo Int32 := k23 a1 a2 a3 (x4 + 9)
def f_L_law__b236 (g : GW) (k23 : Nat → Nat → Nat → Int32 → Mo Int32) (a1 : Nat) (a2 : Nat) (a3 : Nat) (x4 : Int32) : Mo Int32 := bd (sL g (x4 + (1 : Int32))) fun v1 => bd (sL g (x4 + (2 : Int32))) fun v2 => bd (sL g (x4 + (3 : Int32))) fun v3 => bd (sL g (x4 + (4 : Int32))) fun v4 => bd (sL g (x4 + (5 : Int32))) fun v5 => bd (cv 11 a1 (f_X11_feed a1 v1 v2 v3 v4 v5)) fun v6 => bd (sL g (x4 + (1 : Int32))) fun v7 => bd (sL g (x4 + (2 : Int32))) fun v8 => bd (sL g (x4 + (3 : Int32))) fun v9 => bd (sL g (x4 + (4 : Int32))) fun v10 => bd (sL g (x4 + (5 : Int32))) fun v11 => bd (cv 12 a2 (f_X12_feed a2 v7 v8 v9 v10 v11)) fun v12 => if (v6 = v12 : Prop) then (f_L_law__b2771 g k23 a1 a2 a3 x4) else pu 0
def f_L_law__b362 (g : GW) (k23 : Nat → Nat → Nat → Int32 → Mo Int32) (a1 : Nat) (a2 : Nat) (a3 : Nat) (x4 : Int32) : Mo Int32 := f_L_law__b2771 g k23 a1 a2 a3 x4
def f_L_law__b309 (g : GW) (k23 : Nat → Nat → Nat → Int32 → Mo Int32) (a1 : Nat) (a2 : Nat) (a3 : Nat) (x4 : Int32) : Mo Int32 := bd (sL g (x4 + (1 : Int32))) fun v13 => bd (f_L_town a1 v13 a3) fun v14 => bd (sL g (x4 + (1 : Int32))) fun v15 => bd (cv 12 a2 (f_X12_town a2 v15)) fun v16 => bd (cv 12 a2 (f_X12_thrown a2)) fun v17 => if (v17 = v14 : Prop) then (if (v14 = 0 : Prop) then (bd (ll a3 0) fun w18 => if ((lg_cmp w18 (Int32.toInt64 v16)) = 0 : Prop) then (f_L_law__b362 g k23 a1 a2 a3 x4) else pu 0) else f_L_law__b362 g k23 a1 a2 a3 x4) else pu 0
def f_L_law__b418 (g : GW) (k23 : Nat → Nat → Nat → Int32 → Mo Int32) (a1 : Nat) (a2 : Nat) (a3 : Nat) (x4 : Int32) : Mo Int32 := f_L_law__b2771 g k23 a1 a2 a3 x4
def f_L_law__b365 (g : GW) (k23 : Nat → Nat → Nat → Int32 → Mo Int32) (a1 : Nat) (a2 : Nat) (a3 : Nat) (x4 : Int32) : Mo Int32 := bd (sL g (x4 + (1 : Int32))) fun v19 => bd (f_L_law a1 v19 a3) fun v20 => bd (sL g (x4 + (1 : Int32))) fun v21 => bd (cv 12 a2 (f_X12_law a2 v21)) fun v22 => bd (cv 12 a2 (f_X12_thrown a2)) fun v23 => if (v23 = v20 : Prop) then (if (v20 = 0 : Prop) then (bd (ll a3 0) fun w24 => if ((lg_cmp w24 (Int32.toInt64 v22)) = 0 : Prop) then (f_L_law__b418 g k23 a1 a2 a3 x4) else pu 0) else f_L_law__b418 g k23 a1 a2 a3 x4) else pu 0
def f_L_law__b474 (g : GW) (k23 : Nat → Nat → Nat → Int32 → Mo Int32) (a1 : Nat) (a2 : Nat) (a3 : Nat) (x4 : Int32) : Mo Int32 := f_L_law__b2771 g k23 a1 a2 a3 x4
def f_L_law__b421 (g : GW) (k23 : Nat → Nat → Nat → Int32 → Mo Int32) (a1 : Nat) (a2 : Nat) (a3 : Nat) (x4 : Int32) : Mo Int32 := bd (sL g (x4 + (1 : Int32))) fun v25 => bd (f_L_work a1 v25 a3) fun v26 => bd (sL g (x4 + (1 : Int32))) fun v27 => bd (cv 12 a2 (f_X12_work a2 v27)) fun v28 => bd (cv 12 a2 (f_X12_thrown a2)) fun v29 => if (v29 = v26 : Prop) then (if (v26 = 0 : Prop) then (bd (ll a3 0) fun w30 => if ((lg_cmp w30 (Int32.toInt64 v28)) = 0 : Prop) then (f_L_law__b474 g k23 a1 a2 a3 x4) else pu 0) else f_L_law__b474 g k23 a1 a2 a3 x4) else pu 0
def f_L_law__b530 (g : GW) (k23 : Nat → Nat → Nat → Int32 → Mo Int32) (a1 : Nat) (a2 : Nat) (a3 : Nat) (x4 : Int32) : Mo Int32 := f_L_law__b2771 g k23 a1 a2 a3 x4
def f_L_law__b477 (g : GW) (k23 : Nat → Nat → Nat → Int32 → Mo Int32) (a1 : Nat) (a2 : Nat) (a3 : Nat) (x4 : Int32) : Mo Int32 := bd (sL g (x4 + (1 : Int32))) fun v31 => bd (f_L_words a1 v31 a3) fun v32 => bd (sL g (x4 + (1 : Int32))) fun v33 => bd (cv 12 a2 (f_X12_words a2 v33)) fun v34 => bd (cv 12 a2 (f_X12_thrown a2)) fun v35 => if (v35 = v32 : Prop) then (if (v32 = 0 : Prop) then (bd (ll a3 0) fun w36 => if ((lg_cmp w36 (Int32.toInt64 v34)) = 0 : Prop) then (f_L_law__b530 g k23 a1 a2 a3 x4) else pu 0) else f_L_law__b530 g k23 a1 a2 a3 x4) else pu 0
def f_L_law__b533 (g : GW) (k23 : Nat → Nat → Nat → Int32 → Mo Int32) (a1 : Nat) (a2 : Nat) (a3 : Nat) (x4 : Int32) : Mo Int32 := bd (cv 11 a1 (f_X11_fault a1)) fun v37 => bd (cv 12 a2 (f_X12_fault a2)) fun v38 => if (v37 = v38 : Prop) then (f_L_law__b2771 g k23 a1 a2 a3 x4) else pu 0
def f_L_law__b546 (g : GW) (k23 : Nat → Nat → Nat → Int32 → Mo Int32) (a1 : Nat) (a2 : Nat) (a3 : Nat) (x4 : Int32) : Mo Int32 := bd (cv 11 a1 (f_X11_undo a1)) fun v39 => bd (cv 12 a2 (f_X12_undo a2)) fun v40 => if (v39 = v40 : Prop) then (f_L_law__b2771 g k23 a1 a2 a3 x4) else pu 0
def f_L_law__b612 (g : GW) (k23 : Nat → Nat → Nat → Int32 → Mo Int32) (a1 : Nat) (a2 : Nat) (a3 : Nat) (x4 : Int32) : Mo Int32 := f_L_law__b2771 g k23 a1 a2 a3 x4
def f_L_law__b559 (g : GW) (k23 : Nat → Nat → Nat → Int32 → Mo Int32) (a1 : Nat) (a2 : Nat) (a3 : Nat) (x4 : Int32) : Mo Int32 := bd (sL g (x4 + (1 : Int32))) fun v41 => bd (f_L_told a1 v41 a3) fun v42 => bd (sL g (x4 + (1 : Int32))) fun v43 => bd (cv 12 a2 (f_X12_told a2 v43)) fun v44 => bd (cv 12 a2 (f_X12_thrown a2)) fun v45 => if (v45 = v42 : Prop) then (if (v42 = 0 : Prop) then (bd (ll a3 0) fun w46 => if ((lg_cmp w46 (Int32.toInt64 v44)) = 0 : Prop) then (f_L_law__b612 g k23 a1 a2 a3 x4) else pu 0) else f_L_law__b612 g k23 a1 a2 a3 x4) else pu 0
def f_L_law__b680 (g : GW) (k23 : Nat → Nat → Nat → Int32 → Mo Int32) (a1 : Nat) (a2 : Nat) (a3 : Nat) (x4 : Int32) : Mo Int32 := f_L_law__b2771 g k23 a1 a2 a3 x4
def f_L_law__b615 (g : GW) (k23 : Nat → Nat → Nat → Int32 → Mo Int32) (a1 : Nat) (a2 : Nat) (a3 : Nat) (x4 : Int32) : Mo Int32 := bd (sL g (x4 + (1 : Int32))) fun v47 => bd (sL g (x4 + (2 : Int32))) fun v48 => bd (f_L_person a1 v47 v48 a3) fun v49 => bd (sL g (x4 + (1 : Int32))) fun v50 => bd (sL g (x4 + (2 : Int32))) fun v51 => bd (cv 12 a2 (f_X12_person a2 v50 v51)) fun v52 => bd (cv 12 a2 (f_X12_thrown a2)) fun v53 => if (v53 = v49 : Prop) then (if (v49 = 0 : Prop) then (bd (ll a3 0) fun w54 => if ((lg_cmp w54 (Int32.toInt64 v52)) = 0 : Prop) then (f_L_law__b680 g k23 a1 a2 a3 x4) else pu 0) else f_L_law__b680 g k23 a1 a2 a3 x4) else pu 0
def f_L_law__b748 (g : GW) (k23 : Nat → Nat → Nat → Int32 → Mo Int32) (a1 : Nat) (a2 : Nat) (a3 : Nat) (x4 : Int32) : Mo Int32 := f_L_law__b2771 g k23 a1 a2 a3 x4
def f_L_law__b683 (g : GW) (k23 : Nat → Nat → Nat → Int32 → Mo Int32) (a1 : Nat) (a2 : Nat) (a3 : Nat) (x4 : Int32) : Mo Int32 := bd (sL g (x4 + (1 : Int32))) fun v55 => bd (sL g (x4 + (2 : Int32))) fun v56 => bd (f_L_plate a1 v55 v56 a3) fun v57 => bd (sL g (x4 + (1 : Int32))) fun v58 => bd (sL g (x4 + (2 : Int32))) fun v59 => bd (cv 12 a2 (f_X12_plate a2 v58 v59)) fun v60 => bd (cv 12 a2 (f_X12_thrown a2)) fun v61 => if (v61 = v57 : Prop) then (if (v57 = 0 : Prop) then (bd (ll a3 0) fun w62 => if ((lg_cmp w62 (Int32.toInt64 v60)) = 0 : Prop) then (f_L_law__b748 g k23 a1 a2 a3 x4) else pu 0) else f_L_law__b748 g k23 a1 a2 a3 x4) else pu 0
def f_L_law__b816 (g : GW) (k23 : Nat → Nat → Nat → Int32 → Mo Int32) (a1 : Nat) (a2 : Nat) (a3 : Nat) (x4 : Int32) : Mo Int32 := f_L_law__b2771 g k23 a1 a2 a3 x4
def f_L_law__b751 (g : GW) (k23 : Nat → Nat → Nat → Int32 → Mo Int32) (a1 : Nat) (a2 : Nat) (a3 : Nat) (x4 : Int32) : Mo Int32 := bd (sL g (x4 + (1 : Int32))) fun v63 => bd (sL g (x4 + (2 : Int32))) fun v64 => bd (f_L_hall a1 v63 v64 a3) fun v65 => bd (sL g (x4 + (1 : Int32))) fun v66 => bd (sL g (x4 + (2 : Int32))) fun v67 => bd (cv 12 a2 (f_X12_hall a2 v66 v67)) fun v68 => bd (cv 12 a2 (f_X12_thrown a2)) fun v69 => if (v69 = v65 : Prop) then (if (v65 = 0 : Prop) then (bd (ll a3 0) fun w70 => if ((lg_cmp w70 (Int32.toInt64 v68)) = 0 : Prop) then (f_L_law__b816 g k23 a1 a2 a3 x4) else pu 0) else f_L_law__b816 g k23 a1 a2 a3 x4) else pu 0
def f_L_law__b896 (g : GW) (k23 : Nat → Nat → Nat → Int32 → Mo Int32) (a1 : Nat) (a2 : Nat) (a3 : Nat) (x4 : Int32) : Mo Int32 := f_L_law__b2771 g k23 a1 a2 a3 x4
def f_L_law__b819 (g : GW) (k23 : Nat → Nat → Nat → Int32 → Mo Int32) (a1 : Nat) (a2 : Nat) (a3 : Nat) (x4 : Int32) : Mo Int32 := bd (sL g (x4 + (1 : Int32))) fun v71 => bd (sL g (x4 + (2 : Int32))) fun v72 => bd (sL g (x4 + (3 : Int32))) fun v73 => bd (f_L_shown a1 v71 v72 v73 a3) fun v74 => bd (sL g (x4 + (1 : Int32))) fun v75 => bd (sL g (x4 + (2 : Int32))) fun v76 => bd (sL g (x4 + (3 : Int32))) fun v77 => bd (cv 12 a2 (f_X12_shown a2 v75 v76 v77)) fun v78 => bd (cv 12 a2 (f_X12_thrown a2)) fun v79 => if (v79 = v74 : Prop) then (if (v74 = 0 : Prop) then (bd (ll a3 0) fun w80 => if ((lg_cmp w80 (Int32.toInt64 v78)) = 0 : Prop) then (f_L_law__b896 g k23 a1 a2 a3 x4) else pu 0) else f_L_law__b896 g k23 a1 a2 a3 x4) else pu 0
def f_L_law__b1042 (g : GW) (k23 : Nat → Nat → Nat → Int32 → Mo Int32) (a1 : Nat) (a2 : Nat) (a3 : Nat) (x4 : Int32) : Mo Int32 := f_L_law__b2771 g k23 a1 a2 a3 x4
def f_L_law__b899 (g : GW) (k23 : Nat → Nat → Nat → Int32 → Mo Int32) (a1 : Nat) (a2 : Nat) (a3 : Nat) (x4 : Int32) : Mo Int32 := bd (sL g (x4 + (1 : Int32))) fun v81 => bd (sL g (x4 + (2 : Int32))) fun v82 => bd (sL g (x4 + (3 : Int32))) fun v83 => bd (sL g (x4 + (4 : Int32))) fun v84 => bd (sL g (x4 + (5 : Int32))) fun v85 => bd (sL g (x4 + (6 : Int32))) fun v86 => bd (sL g (x4 + (7 : Int32))) fun v87 => bd (sL g (x4 + (8 : Int32))) fun v88 => bd (f_L_would a1 v81 v82 v83 v84 v85 v86 v87 v88 a3) fun v89 => bd (sL g (x4 + (1 : Int32))) fun v90 => bd (sL g (x4 + (2 : Int32))) fun v91 => bd (sL g (x4 + (3 : Int32))) fun v92 => bd (sL g (x4 + (4 : Int32))) fun v93 => bd (sL g (x4 + (5 : Int32))) fun v94 => bd (sL g (x4 + (6 : Int32))) fun v95 => bd (sL g (x4 + (7 : Int32))) fun v96 => bd (sL g (x4 + (8 : Int32))) fun v97 => bd (cv 12 a2 (f_X12_would a2 v90 v91 v92 v93 v94 v95 v96 v97)) fun v98 => bd (cv 12 a2 (f_X12_thrown a2)) fun v99 => if (v99 = v89 : Prop) then (if (v89 = 0 : Prop) then (bd (ll a3 0) fun w100 => if ((lg_cmp w100 (Int32.toInt64 v98)) = 0 : Prop) then (f_L_law__b1042 g k23 a1 a2 a3 x4) else pu 0) else f_L_law__b1042 g k23 a1 a2 a3 x4) else pu 0
def f_L_law__b1110 (g : GW) (k23 : Nat → Nat → Nat → Int32 → Mo Int32) (a1 : Nat) (a2 : Nat) (a3 : Nat) (x4 : Int32) : Mo Int32 := f_L_law__b2771 g k23 a1 a2 a3 x4
def f_L_law__b1045 (g : GW) (k23 : Nat → Nat → Nat → Int32 → Mo Int32) (a1 : Nat) (a2 : Nat) (a3 : Nat) (x4 : Int32) : Mo Int32 := bd (sL g (x4 + (1 : Int32))) fun v101 => bd (sL g (x4 + (2 : Int32))) fun v102 => bd (f_L_unlike a1 v101 v102 a3) fun v103 => bd (sL g (x4 + (1 : Int32))) fun v104 => bd (sL g (x4 + (2 : Int32))) fun v105 => bd (cv 12 a2 (f_X12_unlike a2 v104 v105)) fun v106 => bd (cv 12 a2 (f_X12_thrown a2)) fun v107 => if (v107 = v103 : Prop) then (if (v103 = 0 : Prop) then (bd (ll a3 0) fun w108 => if ((lg_cmp w108 (Int32.toInt64 v106)) = 0 : Prop) then (f_L_law__b1110 g k23 a1 a2 a3 x4) else pu 0) else f_L_law__b1110 g k23 a1 a2 a3 x4) else pu 0
def f_L_law__b1113 (g : GW) (k23 : Nat → Nat → Nat → Int32 → Mo Int32) (a1 : Nat) (a2 : Nat) (a3 : Nat) (x4 : Int32) : Mo Int32 := bd (cv 11 a1 (f_X11_had a1)) fun v109 => bd (cv 12 a2 (f_X12_had a2)) fun v110 => if (v109 = v110 : Prop) then (f_L_law__b2771 g k23 a1 a2 a3 x4) else pu 0
def f_L_law__b1126 (g : GW) (k23 : Nat → Nat → Nat → Int32 → Mo Int32) (a1 : Nat) (a2 : Nat) (a3 : Nat) (x4 : Int32) : Mo Int32 := bd (cv 11 a1 (f_X11_mistaken a1)) fun v111 => bd (cv 12 a2 (f_X12_mistaken a2)) fun v112 => if (v111 = v112 : Prop) then (f_L_law__b2771 g k23 a1 a2 a3 x4) else pu 0
def f_L_law__b1192 (g : GW) (k23 : Nat → Nat → Nat → Int32 → Mo Int32) (a1 : Nat) (a2 : Nat) (a3 : Nat) (x4 : Int32) : Mo Int32 := f_L_law__b2771 g k23 a1 a2 a3 x4
def f_L_law__b1139 (g : GW) (k23 : Nat → Nat → Nat → Int32 → Mo Int32) (a1 : Nat) (a2 : Nat) (a3 : Nat) (x4 : Int32) : Mo Int32 := bd (sL g (x4 + (1 : Int32))) fun v113 => bd (f_L_can a1 v113 a3) fun v114 => bd (sL g (x4 + (1 : Int32))) fun v115 => bd (cv 12 a2 (f_X12_can a2 v115)) fun v116 => bd (cv 12 a2 (f_X12_thrown a2)) fun v117 => if (v117 = v114 : Prop) then (if (v114 = 0 : Prop) then (bd (ll a3 0) fun w118 => if ((lg_cmp w118 (Int32.toInt64 v116)) = 0 : Prop) then (f_L_law__b1192 g k23 a1 a2 a3 x4) else pu 0) else f_L_law__b1192 g k23 a1 a2 a3 x4) else pu 0
def f_L_law__b1248 (g : GW) (k23 : Nat → Nat → Nat → Int32 → Mo Int32) (a1 : Nat) (a2 : Nat) (a3 : Nat) (x4 : Int32) : Mo Int32 := f_L_law__b2771 g k23 a1 a2 a3 x4
def f_L_law__b1195 (g : GW) (k23 : Nat → Nat → Nat → Int32 → Mo Int32) (a1 : Nat) (a2 : Nat) (a3 : Nat) (x4 : Int32) : Mo Int32 := bd (sL g (x4 + (1 : Int32))) fun v119 => bd (f_L_fewest a1 v119 a3) fun v120 => bd (sL g (x4 + (1 : Int32))) fun v121 => bd (cv 12 a2 (f_X12_fewest a2 v121)) fun v122 => bd (cv 12 a2 (f_X12_thrown a2)) fun v123 => if (v123 = v120 : Prop) then (if (v120 = 0 : Prop) then (bd (ll a3 0) fun w124 => if ((lg_cmp w124 (Int32.toInt64 v122)) = 0 : Prop) then (f_L_law__b1248 g k23 a1 a2 a3 x4) else pu 0) else f_L_law__b1248 g k23 a1 a2 a3 x4) else pu 0
def f_L_law__b1304 (g : GW) (k23 : Nat → Nat → Nat → Int32 → Mo Int32) (a1 : Nat) (a2 : Nat) (a3 : Nat) (x4 : Int32) : Mo Int32 := f_L_law__b2771 g k23 a1 a2 a3 x4
def f_L_law__b1251 (g : GW) (k23 : Nat → Nat → Nat → Int32 → Mo Int32) (a1 : Nat) (a2 : Nat) (a3 : Nat) (x4 : Int32) : Mo Int32 := bd (sL g (x4 + (1 : Int32))) fun v125 => bd (f_L_nobody a1 v125 a3) fun v126 => bd (sL g (x4 + (1 : Int32))) fun v127 => bd (cv 12 a2 (f_X12_nobody a2 v127)) fun v128 => bd (cv 12 a2 (f_X12_thrown a2)) fun v129 => if (v129 = v126 : Prop) then (if (v126 = 0 : Prop) then (bd (ll a3 0) fun w130 => if ((lg_cmp w130 (Int32.toInt64 v128)) = 0 : Prop) then (f_L_law__b1304 g k23 a1 a2 a3 x4) else pu 0) else f_L_law__b1304 g k23 a1 a2 a3 x4) else pu 0
def f_L_law__b1372 (g : GW) (k23 : Nat → Nat → Nat → Int32 → Mo Int32) (a1 : Nat) (a2 : Nat) (a3 : Nat) (x4 : Int32) : Mo Int32 := f_L_law__b2771 g k23 a1 a2 a3 x4
def f_L_law__b1307 (g : GW) (k23 : Nat → Nat → Nat → Int32 → Mo Int32) (a1 : Nat) (a2 : Nat) (a3 : Nat) (x4 : Int32) : Mo Int32 := bd (sL g (x4 + (1 : Int32))) fun v131 => bd (sL g (x4 + (2 : Int32))) fun v132 => bd (f_L_ring a1 v131 v132 a3) fun v133 => bd (sL g (x4 + (1 : Int32))) fun v134 => bd (sL g (x4 + (2 : Int32))) fun v135 => bd (cv 12 a2 (f_X12_ring a2 v134 v135)) fun v136 => bd (cv 12 a2 (f_X12_thrown a2)) fun v137 => if (v137 = v133 : Prop) then (if (v133 = 0 : Prop) then (bd (ll a3 0) fun w138 => if ((lg_cmp w138 (Int32.toInt64 v136)) = 0 : Prop) then (f_L_law__b1372 g k23 a1 a2 a3 x4) else pu 0) else f_L_law__b1372 g k23 a1 a2 a3 x4) else pu 0
def f_L_law__b1440 (g : GW) (k23 : Nat → Nat → Nat → Int32 → Mo Int32) (a1 : Nat) (a2 : Nat) (a3 : Nat) (x4 : Int32) : Mo Int32 := f_L_law__b2771 g k23 a1 a2 a3 x4
def f_L_law__b1375 (g : GW) (k23 : Nat → Nat → Nat → Int32 → Mo Int32) (a1 : Nat) (a2 : Nat) (a3 : Nat) (x4 : Int32) : Mo Int32 := bd (sL g (x4 + (1 : Int32))) fun v139 => bd (sL g (x4 + (2 : Int32))) fun v140 => bd (f_L_who a1 v139 v140 a3) fun v141 => bd (sL g (x4 + (1 : Int32))) fun v142 => bd (sL g (x4 + (2 : Int32))) fun v143 => bd (cv 12 a2 (f_X12_who a2 v142 v143)) fun v144 => bd (cv 12 a2 (f_X12_thrown a2)) fun v145 => if (v145 = v141 : Prop) then (if (v141 = 0 : Prop) then (bd (ll a3 0) fun w146 => if ((lg_cmp w146 (Int32.toInt64 v144)) = 0 : Prop) then (f_L_law__b1440 g k23 a1 a2 a3 x4) else pu 0) else f_L_law__b1440 g k23 a1 a2 a3 x4) else pu 0
def f_L_law__b1496 (g : GW) (k23 : Nat → Nat → Nat → Int32 → Mo Int32) (a1 : Nat) (a2 : Nat) (a3 : Nat) (x4 : Int32) : Mo Int32 := f_L_law__b2771 g k23 a1 a2 a3 x4
def f_L_law__b1443 (g : GW) (k23 : Nat → Nat → Nat → Int32 → Mo Int32) (a1 : Nat) (a2 : Nat) (a3 : Nat) (x4 : Int32) : Mo Int32 := bd (sL g (x4 + (1 : Int32))) fun v147 => bd (f_L_made a1 v147 a3) fun v148 => bd (sL g (x4 + (1 : Int32))) fun v149 => bd (cv 12 a2 (f_X12_made a2 v149)) fun v150 => bd (cv 12 a2 (f_X12_thrown a2)) fun v151 => if (v151 = v148 : Prop) then (if (v148 = 0 : Prop) then (bd (ll a3 0) fun w152 => if ((lg_cmp w152 (Int32.toInt64 v150)) = 0 : Prop) then (f_L_law__b1496 g k23 a1 a2 a3 x4) else pu 0) else f_L_law__b1496 g k23 a1 a2 a3 x4) else pu 0
def f_L_law__b1552 (g : GW) (k23 : Nat → Nat → Nat → Int32 → Mo Int32) (a1 : Nat) (a2 : Nat) (a3 : Nat) (x4 : Int32) : Mo Int32 := f_L_law__b2771 g k23 a1 a2 a3 x4
def f_L_law__b1499 (g : GW) (k23 : Nat → Nat → Nat → Int32 → Mo Int32) (a1 : Nat) (a2 : Nat) (a3 : Nat) (x4 : Int32) : Mo Int32 := bd (sL g (x4 + (1 : Int32))) fun v153 => bd (f_L_unknown a1 v153 a3) fun v154 => bd (sL g (x4 + (1 : Int32))) fun v155 => bd (cv 12 a2 (f_X12_unknown a2 v155)) fun v156 => bd (cv 12 a2 (f_X12_thrown a2)) fun v157 => if (v157 = v154 : Prop) then (if (v154 = 0 : Prop) then (bd (ll a3 0) fun w158 => if ((lg_cmp w158 (Int32.toInt64 v156)) = 0 : Prop) then (f_L_law__b1552 g k23 a1 a2 a3 x4) else pu 0) else f_L_law__b1552 g k23 a1 a2 a3 x4) else pu 0
def f_L_law__b1608 (g : GW) (k23 : Nat → Nat → Nat → Int32 → Mo Int32) (a1 : Nat) (a2 : Nat) (a3 : Nat) (x4 : Int32) : Mo Int32 := f_L_law__b2771 g k23 a1 a2 a3 x4
def f_L_law__b1555 (g : GW) (k23 : Nat → Nat → Nat → Int32 → Mo Int32) (a1 : Nat) (a2 : Nat) (a3 : Nat) (x4 : Int32) : Mo Int32 := bd (sL g (x4 + (1 : Int32))) fun v159 => bd (f_L_hold a1 v159 a3) fun v160 => bd (sL g (x4 + (1 : Int32))) fun v161 => bd (cv 12 a2 (f_X12_hold a2 v161)) fun v162 => bd (cv 12 a2 (f_X12_thrown a2)) fun v163 => if (v163 = v160 : Prop) then (if (v160 = 0 : Prop) then (bd (ll a3 0) fun w164 => if ((lg_cmp w164 (Int32.toInt64 v162)) = 0 : Prop) then (f_L_law__b1608 g k23 a1 a2 a3 x4) else pu 0) else f_L_law__b1608 g k23 a1 a2 a3 x4) else pu 0
def f_L_law__b1611 (g : GW) (k23 : Nat → Nat → Nat → Int32 → Mo Int32) (a1 : Nat) (a2 : Nat) (a3 : Nat) (x4 : Int32) : Mo Int32 := bd (cv 11 a1 (f_X11_papers a1)) fun v165 => bd (cv 12 a2 (f_X12_papers a2)) fun v166 => if (v165 = v166 : Prop) then (f_L_law__b2771 g k23 a1 a2 a3 x4) else pu 0
def f_L_law__b1677 (g : GW) (k23 : Nat → Nat → Nat → Int32 → Mo Int32) (a1 : Nat) (a2 : Nat) (a3 : Nat) (x4 : Int32) : Mo Int32 := f_L_law__b2771 g k23 a1 a2 a3 x4
def f_L_law__b1624 (g : GW) (k23 : Nat → Nat → Nat → Int32 → Mo Int32) (a1 : Nat) (a2 : Nat) (a3 : Nat) (x4 : Int32) : Mo Int32 := bd (sL g (x4 + (1 : Int32))) fun v167 => bd (f_L_paper a1 v167 a3) fun v168 => bd (sL g (x4 + (1 : Int32))) fun v169 => bd (cv 12 a2 (f_X12_paper a2 v169)) fun v170 => bd (cv 12 a2 (f_X12_thrown a2)) fun v171 => if (v171 = v168 : Prop) then (if (v168 = 0 : Prop) then (bd (ll a3 0) fun w172 => if ((lg_cmp w172 (Int32.toInt64 v170)) = 0 : Prop) then (f_L_law__b1677 g k23 a1 a2 a3 x4) else pu 0) else f_L_law__b1677 g k23 a1 a2 a3 x4) else pu 0
def f_L_law__b1769 (g : GW) (k23 : Nat → Nat → Nat → Int32 → Mo Int32) (a1 : Nat) (a2 : Nat) (a3 : Nat) (x4 : Int32) : Mo Int32 := f_L_law__b2771 g k23 a1 a2 a3 x4
def f_L_law__b1680 (g : GW) (k23 : Nat → Nat → Nat → Int32 → Mo Int32) (a1 : Nat) (a2 : Nat) (a3 : Nat) (x4 : Int32) : Mo Int32 := bd (sL g (x4 + (1 : Int32))) fun v173 => bd (sL g (x4 + (2 : Int32))) fun v174 => bd (sL g (x4 + (3 : Int32))) fun v175 => bd (sL g (x4 + (4 : Int32))) fun v176 => bd (f_L_bids a1 v173 v174 v175 v176 a3) fun v177 => bd (sL g (x4 + (1 : Int32))) fun v178 => bd (sL g (x4 + (2 : Int32))) fun v179 => bd (sL g (x4 + (3 : Int32))) fun v180 => bd (sL g (x4 + (4 : Int32))) fun v181 => bd (cv 12 a2 (f_X12_bids a2 v178 v179 v180 v181)) fun v182 => bd (cv 12 a2 (f_X12_thrown a2)) fun v183 => if (v183 = v177 : Prop) then (if (v177 = 0 : Prop) then (bd (ll a3 0) fun w184 => if ((lg_cmp w184 (Int32.toInt64 v182)) = 0 : Prop) then (f_L_law__b1769 g k23 a1 a2 a3 x4) else pu 0) else f_L_law__b1769 g k23 a1 a2 a3 x4) else pu 0
def f_L_law__b1849 (g : GW) (k23 : Nat → Nat → Nat → Int32 → Mo Int32) (a1 : Nat) (a2 : Nat) (a3 : Nat) (x4 : Int32) : Mo Int32 := f_L_law__b2771 g k23 a1 a2 a3 x4
def f_L_law__b1772 (g : GW) (k23 : Nat → Nat → Nat → Int32 → Mo Int32) (a1 : Nat) (a2 : Nat) (a3 : Nat) (x4 : Int32) : Mo Int32 := bd (sL g (x4 + (1 : Int32))) fun v185 => bd (sL g (x4 + (2 : Int32))) fun v186 => bd (sL g (x4 + (3 : Int32))) fun v187 => bd (f_L_share a1 v185 v186 v187 a3) fun v188 => bd (sL g (x4 + (1 : Int32))) fun v189 => bd (sL g (x4 + (2 : Int32))) fun v190 => bd (sL g (x4 + (3 : Int32))) fun v191 => bd (cv 12 a2 (f_X12_share a2 v189 v190 v191)) fun v192 => bd (cv 12 a2 (f_X12_thrown a2)) fun v193 => if (v193 = v188 : Prop) then (if (v188 = 0 : Prop) then (bd (ll a3 0) fun w194 => if ((lg_cmp w194 (Int32.toInt64 v192)) = 0 : Prop) then (f_L_law__b1849 g k23 a1 a2 a3 x4) else pu 0) else f_L_law__b1849 g k23 a1 a2 a3 x4) else pu 0
def f_L_law__b1905 (g : GW) (k23 : Nat → Nat → Nat → Int32 → Mo Int32) (a1 : Nat) (a2 : Nat) (a3 : Nat) (x4 : Int32) : Mo Int32 := f_L_law__b2771 g k23 a1 a2 a3 x4
def f_L_law__b1852 (g : GW) (k23 : Nat → Nat → Nat → Int32 → Mo Int32) (a1 : Nat) (a2 : Nat) (a3 : Nat) (x4 : Int32) : Mo Int32 := bd (sL g (x4 + (1 : Int32))) fun v195 => bd (f_L_busiest a1 v195 a3) fun v196 => bd (sL g (x4 + (1 : Int32))) fun v197 => bd (cv 12 a2 (f_X12_busiest a2 v197)) fun v198 => bd (cv 12 a2 (f_X12_thrown a2)) fun v199 => if (v199 = v196 : Prop) then (if (v196 = 0 : Prop) then (bd (ll a3 0) fun w200 => if ((lg_cmp w200 (Int32.toInt64 v198)) = 0 : Prop) then (f_L_law__b1905 g k23 a1 a2 a3 x4) else pu 0) else f_L_law__b1905 g k23 a1 a2 a3 x4) else pu 0
def f_L_law__b1908 (g : GW) (k23 : Nat → Nat → Nat → Int32 → Mo Int32) (a1 : Nat) (a2 : Nat) (a3 : Nat) (x4 : Int32) : Mo Int32 := bd (cv 11 a1 (f_X11_unseen a1)) fun v201 => bd (cv 12 a2 (f_X12_unseen a2)) fun v202 => if (v201 = v202 : Prop) then (f_L_law__b2771 g k23 a1 a2 a3 x4) else pu 0
def f_L_law__b1974 (g : GW) (k23 : Nat → Nat → Nat → Int32 → Mo Int32) (a1 : Nat) (a2 : Nat) (a3 : Nat) (x4 : Int32) : Mo Int32 := f_L_law__b2771 g k23 a1 a2 a3 x4
def f_L_law__b1921 (g : GW) (k23 : Nat → Nat → Nat → Int32 → Mo Int32) (a1 : Nat) (a2 : Nat) (a3 : Nat) (x4 : Int32) : Mo Int32 := bd (sL g (x4 + (1 : Int32))) fun v203 => bd (f_L_where a1 v203 a3) fun v204 => bd (sL g (x4 + (1 : Int32))) fun v205 => bd (cv 12 a2 (f_X12_where a2 v205)) fun v206 => bd (cv 12 a2 (f_X12_thrown a2)) fun v207 => if (v207 = v204 : Prop) then (if (v204 = 0 : Prop) then (bd (ll a3 0) fun w208 => if ((lg_cmp w208 (Int32.toInt64 v206)) = 0 : Prop) then (f_L_law__b1974 g k23 a1 a2 a3 x4) else pu 0) else f_L_law__b1974 g k23 a1 a2 a3 x4) else pu 0
def f_L_law__b2030 (g : GW) (k23 : Nat → Nat → Nat → Int32 → Mo Int32) (a1 : Nat) (a2 : Nat) (a3 : Nat) (x4 : Int32) : Mo Int32 := f_L_law__b2771 g k23 a1 a2 a3 x4
def f_L_law__b1977 (g : GW) (k23 : Nat → Nat → Nat → Int32 → Mo Int32) (a1 : Nat) (a2 : Nat) (a3 : Nat) (x4 : Int32) : Mo Int32 := bd (sL g (x4 + (1 : Int32))) fun v209 => bd (f_L_twins a1 v209 a3) fun v210 => bd (sL g (x4 + (1 : Int32))) fun v211 => bd (cv 12 a2 (f_X12_twins a2 v211)) fun v212 => bd (cv 12 a2 (f_X12_thrown a2)) fun v213 => if (v213 = v210 : Prop) then (if (v210 = 0 : Prop) then (bd (ll a3 0) fun w214 => if ((lg_cmp w214 (Int32.toInt64 v212)) = 0 : Prop) then (f_L_law__b2030 g k23 a1 a2 a3 x4) else pu 0) else f_L_law__b2030 g k23 a1 a2 a3 x4) else pu 0
def f_L_law__b2098 (g : GW) (k23 : Nat → Nat → Nat → Int32 → Mo Int32) (a1 : Nat) (a2 : Nat) (a3 : Nat) (x4 : Int32) : Mo Int32 := f_L_law__b2771 g k23 a1 a2 a3 x4
def f_L_law__b2033 (g : GW) (k23 : Nat → Nat → Nat → Int32 → Mo Int32) (a1 : Nat) (a2 : Nat) (a3 : Nat) (x4 : Int32) : Mo Int32 := bd (sL g (x4 + (1 : Int32))) fun v215 => bd (sL g (x4 + (2 : Int32))) fun v216 => bd (f_L_chain a1 v215 v216 a3) fun v217 => bd (sL g (x4 + (1 : Int32))) fun v218 => bd (sL g (x4 + (2 : Int32))) fun v219 => bd (cv 12 a2 (f_X12_chain a2 v218 v219)) fun v220 => bd (cv 12 a2 (f_X12_thrown a2)) fun v221 => if (v221 = v217 : Prop) then (if (v217 = 0 : Prop) then (bd (ll a3 0) fun w222 => if ((lg_cmp w222 (Int32.toInt64 v220)) = 0 : Prop) then (f_L_law__b2098 g k23 a1 a2 a3 x4) else pu 0) else f_L_law__b2098 g k23 a1 a2 a3 x4) else pu 0
def f_L_law__b2166 (g : GW) (k23 : Nat → Nat → Nat → Int32 → Mo Int32) (a1 : Nat) (a2 : Nat) (a3 : Nat) (x4 : Int32) : Mo Int32 := f_L_law__b2771 g k23 a1 a2 a3 x4
def f_L_law__b2101 (g : GW) (k23 : Nat → Nat → Nat → Int32 → Mo Int32) (a1 : Nat) (a2 : Nat) (a3 : Nat) (x4 : Int32) : Mo Int32 := bd (sL g (x4 + (1 : Int32))) fun v223 => bd (sL g (x4 + (2 : Int32))) fun v224 => bd (f_L_looks a1 v223 v224 a3) fun v225 => bd (sL g (x4 + (1 : Int32))) fun v226 => bd (sL g (x4 + (2 : Int32))) fun v227 => bd (cv 12 a2 (f_X12_looks a2 v226 v227)) fun v228 => bd (cv 12 a2 (f_X12_thrown a2)) fun v229 => if (v229 = v225 : Prop) then (if (v225 = 0 : Prop) then (bd (ll a3 0) fun w230 => if ((lg_cmp w230 (Int32.toInt64 v228)) = 0 : Prop) then (f_L_law__b2166 g k23 a1 a2 a3 x4) else pu 0) else f_L_law__b2166 g k23 a1 a2 a3 x4) else pu 0
def f_L_law__b2234 (g : GW) (k23 : Nat → Nat → Nat → Int32 → Mo Int32) (a1 : Nat) (a2 : Nat) (a3 : Nat) (x4 : Int32) : Mo Int32 := f_L_law__b2771 g k23 a1 a2 a3 x4
def f_L_law__b2169 (g : GW) (k23 : Nat → Nat → Nat → Int32 → Mo Int32) (a1 : Nat) (a2 : Nat) (a3 : Nat) (x4 : Int32) : Mo Int32 := bd (sL g (x4 + (1 : Int32))) fun v231 => bd (sL g (x4 + (2 : Int32))) fun v232 => bd (f_L_cheapest a1 v231 v232 a3) fun v233 => bd (sL g (x4 + (1 : Int32))) fun v234 => bd (sL g (x4 + (2 : Int32))) fun v235 => bd (cv 12 a2 (f_X12_cheapest a2 v234 v235)) fun v236 => bd (cv 12 a2 (f_X12_thrown a2)) fun v237 => if (v237 = v233 : Prop) then (if (v233 = 0 : Prop) then (bd (ll a3 0) fun w238 => if ((lg_cmp w238 (Int32.toInt64 v236)) = 0 : Prop) then (f_L_law__b2234 g k23 a1 a2 a3 x4) else pu 0) else f_L_law__b2234 g k23 a1 a2 a3 x4) else pu 0
def f_L_law__b2290 (g : GW) (k23 : Nat → Nat → Nat → Int32 → Mo Int32) (a1 : Nat) (a2 : Nat) (a3 : Nat) (x4 : Int32) : Mo Int32 := f_L_law__b2771 g k23 a1 a2 a3 x4
def f_L_law__b2237 (g : GW) (k23 : Nat → Nat → Nat → Int32 → Mo Int32) (a1 : Nat) (a2 : Nat) (a3 : Nat) (x4 : Int32) : Mo Int32 := bd (sL g (x4 + (1 : Int32))) fun v239 => bd (f_L_common a1 v239 a3) fun v240 => bd (sL g (x4 + (1 : Int32))) fun v241 => bd (cv 12 a2 (f_X12_common a2 v241)) fun v242 => bd (cv 12 a2 (f_X12_thrown a2)) fun v243 => if (v243 = v240 : Prop) then (if (v240 = 0 : Prop) then (bd (ll a3 0) fun w244 => if ((lg_cmp w244 (Int32.toInt64 v242)) = 0 : Prop) then (f_L_law__b2290 g k23 a1 a2 a3 x4) else pu 0) else f_L_law__b2290 g k23 a1 a2 a3 x4) else pu 0
def f_L_law__b2358 (g : GW) (k23 : Nat → Nat → Nat → Int32 → Mo Int32) (a1 : Nat) (a2 : Nat) (a3 : Nat) (x4 : Int32) : Mo Int32 := f_L_law__b2771 g k23 a1 a2 a3 x4
def f_L_law__b2293 (g : GW) (k23 : Nat → Nat → Nat → Int32 → Mo Int32) (a1 : Nat) (a2 : Nat) (a3 : Nat) (x4 : Int32) : Mo Int32 := bd (sL g (x4 + (1 : Int32))) fun v245 => bd (sL g (x4 + (2 : Int32))) fun v246 => bd (f_L_moodFor a1 v245 v246 a3) fun v247 => bd (sL g (x4 + (1 : Int32))) fun v248 => bd (sL g (x4 + (2 : Int32))) fun v249 => bd (cv 12 a2 (f_X12_moodFor a2 v248 v249)) fun v250 => bd (cv 12 a2 (f_X12_thrown a2)) fun v251 => if (v251 = v247 : Prop) then (if (v247 = 0 : Prop) then (bd (ll a3 0) fun w252 => if ((lg_cmp w252 (Int32.toInt64 v250)) = 0 : Prop) then (f_L_law__b2358 g k23 a1 a2 a3 x4) else pu 0) else f_L_law__b2358 g k23 a1 a2 a3 x4) else pu 0
def f_L_law__b2414 (g : GW) (k23 : Nat → Nat → Nat → Int32 → Mo Int32) (a1 : Nat) (a2 : Nat) (a3 : Nat) (x4 : Int32) : Mo Int32 := f_L_law__b2771 g k23 a1 a2 a3 x4
def f_L_law__b2361 (g : GW) (k23 : Nat → Nat → Nat → Int32 → Mo Int32) (a1 : Nat) (a2 : Nat) (a3 : Nat) (x4 : Int32) : Mo Int32 := bd (sL g (x4 + (1 : Int32))) fun v253 => bd (f_L_lost a1 v253 a3) fun v254 => bd (sL g (x4 + (1 : Int32))) fun v255 => bd (cv 12 a2 (f_X12_lost a2 v255)) fun v256 => bd (cv 12 a2 (f_X12_thrown a2)) fun v257 => if (v257 = v254 : Prop) then (if (v254 = 0 : Prop) then (bd (ll a3 0) fun w258 => if ((lg_cmp w258 (Int32.toInt64 v256)) = 0 : Prop) then (f_L_law__b2414 g k23 a1 a2 a3 x4) else pu 0) else f_L_law__b2414 g k23 a1 a2 a3 x4) else pu 0
def f_L_law__b2482 (g : GW) (k23 : Nat → Nat → Nat → Int32 → Mo Int32) (a1 : Nat) (a2 : Nat) (a3 : Nat) (x4 : Int32) : Mo Int32 := f_L_law__b2771 g k23 a1 a2 a3 x4
def f_L_law__b2417 (g : GW) (k23 : Nat → Nat → Nat → Int32 → Mo Int32) (a1 : Nat) (a2 : Nat) (a3 : Nat) (x4 : Int32) : Mo Int32 := bd (sL g (x4 + (1 : Int32))) fun v259 => bd (sL g (x4 + (2 : Int32))) fun v260 => bd (f_L_faces a1 v259 v260 a3) fun v261 => bd (sL g (x4 + (1 : Int32))) fun v262 => bd (sL g (x4 + (2 : Int32))) fun v263 => bd (cv 12 a2 (f_X12_faces a2 v262 v263)) fun v264 => bd (cv 12 a2 (f_X12_thrown a2)) fun v265 => if (v265 = v261 : Prop) then (if (v261 = 0 : Prop) then (bd (ll a3 0) fun w266 => if ((lg_cmp w266 (Int32.toInt64 v264)) = 0 : Prop) then (f_L_law__b2482 g k23 a1 a2 a3 x4) else pu 0) else f_L_law__b2482 g k23 a1 a2 a3 x4) else pu 0
def f_L_law__b2574 (g : GW) (k23 : Nat → Nat → Nat → Int32 → Mo Int32) (a1 : Nat) (a2 : Nat) (a3 : Nat) (x4 : Int32) : Mo Int32 := f_L_law__b2771 g k23 a1 a2 a3 x4
def f_L_law__b2485 (g : GW) (k23 : Nat → Nat → Nat → Int32 → Mo Int32) (a1 : Nat) (a2 : Nat) (a3 : Nat) (x4 : Int32) : Mo Int32 := bd (sL g (x4 + (1 : Int32))) fun v267 => bd (sL g (x4 + (2 : Int32))) fun v268 => bd (sL g (x4 + (3 : Int32))) fun v269 => bd (sL g (x4 + (4 : Int32))) fun v270 => bd (f_L_years a1 v267 v268 v269 v270 a3) fun v271 => bd (sL g (x4 + (1 : Int32))) fun v272 => bd (sL g (x4 + (2 : Int32))) fun v273 => bd (sL g (x4 + (3 : Int32))) fun v274 => bd (sL g (x4 + (4 : Int32))) fun v275 => bd (cv 12 a2 (f_X12_years a2 v272 v273 v274 v275)) fun v276 => bd (cv 12 a2 (f_X12_thrown a2)) fun v277 => if (v277 = v271 : Prop) then (if (v271 = 0 : Prop) then (bd (ll a3 0) fun w278 => if ((lg_cmp w278 (Int32.toInt64 v276)) = 0 : Prop) then (f_L_law__b2574 g k23 a1 a2 a3 x4) else pu 0) else f_L_law__b2574 g k23 a1 a2 a3 x4) else pu 0
def f_L_law__b2692 (g : GW) (k23 : Nat → Nat → Nat → Int32 → Mo Int32) (a1 : Nat) (a2 : Nat) (a3 : Nat) (x4 : Int32) : Mo Int32 := f_L_law__b2771 g k23 a1 a2 a3 x4
def f_L_law__b2577 (g : GW) (k23 : Nat → Nat → Nat → Int32 → Mo Int32) (a1 : Nat) (a2 : Nat) (a3 : Nat) (x4 : Int32) : Mo Int32 := bd (sL g (x4 + (1 : Int32))) fun v279 => bd (sL g (x4 + (2 : Int32))) fun v280 => bd (sL g (x4 + (3 : Int32))) fun v281 => bd (sL g (x4 + (4 : Int32))) fun v282 => bd (sL g (x4 + (5 : Int32))) fun v283 => bd (sL g (x4 + (6 : Int32))) fun v284 => bd (f_L_span a1 v279 v280 v281 v282 v283 v284 a3) fun v285 => bd (sL g (x4 + (1 : Int32))) fun v286 => bd (sL g (x4 + (2 : Int32))) fun v287 => bd (sL g (x4 + (3 : Int32))) fun v288 => bd (sL g (x4 + (4 : Int32))) fun v289 => bd (sL g (x4 + (5 : Int32))) fun v290 => bd (sL g (x4 + (6 : Int32))) fun v291 => bd (cv 12 a2 (f_X12_span a2 v286 v287 v288 v289 v290 v291)) fun v292 => bd (cv 12 a2 (f_X12_thrown a2)) fun v293 => if (v293 = v285 : Prop) then (if (v285 = 0 : Prop) then (bd (ll a3 0) fun w294 => if ((lg_cmp w294 (Int32.toInt64 v292)) = 0 : Prop) then (f_L_law__b2692 g k23 a1 a2 a3 x4) else pu 0) else f_L_law__b2692 g k23 a1 a2 a3 x4) else pu 0
def f_L_law__b2695 (g : GW) (k23 : Nat → Nat → Nat → Int32 → Mo Int32) (a1 : Nat) (a2 : Nat) (a3 : Nat) (x4 : Int32) : Mo Int32 := bd (cv 11 a1 (f_X11_image a1)) fun v295 => bd (cv 12 a2 (f_X12_image a2)) fun v296 => if (v295 = v296 : Prop) then (f_L_law__b2771 g k23 a1 a2 a3 x4) else pu 0
def f_L_law__b2708 (g : GW) (k23 : Nat → Nat → Nat → Int32 → Mo Int32) (a1 : Nat) (a2 : Nat) (a3 : Nat) (x4 : Int32) : Mo Int32 := bd (cv 11 a1 (f_X11_restore a1)) fun v297 => bd (cv 12 a2 (f_X12_restore a2)) fun v298 => if (v297 = v298 : Prop) then (f_L_law__b2771 g k23 a1 a2 a3 x4) else pu 0
def f_L_law__b2721 (g : GW) (k23 : Nat → Nat → Nat → Int32 → Mo Int32) (a1 : Nat) (a2 : Nat) (a3 : Nat) (x4 : Int32) : Mo Int32 := bd (sL g (x4 + (1 : Int32))) fun v299 => bd (cv 11 a1 (f_X11_status a1 v299)) fun v300 => bd (sL g (x4 + (1 : Int32))) fun v301 => bd (cv 12 a2 (f_X12_status a2 v301)) fun v302 => if (v300 = v302 : Prop) then (f_L_law__b2771 g k23 a1 a2 a3 x4) else pu 0
def f_L_law__b2746 (g : GW) (k23 : Nat → Nat → Nat → Int32 → Mo Int32) (a1 : Nat) (a2 : Nat) (a3 : Nat) (x4 : Int32) : Mo Int32 := bd (sL g (x4 + (1 : Int32))) fun v303 => bd (cv 11 a1 (f_X11_count a1 v303)) fun v304 => bd (sL g (x4 + (1 : Int32))) fun v305 => bd (cv 12 a2 (f_X12_count a2 v305)) fun v306 => if (v304 = v306 : Prop) then (f_L_law__b2771 g k23 a1 a2 a3 x4) else pu 0
def f_L_law__b23 (g : GW) : Nat → Nat → Nat → Nat → Int32 → Mo Int32
  | 0, _, _, _, _ => fl
  | n + 1, a1, a2, a3, x4 => if (((Int32.ofNat (gS g).2.1) - (9 : Int32)) < x4 : Prop) then (pu 1) else bd (sL g x4) fun v307 => sw (v307 &&& (63 : Int32)) 0 [(f_L_law__b236 g (f_L_law__b23 g n) a1 a2 a3 x4), (f_L_law__b309 g (f_L_law__b23 g n) a1 a2 a3 x4), (f_L_law__b365 g (f_L_law__b23 g n) a1 a2 a3 x4), (f_L_law__b421 g (f_L_law__b23 g n) a1 a2 a3 x4), (f_L_law__b477 g (f_L_law__b23 g n) a1 a2 a3 x4), (f_L_law__b533 g (f_L_law__b23 g n) a1 a2 a3 x4), (f_L_law__b546 g (f_L_law__b23 g n) a1 a2 a3 x4), (f_L_law__b559 g (f_L_law__b23 g n) a1 a2 a3 x4), (f_L_law__b615 g (f_L_law__b23 g n) a1 a2 a3 x4), (f_L_law__b683 g (f_L_law__b23 g n) a1 a2 a3 x4), (f_L_law__b751 g (f_L_law__b23 g n) a1 a2 a3 x4), (f_L_law__b819 g (f_L_law__b23 g n) a1 a2 a3 x4), (f_L_law__b899 g (f_L_law__b23 g n) a1 a2 a3 x4), (f_L_law__b1045 g (f_L_law__b23 g n) a1 a2 a3 x4), (f_L_law__b1113 g (f_L_law__b23 g n) a1 a2 a3 x4), (f_L_law__b1126 g (f_L_law__b23 g n) a1 a2 a3 x4), (f_L_law__b1139 g (f_L_law__b23 g n) a1 a2 a3 x4), (f_L_law__b1195 g (f_L_law__b23 g n) a1 a2 a3 x4), (f_L_law__b1251 g (f_L_law__b23 g n) a1 a2 a3 x4), (f_L_law__b1307 g (f_L_law__b23 g n) a1 a2 a3 x4), (f_L_law__b1375 g (f_L_law__b23 g n) a1 a2 a3 x4), (f_L_law__b1443 g (f_L_law__b23 g n) a1 a2 a3 x4), (f_L_law__b1499 g (f_L_law__b23 g n) a1 a2 a3 x4), (f_L_law__b1555 g (f_L_law__b23 g n) a1 a2 a3 x4), (f_L_law__b1611 g (f_L_law__b23 g n) a1 a2 a3 x4), (f_L_law__b1624 g (f_L_law__b23 g n) a1 a2 a3 x4), (f_L_law__b1680 g (f_L_law__b23 g n) a1 a2 a3 x4), (f_L_law__b1772 g (f_L_law__b23 g n) a1 a2 a3 x4), (f_L_law__b1852 g (f_L_law__b23 g n) a1 a2 a3 x4), (f_L_law__b1908 g (f_L_law__b23 g n) a1 a2 a3 x4), (f_L_law__b1921 g (f_L_law__b23 g n) a1 a2 a3 x4), (f_L_law__b1977 g (f_L_law__b23 g n) a1 a2 a3 x4), (f_L_law__b2033 g (f_L_law__b23 g n) a1 a2 a3 x4), (f_L_law__b2101 g (f_L_law__b23 g n) a1 a2 a3 x4), (f_L_law__b2169 g (f_L_law__b23 g n) a1 a2 a3 x4), (f_L_law__b2237 g (f_L_law__b23 g n) a1 a2 a3 x4), (f_L_law__b2293 g (f_L_law__b23 g n) a1 a2 a3 x4), (f_L_law__b2361 g (f_L_law__b23 g n) a1 a2 a3 x4), (f_L_law__b2417 g (f_L_law__b23 g n) a1 a2 a3 x4), (f_L_law__b2485 g (f_L_law__b23 g n) a1 a2 a3 x4), (f_L_law__b2577 g (f_L_law__b23 g n) a1 a2 a3 x4), (f_L_law__b2695 g (f_L_law__b23 g n) a1 a2 a3 x4), (f_L_law__b2708 g (f_L_law__b23 g n) a1 a2 a3 x4), (f_L_law__b2721 g (f_L_law__b23 g n) a1 a2 a3 x4), (f_L_law__b2746 g (f_L_law__b23 g n) a1 a2 a3 x4)] (f_L_law__b2771 g (f_L_law__b23 g n) a1 a2 a3 x4)
def f_L_law_ (g : GW) : Mo Int32 := bd (nO 11 18 [.null, .null, .null, .null, .null, .null, .null, .null, .null, .null, .null, .null, .null, .null, .int 0, .int 0, .int 0, .int 0]) fun r308 => bd (ni (f_X11_init r308)) fun _ => bd (nO 12 49 [.int 0, .int 0, .int 0, .int 0, .int 0, .int 0, .int 0, .int 0, .int 0, .null, .null, .null, .null, .null, .null, .null, .null, .int 0, .int 0, .null, .null, .null, .null, .null, .null, .null, .int 0, .null, .null, .null, .null, .int 0, .int 0, .int 0, .int 0, .int 0, .int 0, .int 0, .null, .int 0, .int 0, .null, .null, .null, .int 0, .null, .int 0, .int 0, .int 0]) fun r309 => bd (ni (f_X12_init r309)) fun _ => bd (nL_ 1) fun r310 => f_L_law__b23 g NF r308 r309 r310 0
set_option maxRecDepth 20000 in
theorem h_L_law__b2771 (g : GW) (k23 : Nat → Nat → Nat → Int32 → Mo Int32) (hk23 : ∀ a1 a2 a3 x4, V g mL_law_ 62 rtI 23 [(0, .ref (gS g).1), (1, rf g a1), (2, rf g a2), (3, rf g a3), (4, .int x4)] [] (k23 a1 a2 a3 x4)) (a1 : Nat) (a2 : Nat) (a3 : Nat) (x4 : Int32) : V g mL_law_ 62 rtI 2771 [(0, .ref (gS g).1), (1, rf g a1), (2, rf g a2), (3, rf g a3), (4, .int x4)] [] (f_L_law__b2771 g k23 a1 a2 a3 x4) := by
  unfold f_L_law__b2771
  refine v_iinc (v := x4 + 9) (lv' := [(4, .int (x4 + 9)), (0, .ref (gS g).1), (1, rf g a1), (2, rf g a2), (3, rf g a3)]) (pc' := 2774) 4 dL_law__2771 rfl rfl (by decide) rfl rfl ?_
  refine v_goto (t := 23) dL_law__2774 (by decide) ?_
  refine V.sub [1, 2, 3, 4, 0] rfl ?_
  exact hk23 a1 a2 a3 (x4 + 9)
set_option maxRecDepth 20000 in
theorem h_L_law__b236 (g : GW) (k23 : Nat → Nat → Nat → Int32 → Mo Int32) (hk23 : ∀ a1 a2 a3 x4, V g mL_law_ 62 rtI 23 [(0, .ref (gS g).1), (1, rf g a1), (2, rf g a2), (3, rf g a3), (4, .int x4)] [] (k23 a1 a2 a3 x4)) (a1 : Nat) (a2 : Nat) (a3 : Nat) (x4 : Int32) : V g mL_law_ 62 rtI 236 [(0, .ref (gS g).1), (1, rf g a1), (2, rf g a2), (3, rf g a3), (4, .int x4)] [] (f_L_law__b236 g k23 a1 a2 a3 x4) := by
  unfold f_L_law__b236
  refine v_aload_n (pc' := 237) 1 dL_law__236 rfl rfl rfl ?_
  refine v_aload_nX (pc' := 238) 0 dL_law__237 rfl rfl rfl ?_
  refine v_iload (pc' := 240) 4 dL_law__238 rfl rfl ?_
  refine v_iconst (v := 1) (pc' := 241) dL_law__240 rfl rfl ?_
  refine v_iadd (pc' := 242) dL_law__241 rfl ?_
  refine v_sld (pc' := 243) dL_law__242 rfl fun v1 => ?_
  refine v_aload_nX (pc' := 244) 0 dL_law__243 rfl rfl rfl ?_
  refine v_iload (pc' := 246) 4 dL_law__244 rfl rfl ?_
  refine v_iconst (v := 2) (pc' := 247) dL_law__246 rfl rfl ?_
  refine v_iadd (pc' := 248) dL_law__247 rfl ?_
  refine v_sld (pc' := 249) dL_law__248 rfl fun v2 => ?_
  refine v_aload_nX (pc' := 250) 0 dL_law__249 rfl rfl rfl ?_
  refine v_iload (pc' := 252) 4 dL_law__250 rfl rfl ?_
  refine v_iconst (v := 3) (pc' := 253) dL_law__252 rfl rfl ?_
  refine v_iadd (pc' := 254) dL_law__253 rfl ?_
  refine v_sld (pc' := 255) dL_law__254 rfl fun v3 => ?_
  refine v_aload_nX (pc' := 256) 0 dL_law__255 rfl rfl rfl ?_
  refine v_iload (pc' := 258) 4 dL_law__256 rfl rfl ?_
  refine v_iconst (v := 4) (pc' := 259) dL_law__258 rfl rfl ?_
  refine v_iadd (pc' := 260) dL_law__259 rfl ?_
  refine v_sld (pc' := 261) dL_law__260 rfl fun v4 => ?_
  refine v_aload_nX (pc' := 262) 0 dL_law__261 rfl rfl rfl ?_
  refine v_iload (pc' := 264) 4 dL_law__262 rfl rfl ?_
  refine v_iconst (v := 5) (pc' := 265) dL_law__264 rfl rfl ?_
  refine v_iadd (pc' := 266) dL_law__265 rfl ?_
  refine v_sld (pc' := 267) dL_law__266 rfl fun v5 => ?_
  refine v_callV (vs := [.int v1, .int v2, .int v3, .int v4, .int v5]) (pc' := 270) (h_X11_feed g a1 v1 v2 v3 v4 v5) mv_X11_feed wl_L_125 rfl (Nat.le_of_ble_eq_true rfl) (by omega) (by decide) (Nat.le_of_ble_eq_true rfl) rfl dL_law__267 rfl fun v6 => ?_
  refine v_aload_n (pc' := 271) 2 dL_law__270 rfl rfl rfl ?_
  refine v_aload_nX (pc' := 272) 0 dL_law__271 rfl rfl rfl ?_
  refine v_iload (pc' := 274) 4 dL_law__272 rfl rfl ?_
  refine v_iconst (v := 1) (pc' := 275) dL_law__274 rfl rfl ?_
  refine v_iadd (pc' := 276) dL_law__275 rfl ?_
  refine v_sld (pc' := 277) dL_law__276 rfl fun v7 => ?_
  refine v_aload_nX (pc' := 278) 0 dL_law__277 rfl rfl rfl ?_
  refine v_iload (pc' := 280) 4 dL_law__278 rfl rfl ?_
  refine v_iconst (v := 2) (pc' := 281) dL_law__280 rfl rfl ?_
  refine v_iadd (pc' := 282) dL_law__281 rfl ?_
  refine v_sld (pc' := 283) dL_law__282 rfl fun v8 => ?_
  refine v_aload_nX (pc' := 284) 0 dL_law__283 rfl rfl rfl ?_
  refine v_iload (pc' := 286) 4 dL_law__284 rfl rfl ?_
  refine v_iconst (v := 3) (pc' := 287) dL_law__286 rfl rfl ?_
  refine v_iadd (pc' := 288) dL_law__287 rfl ?_
  refine v_sld (pc' := 289) dL_law__288 rfl fun v9 => ?_
  refine v_aload_nX (pc' := 290) 0 dL_law__289 rfl rfl rfl ?_
  refine v_iload (pc' := 292) 4 dL_law__290 rfl rfl ?_
  refine v_iconst (v := 4) (pc' := 293) dL_law__292 rfl rfl ?_
  refine v_iadd (pc' := 294) dL_law__293 rfl ?_
  refine v_sld (pc' := 295) dL_law__294 rfl fun v10 => ?_
  refine v_aload_nX (pc' := 296) 0 dL_law__295 rfl rfl rfl ?_
  refine v_iload (pc' := 298) 4 dL_law__296 rfl rfl ?_
  refine v_iconst (v := 5) (pc' := 299) dL_law__298 rfl rfl ?_
  refine v_iadd (pc' := 300) dL_law__299 rfl ?_
  refine v_sld (pc' := 301) dL_law__300 rfl fun v11 => ?_
  refine v_callV (vs := [.int v7, .int v8, .int v9, .int v10, .int v11]) (pc' := 304) (h_X12_feed g a2 v7 v8 v9 v10 v11) mv_X12_feed wl_L_129 rfl (Nat.le_of_ble_eq_true rfl) (by omega) (by decide) (Nat.le_of_ble_eq_true rfl) rfl dL_law__301 rfl fun v12 => ?_
  refine v_icmpeq (t := 2771) (pc' := 307) dL_law__304 (by decide) rfl ?_ ?_
  · refine V.sub [0, 1, 2, 3, 4] rfl ?_
    exact h_L_law__b2771 g k23 hk23 a1 a2 a3 x4
  · refine v_iconst (v := 0) (pc' := 308) dL_law__307 rfl rfl ?_
    exact v_zret rfl rfl dL_law__308
set_option maxRecDepth 20000 in
theorem h_L_law__b362 (g : GW) (k23 : Nat → Nat → Nat → Int32 → Mo Int32) (hk23 : ∀ a1 a2 a3 x4, V g mL_law_ 62 rtI 23 [(0, .ref (gS g).1), (1, rf g a1), (2, rf g a2), (3, rf g a3), (4, .int x4)] [] (k23 a1 a2 a3 x4)) (a1 : Nat) (a2 : Nat) (a3 : Nat) (x4 : Int32) : V g mL_law_ 62 rtI 362 [(0, .ref (gS g).1), (1, rf g a1), (2, rf g a2), (3, rf g a3), (4, .int x4)] [] (f_L_law__b362 g k23 a1 a2 a3 x4) := by
  unfold f_L_law__b362
  refine v_goto (t := 2771) dL_law__362 (by decide) ?_
  refine V.sub [0, 1, 2, 3, 4] rfl ?_
  exact h_L_law__b2771 g k23 hk23 a1 a2 a3 x4
set_option maxRecDepth 20000 in
theorem h_L_law__b309 (g : GW) (k23 : Nat → Nat → Nat → Int32 → Mo Int32) (hk23 : ∀ a1 a2 a3 x4, V g mL_law_ 62 rtI 23 [(0, .ref (gS g).1), (1, rf g a1), (2, rf g a2), (3, rf g a3), (4, .int x4)] [] (k23 a1 a2 a3 x4)) (a1 : Nat) (a2 : Nat) (a3 : Nat) (x4 : Int32) : V g mL_law_ 62 rtI 309 [(0, .ref (gS g).1), (1, rf g a1), (2, rf g a2), (3, rf g a3), (4, .int x4)] [] (f_L_law__b309 g k23 a1 a2 a3 x4) := by
  unfold f_L_law__b309
  refine v_aload_n (pc' := 310) 1 dL_law__309 rfl rfl rfl ?_
  refine v_aload_nX (pc' := 311) 0 dL_law__310 rfl rfl rfl ?_
  refine v_iload (pc' := 313) 4 dL_law__311 rfl rfl ?_
  refine v_iconst (v := 1) (pc' := 314) dL_law__313 rfl rfl ?_
  refine v_iadd (pc' := 315) dL_law__314 rfl ?_
  refine v_sld (pc' := 316) dL_law__315 rfl fun v13 => ?_
  refine v_aload_n (pc' := 317) 3 dL_law__316 rfl rfl rfl ?_
  refine v_callX (vs := [rf g a1, .int v13, rf g a3]) (pc' := 320) (h_L_town g a1 v13 a3) mx_L_town wl_L_130 (Nat.le_of_ble_eq_true rfl) (by omega) (by decide) (Nat.le_of_ble_eq_true rfl) rfl dL_law__317 rfl fun v14 => ?_
  refine v_istore (lv' := [(5, .int v14), (0, .ref (gS g).1), (1, rf g a1), (2, rf g a2), (3, rf g a3), (4, .int x4)]) (pc' := 322) dL_law__320 (by decide) rfl rfl ?_
  refine v_aload_n (pc' := 323) 3 dL_law__322 rfl rfl rfl ?_
  refine v_aload_nX (pc' := 324) 1 dL_law__323 rfl rfl rfl ?_
  refine v_iload (pc' := 326) 5 dL_law__324 rfl rfl ?_
  refine v_iconst (v := 1) (pc' := 327) dL_law__326 rfl rfl ?_
  refine v_iadd (pc' := 328) dL_law__327 rfl ?_
  refine v_sld (pc' := 329) dL_law__328 rfl fun v15 => ?_
  refine v_callV (vs := [.int v15]) (pc' := 332) (h_X12_town g a2 v15) mv_X12_town wl_L_135 rfl (Nat.le_of_ble_eq_true rfl) (by omega) (by decide) (Nat.le_of_ble_eq_true rfl) rfl dL_law__329 rfl fun v16 => ?_
  refine v_istore (lv' := [(6, .int v16), (5, .int v14), (0, .ref (gS g).1), (1, rf g a1), (2, rf g a2), (3, rf g a3), (4, .int x4)]) (pc' := 334) dL_law__332 (by decide) rfl rfl ?_
  refine v_aload_n (pc' := 335) 4 dL_law__334 rfl rfl rfl ?_
  refine v_callV (vs := []) (pc' := 338) (h_X12_thrown g a2) mv_X12_thrown wl_L_136 rfl (Nat.le_of_ble_eq_true rfl) (by omega) (by decide) (Nat.le_of_ble_eq_true rfl) rfl dL_law__335 rfl fun v17 => ?_
  refine v_iload (pc' := 340) 1 dL_law__338 rfl rfl ?_
  refine v_icmpeq (t := 345) (pc' := 343) dL_law__340 (by decide) rfl ?_ ?_
  · refine v_iload (pc' := 347) 1 dL_law__345 rfl rfl ?_
    refine v_ifne (t := 362) (pc' := 350) dL_law__347 (by decide) rfl ?_ ?_
    · refine V.sub [2, 3, 4, 5, 6] rfl ?_
      exact h_L_law__b362 g k23 hk23 a1 a2 a3 x4
    · refine v_aload_n (pc' := 351) 5 dL_law__350 rfl rfl rfl ?_
      refine v_iconst (v := 0) (pc' := 352) dL_law__351 rfl rfl ?_
      refine v_lald (pc' := 353) dL_law__352 rfl fun w18 => ?_
      refine v_iload (pc' := 355) 0 dL_law__353 rfl rfl ?_
      refine v_i2l (pc' := 356) dL_law__355 rfl ?_
      refine v_lcmp (pc' := 357) dL_law__356 rfl ?_
      refine v_ifeq (t := 362) (pc' := 360) dL_law__357 (by decide) rfl ?_ ?_
      · refine V.sub [2, 3, 4, 5, 6] rfl ?_
        exact h_L_law__b362 g k23 hk23 a1 a2 a3 x4
      · refine v_iconst (v := 0) (pc' := 361) dL_law__360 rfl rfl ?_
        exact v_zret rfl rfl dL_law__361
  · refine v_iconst (v := 0) (pc' := 344) dL_law__343 rfl rfl ?_
    exact v_zret rfl rfl dL_law__344
set_option maxRecDepth 20000 in
theorem h_L_law__b418 (g : GW) (k23 : Nat → Nat → Nat → Int32 → Mo Int32) (hk23 : ∀ a1 a2 a3 x4, V g mL_law_ 62 rtI 23 [(0, .ref (gS g).1), (1, rf g a1), (2, rf g a2), (3, rf g a3), (4, .int x4)] [] (k23 a1 a2 a3 x4)) (a1 : Nat) (a2 : Nat) (a3 : Nat) (x4 : Int32) : V g mL_law_ 62 rtI 418 [(0, .ref (gS g).1), (1, rf g a1), (2, rf g a2), (3, rf g a3), (4, .int x4)] [] (f_L_law__b418 g k23 a1 a2 a3 x4) := by
  unfold f_L_law__b418
  refine v_goto (t := 2771) dL_law__418 (by decide) ?_
  refine V.sub [0, 1, 2, 3, 4] rfl ?_
  exact h_L_law__b2771 g k23 hk23 a1 a2 a3 x4
set_option maxRecDepth 20000 in
theorem h_L_law__b365 (g : GW) (k23 : Nat → Nat → Nat → Int32 → Mo Int32) (hk23 : ∀ a1 a2 a3 x4, V g mL_law_ 62 rtI 23 [(0, .ref (gS g).1), (1, rf g a1), (2, rf g a2), (3, rf g a3), (4, .int x4)] [] (k23 a1 a2 a3 x4)) (a1 : Nat) (a2 : Nat) (a3 : Nat) (x4 : Int32) : V g mL_law_ 62 rtI 365 [(0, .ref (gS g).1), (1, rf g a1), (2, rf g a2), (3, rf g a3), (4, .int x4)] [] (f_L_law__b365 g k23 a1 a2 a3 x4) := by
  unfold f_L_law__b365
  refine v_aload_n (pc' := 366) 1 dL_law__365 rfl rfl rfl ?_
  refine v_aload_nX (pc' := 367) 0 dL_law__366 rfl rfl rfl ?_
  refine v_iload (pc' := 369) 4 dL_law__367 rfl rfl ?_
  refine v_iconst (v := 1) (pc' := 370) dL_law__369 rfl rfl ?_
  refine v_iadd (pc' := 371) dL_law__370 rfl ?_
  refine v_sld (pc' := 372) dL_law__371 rfl fun v19 => ?_
  refine v_aload_n (pc' := 373) 3 dL_law__372 rfl rfl rfl ?_
  refine v_callX (vs := [rf g a1, .int v19, rf g a3]) (pc' := 376) (h_L_law g a1 v19 a3) mx_L_law wl_L_140 (Nat.le_of_ble_eq_true rfl) (by omega) (by decide) (Nat.le_of_ble_eq_true rfl) rfl dL_law__373 rfl fun v20 => ?_
  refine v_istore (lv' := [(5, .int v20), (0, .ref (gS g).1), (1, rf g a1), (2, rf g a2), (3, rf g a3), (4, .int x4)]) (pc' := 378) dL_law__376 (by decide) rfl rfl ?_
  refine v_aload_n (pc' := 379) 3 dL_law__378 rfl rfl rfl ?_
  refine v_aload_nX (pc' := 380) 1 dL_law__379 rfl rfl rfl ?_
  refine v_iload (pc' := 382) 5 dL_law__380 rfl rfl ?_
  refine v_iconst (v := 1) (pc' := 383) dL_law__382 rfl rfl ?_
  refine v_iadd (pc' := 384) dL_law__383 rfl ?_
  refine v_sld (pc' := 385) dL_law__384 rfl fun v21 => ?_
  refine v_callV (vs := [.int v21]) (pc' := 388) (h_X12_law g a2 v21) mv_X12_law wl_L_142 rfl (Nat.le_of_ble_eq_true rfl) (by omega) (by decide) (Nat.le_of_ble_eq_true rfl) rfl dL_law__385 rfl fun v22 => ?_
  refine v_istore (lv' := [(6, .int v22), (5, .int v20), (0, .ref (gS g).1), (1, rf g a1), (2, rf g a2), (3, rf g a3), (4, .int x4)]) (pc' := 390) dL_law__388 (by decide) rfl rfl ?_
  refine v_aload_n (pc' := 391) 4 dL_law__390 rfl rfl rfl ?_
  refine v_callV (vs := []) (pc' := 394) (h_X12_thrown g a2) mv_X12_thrown wl_L_136 rfl (Nat.le_of_ble_eq_true rfl) (by omega) (by decide) (Nat.le_of_ble_eq_true rfl) rfl dL_law__391 rfl fun v23 => ?_
  refine v_iload (pc' := 396) 1 dL_law__394 rfl rfl ?_
  refine v_icmpeq (t := 401) (pc' := 399) dL_law__396 (by decide) rfl ?_ ?_
  · refine v_iload (pc' := 403) 1 dL_law__401 rfl rfl ?_
    refine v_ifne (t := 418) (pc' := 406) dL_law__403 (by decide) rfl ?_ ?_
    · refine V.sub [2, 3, 4, 5, 6] rfl ?_
      exact h_L_law__b418 g k23 hk23 a1 a2 a3 x4
    · refine v_aload_n (pc' := 407) 5 dL_law__406 rfl rfl rfl ?_
      refine v_iconst (v := 0) (pc' := 408) dL_law__407 rfl rfl ?_
      refine v_lald (pc' := 409) dL_law__408 rfl fun w24 => ?_
      refine v_iload (pc' := 411) 0 dL_law__409 rfl rfl ?_
      refine v_i2l (pc' := 412) dL_law__411 rfl ?_
      refine v_lcmp (pc' := 413) dL_law__412 rfl ?_
      refine v_ifeq (t := 418) (pc' := 416) dL_law__413 (by decide) rfl ?_ ?_
      · refine V.sub [2, 3, 4, 5, 6] rfl ?_
        exact h_L_law__b418 g k23 hk23 a1 a2 a3 x4
      · refine v_iconst (v := 0) (pc' := 417) dL_law__416 rfl rfl ?_
        exact v_zret rfl rfl dL_law__417
  · refine v_iconst (v := 0) (pc' := 400) dL_law__399 rfl rfl ?_
    exact v_zret rfl rfl dL_law__400
set_option maxRecDepth 20000 in
theorem h_L_law__b474 (g : GW) (k23 : Nat → Nat → Nat → Int32 → Mo Int32) (hk23 : ∀ a1 a2 a3 x4, V g mL_law_ 62 rtI 23 [(0, .ref (gS g).1), (1, rf g a1), (2, rf g a2), (3, rf g a3), (4, .int x4)] [] (k23 a1 a2 a3 x4)) (a1 : Nat) (a2 : Nat) (a3 : Nat) (x4 : Int32) : V g mL_law_ 62 rtI 474 [(0, .ref (gS g).1), (1, rf g a1), (2, rf g a2), (3, rf g a3), (4, .int x4)] [] (f_L_law__b474 g k23 a1 a2 a3 x4) := by
  unfold f_L_law__b474
  refine v_goto (t := 2771) dL_law__474 (by decide) ?_
  refine V.sub [0, 1, 2, 3, 4] rfl ?_
  exact h_L_law__b2771 g k23 hk23 a1 a2 a3 x4
set_option maxRecDepth 20000 in
theorem h_L_law__b421 (g : GW) (k23 : Nat → Nat → Nat → Int32 → Mo Int32) (hk23 : ∀ a1 a2 a3 x4, V g mL_law_ 62 rtI 23 [(0, .ref (gS g).1), (1, rf g a1), (2, rf g a2), (3, rf g a3), (4, .int x4)] [] (k23 a1 a2 a3 x4)) (a1 : Nat) (a2 : Nat) (a3 : Nat) (x4 : Int32) : V g mL_law_ 62 rtI 421 [(0, .ref (gS g).1), (1, rf g a1), (2, rf g a2), (3, rf g a3), (4, .int x4)] [] (f_L_law__b421 g k23 a1 a2 a3 x4) := by
  unfold f_L_law__b421
  refine v_aload_n (pc' := 422) 1 dL_law__421 rfl rfl rfl ?_
  refine v_aload_nX (pc' := 423) 0 dL_law__422 rfl rfl rfl ?_
  refine v_iload (pc' := 425) 4 dL_law__423 rfl rfl ?_
  refine v_iconst (v := 1) (pc' := 426) dL_law__425 rfl rfl ?_
  refine v_iadd (pc' := 427) dL_law__426 rfl ?_
  refine v_sld (pc' := 428) dL_law__427 rfl fun v25 => ?_
  refine v_aload_n (pc' := 429) 3 dL_law__428 rfl rfl rfl ?_
  refine v_callX (vs := [rf g a1, .int v25, rf g a3]) (pc' := 432) (h_L_work g a1 v25 a3) mx_L_work wl_L_143 (Nat.le_of_ble_eq_true rfl) (by omega) (by decide) (Nat.le_of_ble_eq_true rfl) rfl dL_law__429 rfl fun v26 => ?_
  refine v_istore (lv' := [(5, .int v26), (0, .ref (gS g).1), (1, rf g a1), (2, rf g a2), (3, rf g a3), (4, .int x4)]) (pc' := 434) dL_law__432 (by decide) rfl rfl ?_
  refine v_aload_n (pc' := 435) 3 dL_law__434 rfl rfl rfl ?_
  refine v_aload_nX (pc' := 436) 1 dL_law__435 rfl rfl rfl ?_
  refine v_iload (pc' := 438) 5 dL_law__436 rfl rfl ?_
  refine v_iconst (v := 1) (pc' := 439) dL_law__438 rfl rfl ?_
  refine v_iadd (pc' := 440) dL_law__439 rfl ?_
  refine v_sld (pc' := 441) dL_law__440 rfl fun v27 => ?_
  refine v_callV (vs := [.int v27]) (pc' := 444) (h_X12_work g a2 v27) mv_X12_work wl_L_145 rfl (Nat.le_of_ble_eq_true rfl) (by omega) (by decide) (Nat.le_of_ble_eq_true rfl) rfl dL_law__441 rfl fun v28 => ?_
  refine v_istore (lv' := [(6, .int v28), (5, .int v26), (0, .ref (gS g).1), (1, rf g a1), (2, rf g a2), (3, rf g a3), (4, .int x4)]) (pc' := 446) dL_law__444 (by decide) rfl rfl ?_
  refine v_aload_n (pc' := 447) 4 dL_law__446 rfl rfl rfl ?_
  refine v_callV (vs := []) (pc' := 450) (h_X12_thrown g a2) mv_X12_thrown wl_L_136 rfl (Nat.le_of_ble_eq_true rfl) (by omega) (by decide) (Nat.le_of_ble_eq_true rfl) rfl dL_law__447 rfl fun v29 => ?_
  refine v_iload (pc' := 452) 1 dL_law__450 rfl rfl ?_
  refine v_icmpeq (t := 457) (pc' := 455) dL_law__452 (by decide) rfl ?_ ?_
  · refine v_iload (pc' := 459) 1 dL_law__457 rfl rfl ?_
    refine v_ifne (t := 474) (pc' := 462) dL_law__459 (by decide) rfl ?_ ?_
    · refine V.sub [2, 3, 4, 5, 6] rfl ?_
      exact h_L_law__b474 g k23 hk23 a1 a2 a3 x4
    · refine v_aload_n (pc' := 463) 5 dL_law__462 rfl rfl rfl ?_
      refine v_iconst (v := 0) (pc' := 464) dL_law__463 rfl rfl ?_
      refine v_lald (pc' := 465) dL_law__464 rfl fun w30 => ?_
      refine v_iload (pc' := 467) 0 dL_law__465 rfl rfl ?_
      refine v_i2l (pc' := 468) dL_law__467 rfl ?_
      refine v_lcmp (pc' := 469) dL_law__468 rfl ?_
      refine v_ifeq (t := 474) (pc' := 472) dL_law__469 (by decide) rfl ?_ ?_
      · refine V.sub [2, 3, 4, 5, 6] rfl ?_
        exact h_L_law__b474 g k23 hk23 a1 a2 a3 x4
      · refine v_iconst (v := 0) (pc' := 473) dL_law__472 rfl rfl ?_
        exact v_zret rfl rfl dL_law__473
  · refine v_iconst (v := 0) (pc' := 456) dL_law__455 rfl rfl ?_
    exact v_zret rfl rfl dL_law__456
set_option maxRecDepth 20000 in
theorem h_L_law__b530 (g : GW) (k23 : Nat → Nat → Nat → Int32 → Mo Int32) (hk23 : ∀ a1 a2 a3 x4, V g mL_law_ 62 rtI 23 [(0, .ref (gS g).1), (1, rf g a1), (2, rf g a2), (3, rf g a3), (4, .int x4)] [] (k23 a1 a2 a3 x4)) (a1 : Nat) (a2 : Nat) (a3 : Nat) (x4 : Int32) : V g mL_law_ 62 rtI 530 [(0, .ref (gS g).1), (1, rf g a1), (2, rf g a2), (3, rf g a3), (4, .int x4)] [] (f_L_law__b530 g k23 a1 a2 a3 x4) := by
  unfold f_L_law__b530
  refine v_goto (t := 2771) dL_law__530 (by decide) ?_
  refine V.sub [0, 1, 2, 3, 4] rfl ?_
  exact h_L_law__b2771 g k23 hk23 a1 a2 a3 x4
set_option maxRecDepth 20000 in
theorem h_L_law__b477 (g : GW) (k23 : Nat → Nat → Nat → Int32 → Mo Int32) (hk23 : ∀ a1 a2 a3 x4, V g mL_law_ 62 rtI 23 [(0, .ref (gS g).1), (1, rf g a1), (2, rf g a2), (3, rf g a3), (4, .int x4)] [] (k23 a1 a2 a3 x4)) (a1 : Nat) (a2 : Nat) (a3 : Nat) (x4 : Int32) : V g mL_law_ 62 rtI 477 [(0, .ref (gS g).1), (1, rf g a1), (2, rf g a2), (3, rf g a3), (4, .int x4)] [] (f_L_law__b477 g k23 a1 a2 a3 x4) := by
  unfold f_L_law__b477
  refine v_aload_n (pc' := 478) 1 dL_law__477 rfl rfl rfl ?_
  refine v_aload_nX (pc' := 479) 0 dL_law__478 rfl rfl rfl ?_
  refine v_iload (pc' := 481) 4 dL_law__479 rfl rfl ?_
  refine v_iconst (v := 1) (pc' := 482) dL_law__481 rfl rfl ?_
  refine v_iadd (pc' := 483) dL_law__482 rfl ?_
  refine v_sld (pc' := 484) dL_law__483 rfl fun v31 => ?_
  refine v_aload_n (pc' := 485) 3 dL_law__484 rfl rfl rfl ?_
  refine v_callX (vs := [rf g a1, .int v31, rf g a3]) (pc' := 488) (h_L_words g a1 v31 a3) mx_L_words wl_L_146 (Nat.le_of_ble_eq_true rfl) (by omega) (by decide) (Nat.le_of_ble_eq_true rfl) rfl dL_law__485 rfl fun v32 => ?_
  refine v_istore (lv' := [(5, .int v32), (0, .ref (gS g).1), (1, rf g a1), (2, rf g a2), (3, rf g a3), (4, .int x4)]) (pc' := 490) dL_law__488 (by decide) rfl rfl ?_
  refine v_aload_n (pc' := 491) 3 dL_law__490 rfl rfl rfl ?_
  refine v_aload_nX (pc' := 492) 1 dL_law__491 rfl rfl rfl ?_
  refine v_iload (pc' := 494) 5 dL_law__492 rfl rfl ?_
  refine v_iconst (v := 1) (pc' := 495) dL_law__494 rfl rfl ?_
  refine v_iadd (pc' := 496) dL_law__495 rfl ?_
  refine v_sld (pc' := 497) dL_law__496 rfl fun v33 => ?_
  refine v_callV (vs := [.int v33]) (pc' := 500) (h_X12_words g a2 v33) mv_X12_words wl_L_148 rfl (Nat.le_of_ble_eq_true rfl) (by omega) (by decide) (Nat.le_of_ble_eq_true rfl) rfl dL_law__497 rfl fun v34 => ?_
  refine v_istore (lv' := [(6, .int v34), (5, .int v32), (0, .ref (gS g).1), (1, rf g a1), (2, rf g a2), (3, rf g a3), (4, .int x4)]) (pc' := 502) dL_law__500 (by decide) rfl rfl ?_
  refine v_aload_n (pc' := 503) 4 dL_law__502 rfl rfl rfl ?_
  refine v_callV (vs := []) (pc' := 506) (h_X12_thrown g a2) mv_X12_thrown wl_L_136 rfl (Nat.le_of_ble_eq_true rfl) (by omega) (by decide) (Nat.le_of_ble_eq_true rfl) rfl dL_law__503 rfl fun v35 => ?_
  refine v_iload (pc' := 508) 1 dL_law__506 rfl rfl ?_
  refine v_icmpeq (t := 513) (pc' := 511) dL_law__508 (by decide) rfl ?_ ?_
  · refine v_iload (pc' := 515) 1 dL_law__513 rfl rfl ?_
    refine v_ifne (t := 530) (pc' := 518) dL_law__515 (by decide) rfl ?_ ?_
    · refine V.sub [2, 3, 4, 5, 6] rfl ?_
      exact h_L_law__b530 g k23 hk23 a1 a2 a3 x4
    · refine v_aload_n (pc' := 519) 5 dL_law__518 rfl rfl rfl ?_
      refine v_iconst (v := 0) (pc' := 520) dL_law__519 rfl rfl ?_
      refine v_lald (pc' := 521) dL_law__520 rfl fun w36 => ?_
      refine v_iload (pc' := 523) 0 dL_law__521 rfl rfl ?_
      refine v_i2l (pc' := 524) dL_law__523 rfl ?_
      refine v_lcmp (pc' := 525) dL_law__524 rfl ?_
      refine v_ifeq (t := 530) (pc' := 528) dL_law__525 (by decide) rfl ?_ ?_
      · refine V.sub [2, 3, 4, 5, 6] rfl ?_
        exact h_L_law__b530 g k23 hk23 a1 a2 a3 x4
      · refine v_iconst (v := 0) (pc' := 529) dL_law__528 rfl rfl ?_
        exact v_zret rfl rfl dL_law__529
  · refine v_iconst (v := 0) (pc' := 512) dL_law__511 rfl rfl ?_
    exact v_zret rfl rfl dL_law__512
set_option maxRecDepth 20000 in
theorem h_L_law__b533 (g : GW) (k23 : Nat → Nat → Nat → Int32 → Mo Int32) (hk23 : ∀ a1 a2 a3 x4, V g mL_law_ 62 rtI 23 [(0, .ref (gS g).1), (1, rf g a1), (2, rf g a2), (3, rf g a3), (4, .int x4)] [] (k23 a1 a2 a3 x4)) (a1 : Nat) (a2 : Nat) (a3 : Nat) (x4 : Int32) : V g mL_law_ 62 rtI 533 [(0, .ref (gS g).1), (1, rf g a1), (2, rf g a2), (3, rf g a3), (4, .int x4)] [] (f_L_law__b533 g k23 a1 a2 a3 x4) := by
  unfold f_L_law__b533
  refine v_aload_n (pc' := 534) 1 dL_law__533 rfl rfl rfl ?_
  refine v_callV (vs := []) (pc' := 537) (h_X11_fault g a1) mv_X11_fault wl_L_149 rfl (Nat.le_of_ble_eq_true rfl) (by omega) (by decide) (Nat.le_of_ble_eq_true rfl) rfl dL_law__534 rfl fun v37 => ?_
  refine v_aload_n (pc' := 538) 2 dL_law__537 rfl rfl rfl ?_
  refine v_callV (vs := []) (pc' := 541) (h_X12_fault g a2) mv_X12_fault wl_L_152 rfl (Nat.le_of_ble_eq_true rfl) (by omega) (by decide) (Nat.le_of_ble_eq_true rfl) rfl dL_law__538 rfl fun v38 => ?_
  refine v_icmpeq (t := 2771) (pc' := 544) dL_law__541 (by decide) rfl ?_ ?_
  · refine V.sub [0, 1, 2, 3, 4] rfl ?_
    exact h_L_law__b2771 g k23 hk23 a1 a2 a3 x4
  · refine v_iconst (v := 0) (pc' := 545) dL_law__544 rfl rfl ?_
    exact v_zret rfl rfl dL_law__545
set_option maxRecDepth 20000 in
theorem h_L_law__b546 (g : GW) (k23 : Nat → Nat → Nat → Int32 → Mo Int32) (hk23 : ∀ a1 a2 a3 x4, V g mL_law_ 62 rtI 23 [(0, .ref (gS g).1), (1, rf g a1), (2, rf g a2), (3, rf g a3), (4, .int x4)] [] (k23 a1 a2 a3 x4)) (a1 : Nat) (a2 : Nat) (a3 : Nat) (x4 : Int32) : V g mL_law_ 62 rtI 546 [(0, .ref (gS g).1), (1, rf g a1), (2, rf g a2), (3, rf g a3), (4, .int x4)] [] (f_L_law__b546 g k23 a1 a2 a3 x4) := by
  unfold f_L_law__b546
  refine v_aload_n (pc' := 547) 1 dL_law__546 rfl rfl rfl ?_
  refine v_callV (vs := []) (pc' := 550) (h_X11_undo g a1) mv_X11_undo wl_L_153 rfl (Nat.le_of_ble_eq_true rfl) (by omega) (by decide) (Nat.le_of_ble_eq_true rfl) rfl dL_law__547 rfl fun v39 => ?_
  refine v_aload_n (pc' := 551) 2 dL_law__550 rfl rfl rfl ?_
  refine v_callV (vs := []) (pc' := 554) (h_X12_undo g a2) mv_X12_undo wl_L_156 rfl (Nat.le_of_ble_eq_true rfl) (by omega) (by decide) (Nat.le_of_ble_eq_true rfl) rfl dL_law__551 rfl fun v40 => ?_
  refine v_icmpeq (t := 2771) (pc' := 557) dL_law__554 (by decide) rfl ?_ ?_
  · refine V.sub [0, 1, 2, 3, 4] rfl ?_
    exact h_L_law__b2771 g k23 hk23 a1 a2 a3 x4
  · refine v_iconst (v := 0) (pc' := 558) dL_law__557 rfl rfl ?_
    exact v_zret rfl rfl dL_law__558
set_option maxRecDepth 20000 in
theorem h_L_law__b612 (g : GW) (k23 : Nat → Nat → Nat → Int32 → Mo Int32) (hk23 : ∀ a1 a2 a3 x4, V g mL_law_ 62 rtI 23 [(0, .ref (gS g).1), (1, rf g a1), (2, rf g a2), (3, rf g a3), (4, .int x4)] [] (k23 a1 a2 a3 x4)) (a1 : Nat) (a2 : Nat) (a3 : Nat) (x4 : Int32) : V g mL_law_ 62 rtI 612 [(0, .ref (gS g).1), (1, rf g a1), (2, rf g a2), (3, rf g a3), (4, .int x4)] [] (f_L_law__b612 g k23 a1 a2 a3 x4) := by
  unfold f_L_law__b612
  refine v_goto (t := 2771) dL_law__612 (by decide) ?_
  refine V.sub [0, 1, 2, 3, 4] rfl ?_
  exact h_L_law__b2771 g k23 hk23 a1 a2 a3 x4
set_option maxRecDepth 20000 in
theorem h_L_law__b559 (g : GW) (k23 : Nat → Nat → Nat → Int32 → Mo Int32) (hk23 : ∀ a1 a2 a3 x4, V g mL_law_ 62 rtI 23 [(0, .ref (gS g).1), (1, rf g a1), (2, rf g a2), (3, rf g a3), (4, .int x4)] [] (k23 a1 a2 a3 x4)) (a1 : Nat) (a2 : Nat) (a3 : Nat) (x4 : Int32) : V g mL_law_ 62 rtI 559 [(0, .ref (gS g).1), (1, rf g a1), (2, rf g a2), (3, rf g a3), (4, .int x4)] [] (f_L_law__b559 g k23 a1 a2 a3 x4) := by
  unfold f_L_law__b559
  refine v_aload_n (pc' := 560) 1 dL_law__559 rfl rfl rfl ?_
  refine v_aload_nX (pc' := 561) 0 dL_law__560 rfl rfl rfl ?_
  refine v_iload (pc' := 563) 4 dL_law__561 rfl rfl ?_
  refine v_iconst (v := 1) (pc' := 564) dL_law__563 rfl rfl ?_
  refine v_iadd (pc' := 565) dL_law__564 rfl ?_
  refine v_sld (pc' := 566) dL_law__565 rfl fun v41 => ?_
  refine v_aload_n (pc' := 567) 3 dL_law__566 rfl rfl rfl ?_
  refine v_callX (vs := [rf g a1, .int v41, rf g a3]) (pc' := 570) (h_L_told g a1 v41 a3) mx_L_told wl_L_157 (Nat.le_of_ble_eq_true rfl) (by omega) (by decide) (Nat.le_of_ble_eq_true rfl) rfl dL_law__567 rfl fun v42 => ?_
  refine v_istore (lv' := [(5, .int v42), (0, .ref (gS g).1), (1, rf g a1), (2, rf g a2), (3, rf g a3), (4, .int x4)]) (pc' := 572) dL_law__570 (by decide) rfl rfl ?_
  refine v_aload_n (pc' := 573) 3 dL_law__572 rfl rfl rfl ?_
  refine v_aload_nX (pc' := 574) 1 dL_law__573 rfl rfl rfl ?_
  refine v_iload (pc' := 576) 5 dL_law__574 rfl rfl ?_
  refine v_iconst (v := 1) (pc' := 577) dL_law__576 rfl rfl ?_
  refine v_iadd (pc' := 578) dL_law__577 rfl ?_
  refine v_sld (pc' := 579) dL_law__578 rfl fun v43 => ?_
  refine v_callV (vs := [.int v43]) (pc' := 582) (h_X12_told g a2 v43) mv_X12_told wl_L_159 rfl (Nat.le_of_ble_eq_true rfl) (by omega) (by decide) (Nat.le_of_ble_eq_true rfl) rfl dL_law__579 rfl fun v44 => ?_
  refine v_istore (lv' := [(6, .int v44), (5, .int v42), (0, .ref (gS g).1), (1, rf g a1), (2, rf g a2), (3, rf g a3), (4, .int x4)]) (pc' := 584) dL_law__582 (by decide) rfl rfl ?_
  refine v_aload_n (pc' := 585) 4 dL_law__584 rfl rfl rfl ?_
  refine v_callV (vs := []) (pc' := 588) (h_X12_thrown g a2) mv_X12_thrown wl_L_136 rfl (Nat.le_of_ble_eq_true rfl) (by omega) (by decide) (Nat.le_of_ble_eq_true rfl) rfl dL_law__585 rfl fun v45 => ?_
  refine v_iload (pc' := 590) 1 dL_law__588 rfl rfl ?_
  refine v_icmpeq (t := 595) (pc' := 593) dL_law__590 (by decide) rfl ?_ ?_
  · refine v_iload (pc' := 597) 1 dL_law__595 rfl rfl ?_
    refine v_ifne (t := 612) (pc' := 600) dL_law__597 (by decide) rfl ?_ ?_
    · refine V.sub [2, 3, 4, 5, 6] rfl ?_
      exact h_L_law__b612 g k23 hk23 a1 a2 a3 x4
    · refine v_aload_n (pc' := 601) 5 dL_law__600 rfl rfl rfl ?_
      refine v_iconst (v := 0) (pc' := 602) dL_law__601 rfl rfl ?_
      refine v_lald (pc' := 603) dL_law__602 rfl fun w46 => ?_
      refine v_iload (pc' := 605) 0 dL_law__603 rfl rfl ?_
      refine v_i2l (pc' := 606) dL_law__605 rfl ?_
      refine v_lcmp (pc' := 607) dL_law__606 rfl ?_
      refine v_ifeq (t := 612) (pc' := 610) dL_law__607 (by decide) rfl ?_ ?_
      · refine V.sub [2, 3, 4, 5, 6] rfl ?_
        exact h_L_law__b612 g k23 hk23 a1 a2 a3 x4
      · refine v_iconst (v := 0) (pc' := 611) dL_law__610 rfl rfl ?_
        exact v_zret rfl rfl dL_law__611
  · refine v_iconst (v := 0) (pc' := 594) dL_law__593 rfl rfl ?_
    exact v_zret rfl rfl dL_law__594
set_option maxRecDepth 20000 in
theorem h_L_law__b680 (g : GW) (k23 : Nat → Nat → Nat → Int32 → Mo Int32) (hk23 : ∀ a1 a2 a3 x4, V g mL_law_ 62 rtI 23 [(0, .ref (gS g).1), (1, rf g a1), (2, rf g a2), (3, rf g a3), (4, .int x4)] [] (k23 a1 a2 a3 x4)) (a1 : Nat) (a2 : Nat) (a3 : Nat) (x4 : Int32) : V g mL_law_ 62 rtI 680 [(0, .ref (gS g).1), (1, rf g a1), (2, rf g a2), (3, rf g a3), (4, .int x4)] [] (f_L_law__b680 g k23 a1 a2 a3 x4) := by
  unfold f_L_law__b680
  refine v_goto (t := 2771) dL_law__680 (by decide) ?_
  refine V.sub [0, 1, 2, 3, 4] rfl ?_
  exact h_L_law__b2771 g k23 hk23 a1 a2 a3 x4
set_option maxRecDepth 20000 in
theorem h_L_law__b615 (g : GW) (k23 : Nat → Nat → Nat → Int32 → Mo Int32) (hk23 : ∀ a1 a2 a3 x4, V g mL_law_ 62 rtI 23 [(0, .ref (gS g).1), (1, rf g a1), (2, rf g a2), (3, rf g a3), (4, .int x4)] [] (k23 a1 a2 a3 x4)) (a1 : Nat) (a2 : Nat) (a3 : Nat) (x4 : Int32) : V g mL_law_ 62 rtI 615 [(0, .ref (gS g).1), (1, rf g a1), (2, rf g a2), (3, rf g a3), (4, .int x4)] [] (f_L_law__b615 g k23 a1 a2 a3 x4) := by
  unfold f_L_law__b615
  refine v_aload_n (pc' := 616) 1 dL_law__615 rfl rfl rfl ?_
  refine v_aload_nX (pc' := 617) 0 dL_law__616 rfl rfl rfl ?_
  refine v_iload (pc' := 619) 4 dL_law__617 rfl rfl ?_
  refine v_iconst (v := 1) (pc' := 620) dL_law__619 rfl rfl ?_
  refine v_iadd (pc' := 621) dL_law__620 rfl ?_
  refine v_sld (pc' := 622) dL_law__621 rfl fun v47 => ?_
  refine v_aload_nX (pc' := 623) 0 dL_law__622 rfl rfl rfl ?_
  refine v_iload (pc' := 625) 4 dL_law__623 rfl rfl ?_
  refine v_iconst (v := 2) (pc' := 626) dL_law__625 rfl rfl ?_
  refine v_iadd (pc' := 627) dL_law__626 rfl ?_
  refine v_sld (pc' := 628) dL_law__627 rfl fun v48 => ?_
  refine v_aload_n (pc' := 629) 3 dL_law__628 rfl rfl rfl ?_
  refine v_callX (vs := [rf g a1, .int v47, .int v48, rf g a3]) (pc' := 632) (h_L_person g a1 v47 v48 a3) mx_L_person wl_L_160 (Nat.le_of_ble_eq_true rfl) (by omega) (by decide) (Nat.le_of_ble_eq_true rfl) rfl dL_law__629 rfl fun v49 => ?_
  refine v_istore (lv' := [(5, .int v49), (0, .ref (gS g).1), (1, rf g a1), (2, rf g a2), (3, rf g a3), (4, .int x4)]) (pc' := 634) dL_law__632 (by decide) rfl rfl ?_
  refine v_aload_n (pc' := 635) 3 dL_law__634 rfl rfl rfl ?_
  refine v_aload_nX (pc' := 636) 1 dL_law__635 rfl rfl rfl ?_
  refine v_iload (pc' := 638) 5 dL_law__636 rfl rfl ?_
  refine v_iconst (v := 1) (pc' := 639) dL_law__638 rfl rfl ?_
  refine v_iadd (pc' := 640) dL_law__639 rfl ?_
  refine v_sld (pc' := 641) dL_law__640 rfl fun v50 => ?_
  refine v_aload_nX (pc' := 642) 1 dL_law__641 rfl rfl rfl ?_
  refine v_iload (pc' := 644) 5 dL_law__642 rfl rfl ?_
  refine v_iconst (v := 2) (pc' := 645) dL_law__644 rfl rfl ?_
  refine v_iadd (pc' := 646) dL_law__645 rfl ?_
  refine v_sld (pc' := 647) dL_law__646 rfl fun v51 => ?_
  refine v_callV (vs := [.int v50, .int v51]) (pc' := 650) (h_X12_person g a2 v50 v51) mv_X12_person wl_L_163 rfl (Nat.le_of_ble_eq_true rfl) (by omega) (by decide) (Nat.le_of_ble_eq_true rfl) rfl dL_law__647 rfl fun v52 => ?_
  refine v_istore (lv' := [(6, .int v52), (5, .int v49), (0, .ref (gS g).1), (1, rf g a1), (2, rf g a2), (3, rf g a3), (4, .int x4)]) (pc' := 652) dL_law__650 (by decide) rfl rfl ?_
  refine v_aload_n (pc' := 653) 4 dL_law__652 rfl rfl rfl ?_
  refine v_callV (vs := []) (pc' := 656) (h_X12_thrown g a2) mv_X12_thrown wl_L_136 rfl (Nat.le_of_ble_eq_true rfl) (by omega) (by decide) (Nat.le_of_ble_eq_true rfl) rfl dL_law__653 rfl fun v53 => ?_
  refine v_iload (pc' := 658) 1 dL_law__656 rfl rfl ?_
  refine v_icmpeq (t := 663) (pc' := 661) dL_law__658 (by decide) rfl ?_ ?_
  · refine v_iload (pc' := 665) 1 dL_law__663 rfl rfl ?_
    refine v_ifne (t := 680) (pc' := 668) dL_law__665 (by decide) rfl ?_ ?_
    · refine V.sub [2, 3, 4, 5, 6] rfl ?_
      exact h_L_law__b680 g k23 hk23 a1 a2 a3 x4
    · refine v_aload_n (pc' := 669) 5 dL_law__668 rfl rfl rfl ?_
      refine v_iconst (v := 0) (pc' := 670) dL_law__669 rfl rfl ?_
      refine v_lald (pc' := 671) dL_law__670 rfl fun w54 => ?_
      refine v_iload (pc' := 673) 0 dL_law__671 rfl rfl ?_
      refine v_i2l (pc' := 674) dL_law__673 rfl ?_
      refine v_lcmp (pc' := 675) dL_law__674 rfl ?_
      refine v_ifeq (t := 680) (pc' := 678) dL_law__675 (by decide) rfl ?_ ?_
      · refine V.sub [2, 3, 4, 5, 6] rfl ?_
        exact h_L_law__b680 g k23 hk23 a1 a2 a3 x4
      · refine v_iconst (v := 0) (pc' := 679) dL_law__678 rfl rfl ?_
        exact v_zret rfl rfl dL_law__679
  · refine v_iconst (v := 0) (pc' := 662) dL_law__661 rfl rfl ?_
    exact v_zret rfl rfl dL_law__662
set_option maxRecDepth 20000 in
theorem h_L_law__b748 (g : GW) (k23 : Nat → Nat → Nat → Int32 → Mo Int32) (hk23 : ∀ a1 a2 a3 x4, V g mL_law_ 62 rtI 23 [(0, .ref (gS g).1), (1, rf g a1), (2, rf g a2), (3, rf g a3), (4, .int x4)] [] (k23 a1 a2 a3 x4)) (a1 : Nat) (a2 : Nat) (a3 : Nat) (x4 : Int32) : V g mL_law_ 62 rtI 748 [(0, .ref (gS g).1), (1, rf g a1), (2, rf g a2), (3, rf g a3), (4, .int x4)] [] (f_L_law__b748 g k23 a1 a2 a3 x4) := by
  unfold f_L_law__b748
  refine v_goto (t := 2771) dL_law__748 (by decide) ?_
  refine V.sub [0, 1, 2, 3, 4] rfl ?_
  exact h_L_law__b2771 g k23 hk23 a1 a2 a3 x4
set_option maxRecDepth 20000 in
theorem h_L_law__b683 (g : GW) (k23 : Nat → Nat → Nat → Int32 → Mo Int32) (hk23 : ∀ a1 a2 a3 x4, V g mL_law_ 62 rtI 23 [(0, .ref (gS g).1), (1, rf g a1), (2, rf g a2), (3, rf g a3), (4, .int x4)] [] (k23 a1 a2 a3 x4)) (a1 : Nat) (a2 : Nat) (a3 : Nat) (x4 : Int32) : V g mL_law_ 62 rtI 683 [(0, .ref (gS g).1), (1, rf g a1), (2, rf g a2), (3, rf g a3), (4, .int x4)] [] (f_L_law__b683 g k23 a1 a2 a3 x4) := by
  unfold f_L_law__b683
  refine v_aload_n (pc' := 684) 1 dL_law__683 rfl rfl rfl ?_
  refine v_aload_nX (pc' := 685) 0 dL_law__684 rfl rfl rfl ?_
  refine v_iload (pc' := 687) 4 dL_law__685 rfl rfl ?_
  refine v_iconst (v := 1) (pc' := 688) dL_law__687 rfl rfl ?_
  refine v_iadd (pc' := 689) dL_law__688 rfl ?_
  refine v_sld (pc' := 690) dL_law__689 rfl fun v55 => ?_
  refine v_aload_nX (pc' := 691) 0 dL_law__690 rfl rfl rfl ?_
  refine v_iload (pc' := 693) 4 dL_law__691 rfl rfl ?_
  refine v_iconst (v := 2) (pc' := 694) dL_law__693 rfl rfl ?_
  refine v_iadd (pc' := 695) dL_law__694 rfl ?_
  refine v_sld (pc' := 696) dL_law__695 rfl fun v56 => ?_
  refine v_aload_n (pc' := 697) 3 dL_law__696 rfl rfl rfl ?_
  refine v_callX (vs := [rf g a1, .int v55, .int v56, rf g a3]) (pc' := 700) (h_L_plate g a1 v55 v56 a3) mx_L_plate wl_L_164 (Nat.le_of_ble_eq_true rfl) (by omega) (by decide) (Nat.le_of_ble_eq_true rfl) rfl dL_law__697 rfl fun v57 => ?_
  refine v_istore (lv' := [(5, .int v57), (0, .ref (gS g).1), (1, rf g a1), (2, rf g a2), (3, rf g a3), (4, .int x4)]) (pc' := 702) dL_law__700 (by decide) rfl rfl ?_
  refine v_aload_n (pc' := 703) 3 dL_law__702 rfl rfl rfl ?_
  refine v_aload_nX (pc' := 704) 1 dL_law__703 rfl rfl rfl ?_
  refine v_iload (pc' := 706) 5 dL_law__704 rfl rfl ?_
  refine v_iconst (v := 1) (pc' := 707) dL_law__706 rfl rfl ?_
  refine v_iadd (pc' := 708) dL_law__707 rfl ?_
  refine v_sld (pc' := 709) dL_law__708 rfl fun v58 => ?_
  refine v_aload_nX (pc' := 710) 1 dL_law__709 rfl rfl rfl ?_
  refine v_iload (pc' := 712) 5 dL_law__710 rfl rfl ?_
  refine v_iconst (v := 2) (pc' := 713) dL_law__712 rfl rfl ?_
  refine v_iadd (pc' := 714) dL_law__713 rfl ?_
  refine v_sld (pc' := 715) dL_law__714 rfl fun v59 => ?_
  refine v_callV (vs := [.int v58, .int v59]) (pc' := 718) (h_X12_plate g a2 v58 v59) mv_X12_plate wl_L_166 rfl (Nat.le_of_ble_eq_true rfl) (by omega) (by decide) (Nat.le_of_ble_eq_true rfl) rfl dL_law__715 rfl fun v60 => ?_
  refine v_istore (lv' := [(6, .int v60), (5, .int v57), (0, .ref (gS g).1), (1, rf g a1), (2, rf g a2), (3, rf g a3), (4, .int x4)]) (pc' := 720) dL_law__718 (by decide) rfl rfl ?_
  refine v_aload_n (pc' := 721) 4 dL_law__720 rfl rfl rfl ?_
  refine v_callV (vs := []) (pc' := 724) (h_X12_thrown g a2) mv_X12_thrown wl_L_136 rfl (Nat.le_of_ble_eq_true rfl) (by omega) (by decide) (Nat.le_of_ble_eq_true rfl) rfl dL_law__721 rfl fun v61 => ?_
  refine v_iload (pc' := 726) 1 dL_law__724 rfl rfl ?_
  refine v_icmpeq (t := 731) (pc' := 729) dL_law__726 (by decide) rfl ?_ ?_
  · refine v_iload (pc' := 733) 1 dL_law__731 rfl rfl ?_
    refine v_ifne (t := 748) (pc' := 736) dL_law__733 (by decide) rfl ?_ ?_
    · refine V.sub [2, 3, 4, 5, 6] rfl ?_
      exact h_L_law__b748 g k23 hk23 a1 a2 a3 x4
    · refine v_aload_n (pc' := 737) 5 dL_law__736 rfl rfl rfl ?_
      refine v_iconst (v := 0) (pc' := 738) dL_law__737 rfl rfl ?_
      refine v_lald (pc' := 739) dL_law__738 rfl fun w62 => ?_
      refine v_iload (pc' := 741) 0 dL_law__739 rfl rfl ?_
      refine v_i2l (pc' := 742) dL_law__741 rfl ?_
      refine v_lcmp (pc' := 743) dL_law__742 rfl ?_
      refine v_ifeq (t := 748) (pc' := 746) dL_law__743 (by decide) rfl ?_ ?_
      · refine V.sub [2, 3, 4, 5, 6] rfl ?_
        exact h_L_law__b748 g k23 hk23 a1 a2 a3 x4
      · refine v_iconst (v := 0) (pc' := 747) dL_law__746 rfl rfl ?_
        exact v_zret rfl rfl dL_law__747
  · refine v_iconst (v := 0) (pc' := 730) dL_law__729 rfl rfl ?_
    exact v_zret rfl rfl dL_law__730
set_option maxRecDepth 20000 in
theorem h_L_law__b816 (g : GW) (k23 : Nat → Nat → Nat → Int32 → Mo Int32) (hk23 : ∀ a1 a2 a3 x4, V g mL_law_ 62 rtI 23 [(0, .ref (gS g).1), (1, rf g a1), (2, rf g a2), (3, rf g a3), (4, .int x4)] [] (k23 a1 a2 a3 x4)) (a1 : Nat) (a2 : Nat) (a3 : Nat) (x4 : Int32) : V g mL_law_ 62 rtI 816 [(0, .ref (gS g).1), (1, rf g a1), (2, rf g a2), (3, rf g a3), (4, .int x4)] [] (f_L_law__b816 g k23 a1 a2 a3 x4) := by
  unfold f_L_law__b816
  refine v_goto (t := 2771) dL_law__816 (by decide) ?_
  refine V.sub [0, 1, 2, 3, 4] rfl ?_
  exact h_L_law__b2771 g k23 hk23 a1 a2 a3 x4
set_option maxRecDepth 20000 in
theorem h_L_law__b751 (g : GW) (k23 : Nat → Nat → Nat → Int32 → Mo Int32) (hk23 : ∀ a1 a2 a3 x4, V g mL_law_ 62 rtI 23 [(0, .ref (gS g).1), (1, rf g a1), (2, rf g a2), (3, rf g a3), (4, .int x4)] [] (k23 a1 a2 a3 x4)) (a1 : Nat) (a2 : Nat) (a3 : Nat) (x4 : Int32) : V g mL_law_ 62 rtI 751 [(0, .ref (gS g).1), (1, rf g a1), (2, rf g a2), (3, rf g a3), (4, .int x4)] [] (f_L_law__b751 g k23 a1 a2 a3 x4) := by
  unfold f_L_law__b751
  refine v_aload_n (pc' := 752) 1 dL_law__751 rfl rfl rfl ?_
  refine v_aload_nX (pc' := 753) 0 dL_law__752 rfl rfl rfl ?_
  refine v_iload (pc' := 755) 4 dL_law__753 rfl rfl ?_
  refine v_iconst (v := 1) (pc' := 756) dL_law__755 rfl rfl ?_
  refine v_iadd (pc' := 757) dL_law__756 rfl ?_
  refine v_sld (pc' := 758) dL_law__757 rfl fun v63 => ?_
  refine v_aload_nX (pc' := 759) 0 dL_law__758 rfl rfl rfl ?_
  refine v_iload (pc' := 761) 4 dL_law__759 rfl rfl ?_
  refine v_iconst (v := 2) (pc' := 762) dL_law__761 rfl rfl ?_
  refine v_iadd (pc' := 763) dL_law__762 rfl ?_
  refine v_sld (pc' := 764) dL_law__763 rfl fun v64 => ?_
  refine v_aload_n (pc' := 765) 3 dL_law__764 rfl rfl rfl ?_
  refine v_callX (vs := [rf g a1, .int v63, .int v64, rf g a3]) (pc' := 768) (h_L_hall g a1 v63 v64 a3) mx_L_hall wl_L_167 (Nat.le_of_ble_eq_true rfl) (by omega) (by decide) (Nat.le_of_ble_eq_true rfl) rfl dL_law__765 rfl fun v65 => ?_
  refine v_istore (lv' := [(5, .int v65), (0, .ref (gS g).1), (1, rf g a1), (2, rf g a2), (3, rf g a3), (4, .int x4)]) (pc' := 770) dL_law__768 (by decide) rfl rfl ?_
  refine v_aload_n (pc' := 771) 3 dL_law__770 rfl rfl rfl ?_
  refine v_aload_nX (pc' := 772) 1 dL_law__771 rfl rfl rfl ?_
  refine v_iload (pc' := 774) 5 dL_law__772 rfl rfl ?_
  refine v_iconst (v := 1) (pc' := 775) dL_law__774 rfl rfl ?_
  refine v_iadd (pc' := 776) dL_law__775 rfl ?_
  refine v_sld (pc' := 777) dL_law__776 rfl fun v66 => ?_
  refine v_aload_nX (pc' := 778) 1 dL_law__777 rfl rfl rfl ?_
  refine v_iload (pc' := 780) 5 dL_law__778 rfl rfl ?_
  refine v_iconst (v := 2) (pc' := 781) dL_law__780 rfl rfl ?_
  refine v_iadd (pc' := 782) dL_law__781 rfl ?_
  refine v_sld (pc' := 783) dL_law__782 rfl fun v67 => ?_
  refine v_callV (vs := [.int v66, .int v67]) (pc' := 786) (h_X12_hall g a2 v66 v67) mv_X12_hall wl_L_169 rfl (Nat.le_of_ble_eq_true rfl) (by omega) (by decide) (Nat.le_of_ble_eq_true rfl) rfl dL_law__783 rfl fun v68 => ?_
  refine v_istore (lv' := [(6, .int v68), (5, .int v65), (0, .ref (gS g).1), (1, rf g a1), (2, rf g a2), (3, rf g a3), (4, .int x4)]) (pc' := 788) dL_law__786 (by decide) rfl rfl ?_
  refine v_aload_n (pc' := 789) 4 dL_law__788 rfl rfl rfl ?_
  refine v_callV (vs := []) (pc' := 792) (h_X12_thrown g a2) mv_X12_thrown wl_L_136 rfl (Nat.le_of_ble_eq_true rfl) (by omega) (by decide) (Nat.le_of_ble_eq_true rfl) rfl dL_law__789 rfl fun v69 => ?_
  refine v_iload (pc' := 794) 1 dL_law__792 rfl rfl ?_
  refine v_icmpeq (t := 799) (pc' := 797) dL_law__794 (by decide) rfl ?_ ?_
  · refine v_iload (pc' := 801) 1 dL_law__799 rfl rfl ?_
    refine v_ifne (t := 816) (pc' := 804) dL_law__801 (by decide) rfl ?_ ?_
    · refine V.sub [2, 3, 4, 5, 6] rfl ?_
      exact h_L_law__b816 g k23 hk23 a1 a2 a3 x4
    · refine v_aload_n (pc' := 805) 5 dL_law__804 rfl rfl rfl ?_
      refine v_iconst (v := 0) (pc' := 806) dL_law__805 rfl rfl ?_
      refine v_lald (pc' := 807) dL_law__806 rfl fun w70 => ?_
      refine v_iload (pc' := 809) 0 dL_law__807 rfl rfl ?_
      refine v_i2l (pc' := 810) dL_law__809 rfl ?_
      refine v_lcmp (pc' := 811) dL_law__810 rfl ?_
      refine v_ifeq (t := 816) (pc' := 814) dL_law__811 (by decide) rfl ?_ ?_
      · refine V.sub [2, 3, 4, 5, 6] rfl ?_
        exact h_L_law__b816 g k23 hk23 a1 a2 a3 x4
      · refine v_iconst (v := 0) (pc' := 815) dL_law__814 rfl rfl ?_
        exact v_zret rfl rfl dL_law__815
  · refine v_iconst (v := 0) (pc' := 798) dL_law__797 rfl rfl ?_
    exact v_zret rfl rfl dL_law__798
set_option maxRecDepth 20000 in
theorem h_L_law__b896 (g : GW) (k23 : Nat → Nat → Nat → Int32 → Mo Int32) (hk23 : ∀ a1 a2 a3 x4, V g mL_law_ 62 rtI 23 [(0, .ref (gS g).1), (1, rf g a1), (2, rf g a2), (3, rf g a3), (4, .int x4)] [] (k23 a1 a2 a3 x4)) (a1 : Nat) (a2 : Nat) (a3 : Nat) (x4 : Int32) : V g mL_law_ 62 rtI 896 [(0, .ref (gS g).1), (1, rf g a1), (2, rf g a2), (3, rf g a3), (4, .int x4)] [] (f_L_law__b896 g k23 a1 a2 a3 x4) := by
  unfold f_L_law__b896
  refine v_goto (t := 2771) dL_law__896 (by decide) ?_
  refine V.sub [0, 1, 2, 3, 4] rfl ?_
  exact h_L_law__b2771 g k23 hk23 a1 a2 a3 x4
set_option maxRecDepth 20000 in
theorem h_L_law__b819 (g : GW) (k23 : Nat → Nat → Nat → Int32 → Mo Int32) (hk23 : ∀ a1 a2 a3 x4, V g mL_law_ 62 rtI 23 [(0, .ref (gS g).1), (1, rf g a1), (2, rf g a2), (3, rf g a3), (4, .int x4)] [] (k23 a1 a2 a3 x4)) (a1 : Nat) (a2 : Nat) (a3 : Nat) (x4 : Int32) : V g mL_law_ 62 rtI 819 [(0, .ref (gS g).1), (1, rf g a1), (2, rf g a2), (3, rf g a3), (4, .int x4)] [] (f_L_law__b819 g k23 a1 a2 a3 x4) := by
  unfold f_L_law__b819
  refine v_aload_n (pc' := 820) 1 dL_law__819 rfl rfl rfl ?_
  refine v_aload_nX (pc' := 821) 0 dL_law__820 rfl rfl rfl ?_
  refine v_iload (pc' := 823) 4 dL_law__821 rfl rfl ?_
  refine v_iconst (v := 1) (pc' := 824) dL_law__823 rfl rfl ?_
  refine v_iadd (pc' := 825) dL_law__824 rfl ?_
  refine v_sld (pc' := 826) dL_law__825 rfl fun v71 => ?_
  refine v_aload_nX (pc' := 827) 0 dL_law__826 rfl rfl rfl ?_
  refine v_iload (pc' := 829) 4 dL_law__827 rfl rfl ?_
  refine v_iconst (v := 2) (pc' := 830) dL_law__829 rfl rfl ?_
  refine v_iadd (pc' := 831) dL_law__830 rfl ?_
  refine v_sld (pc' := 832) dL_law__831 rfl fun v72 => ?_
  refine v_aload_nX (pc' := 833) 0 dL_law__832 rfl rfl rfl ?_
  refine v_iload (pc' := 835) 4 dL_law__833 rfl rfl ?_
  refine v_iconst (v := 3) (pc' := 836) dL_law__835 rfl rfl ?_
  refine v_iadd (pc' := 837) dL_law__836 rfl ?_
  refine v_sld (pc' := 838) dL_law__837 rfl fun v73 => ?_
  refine v_aload_n (pc' := 839) 3 dL_law__838 rfl rfl rfl ?_
  refine v_callX (vs := [rf g a1, .int v71, .int v72, .int v73, rf g a3]) (pc' := 842) (h_L_shown g a1 v71 v72 v73 a3) mx_L_shown wl_L_170 (Nat.le_of_ble_eq_true rfl) (by omega) (by decide) (Nat.le_of_ble_eq_true rfl) rfl dL_law__839 rfl fun v74 => ?_
  refine v_istore (lv' := [(5, .int v74), (0, .ref (gS g).1), (1, rf g a1), (2, rf g a2), (3, rf g a3), (4, .int x4)]) (pc' := 844) dL_law__842 (by decide) rfl rfl ?_
  refine v_aload_n (pc' := 845) 3 dL_law__844 rfl rfl rfl ?_
  refine v_aload_nX (pc' := 846) 1 dL_law__845 rfl rfl rfl ?_
  refine v_iload (pc' := 848) 5 dL_law__846 rfl rfl ?_
  refine v_iconst (v := 1) (pc' := 849) dL_law__848 rfl rfl ?_
  refine v_iadd (pc' := 850) dL_law__849 rfl ?_
  refine v_sld (pc' := 851) dL_law__850 rfl fun v75 => ?_
  refine v_aload_nX (pc' := 852) 1 dL_law__851 rfl rfl rfl ?_
  refine v_iload (pc' := 854) 5 dL_law__852 rfl rfl ?_
  refine v_iconst (v := 2) (pc' := 855) dL_law__854 rfl rfl ?_
  refine v_iadd (pc' := 856) dL_law__855 rfl ?_
  refine v_sld (pc' := 857) dL_law__856 rfl fun v76 => ?_
  refine v_aload_nX (pc' := 858) 1 dL_law__857 rfl rfl rfl ?_
  refine v_iload (pc' := 860) 5 dL_law__858 rfl rfl ?_
  refine v_iconst (v := 3) (pc' := 861) dL_law__860 rfl rfl ?_
  refine v_iadd (pc' := 862) dL_law__861 rfl ?_
  refine v_sld (pc' := 863) dL_law__862 rfl fun v77 => ?_
  refine v_callV (vs := [.int v75, .int v76, .int v77]) (pc' := 866) (h_X12_shown g a2 v75 v76 v77) mv_X12_shown wl_L_173 rfl (Nat.le_of_ble_eq_true rfl) (by omega) (by decide) (Nat.le_of_ble_eq_true rfl) rfl dL_law__863 rfl fun v78 => ?_
  refine v_istore (lv' := [(6, .int v78), (5, .int v74), (0, .ref (gS g).1), (1, rf g a1), (2, rf g a2), (3, rf g a3), (4, .int x4)]) (pc' := 868) dL_law__866 (by decide) rfl rfl ?_
  refine v_aload_n (pc' := 869) 4 dL_law__868 rfl rfl rfl ?_
  refine v_callV (vs := []) (pc' := 872) (h_X12_thrown g a2) mv_X12_thrown wl_L_136 rfl (Nat.le_of_ble_eq_true rfl) (by omega) (by decide) (Nat.le_of_ble_eq_true rfl) rfl dL_law__869 rfl fun v79 => ?_
  refine v_iload (pc' := 874) 1 dL_law__872 rfl rfl ?_
  refine v_icmpeq (t := 879) (pc' := 877) dL_law__874 (by decide) rfl ?_ ?_
  · refine v_iload (pc' := 881) 1 dL_law__879 rfl rfl ?_
    refine v_ifne (t := 896) (pc' := 884) dL_law__881 (by decide) rfl ?_ ?_
    · refine V.sub [2, 3, 4, 5, 6] rfl ?_
      exact h_L_law__b896 g k23 hk23 a1 a2 a3 x4
    · refine v_aload_n (pc' := 885) 5 dL_law__884 rfl rfl rfl ?_
      refine v_iconst (v := 0) (pc' := 886) dL_law__885 rfl rfl ?_
      refine v_lald (pc' := 887) dL_law__886 rfl fun w80 => ?_
      refine v_iload (pc' := 889) 0 dL_law__887 rfl rfl ?_
      refine v_i2l (pc' := 890) dL_law__889 rfl ?_
      refine v_lcmp (pc' := 891) dL_law__890 rfl ?_
      refine v_ifeq (t := 896) (pc' := 894) dL_law__891 (by decide) rfl ?_ ?_
      · refine V.sub [2, 3, 4, 5, 6] rfl ?_
        exact h_L_law__b896 g k23 hk23 a1 a2 a3 x4
      · refine v_iconst (v := 0) (pc' := 895) dL_law__894 rfl rfl ?_
        exact v_zret rfl rfl dL_law__895
  · refine v_iconst (v := 0) (pc' := 878) dL_law__877 rfl rfl ?_
    exact v_zret rfl rfl dL_law__878
set_option maxRecDepth 20000 in
theorem h_L_law__b1042 (g : GW) (k23 : Nat → Nat → Nat → Int32 → Mo Int32) (hk23 : ∀ a1 a2 a3 x4, V g mL_law_ 62 rtI 23 [(0, .ref (gS g).1), (1, rf g a1), (2, rf g a2), (3, rf g a3), (4, .int x4)] [] (k23 a1 a2 a3 x4)) (a1 : Nat) (a2 : Nat) (a3 : Nat) (x4 : Int32) : V g mL_law_ 62 rtI 1042 [(0, .ref (gS g).1), (1, rf g a1), (2, rf g a2), (3, rf g a3), (4, .int x4)] [] (f_L_law__b1042 g k23 a1 a2 a3 x4) := by
  unfold f_L_law__b1042
  refine v_goto (t := 2771) dL_law__1042 (by decide) ?_
  refine V.sub [0, 1, 2, 3, 4] rfl ?_
  exact h_L_law__b2771 g k23 hk23 a1 a2 a3 x4
set_option maxRecDepth 20000 in
theorem h_L_law__b899 (g : GW) (k23 : Nat → Nat → Nat → Int32 → Mo Int32) (hk23 : ∀ a1 a2 a3 x4, V g mL_law_ 62 rtI 23 [(0, .ref (gS g).1), (1, rf g a1), (2, rf g a2), (3, rf g a3), (4, .int x4)] [] (k23 a1 a2 a3 x4)) (a1 : Nat) (a2 : Nat) (a3 : Nat) (x4 : Int32) : V g mL_law_ 62 rtI 899 [(0, .ref (gS g).1), (1, rf g a1), (2, rf g a2), (3, rf g a3), (4, .int x4)] [] (f_L_law__b899 g k23 a1 a2 a3 x4) := by
  unfold f_L_law__b899
  refine v_aload_n (pc' := 900) 1 dL_law__899 rfl rfl rfl ?_
  refine v_aload_nX (pc' := 901) 0 dL_law__900 rfl rfl rfl ?_
  refine v_iload (pc' := 903) 4 dL_law__901 rfl rfl ?_
  refine v_iconst (v := 1) (pc' := 904) dL_law__903 rfl rfl ?_
  refine v_iadd (pc' := 905) dL_law__904 rfl ?_
  refine v_sld (pc' := 906) dL_law__905 rfl fun v81 => ?_
  refine v_aload_nX (pc' := 907) 0 dL_law__906 rfl rfl rfl ?_
  refine v_iload (pc' := 909) 4 dL_law__907 rfl rfl ?_
  refine v_iconst (v := 2) (pc' := 910) dL_law__909 rfl rfl ?_
  refine v_iadd (pc' := 911) dL_law__910 rfl ?_
  refine v_sld (pc' := 912) dL_law__911 rfl fun v82 => ?_
  refine v_aload_nX (pc' := 913) 0 dL_law__912 rfl rfl rfl ?_
  refine v_iload (pc' := 915) 4 dL_law__913 rfl rfl ?_
  refine v_iconst (v := 3) (pc' := 916) dL_law__915 rfl rfl ?_
  refine v_iadd (pc' := 917) dL_law__916 rfl ?_
  refine v_sld (pc' := 918) dL_law__917 rfl fun v83 => ?_
  refine v_aload_nX (pc' := 919) 0 dL_law__918 rfl rfl rfl ?_
  refine v_iload (pc' := 921) 4 dL_law__919 rfl rfl ?_
  refine v_iconst (v := 4) (pc' := 922) dL_law__921 rfl rfl ?_
  refine v_iadd (pc' := 923) dL_law__922 rfl ?_
  refine v_sld (pc' := 924) dL_law__923 rfl fun v84 => ?_
  refine v_aload_nX (pc' := 925) 0 dL_law__924 rfl rfl rfl ?_
  refine v_iload (pc' := 927) 4 dL_law__925 rfl rfl ?_
  refine v_iconst (v := 5) (pc' := 928) dL_law__927 rfl rfl ?_
  refine v_iadd (pc' := 929) dL_law__928 rfl ?_
  refine v_sld (pc' := 930) dL_law__929 rfl fun v85 => ?_
  refine v_aload_nX (pc' := 931) 0 dL_law__930 rfl rfl rfl ?_
  refine v_iload (pc' := 933) 4 dL_law__931 rfl rfl ?_
  refine v_bipush (v := 6) (pc' := 935) dL_law__933 rfl rfl ?_
  refine v_iadd (pc' := 936) dL_law__935 rfl ?_
  refine v_sld (pc' := 937) dL_law__936 rfl fun v86 => ?_
  refine v_aload_nX (pc' := 938) 0 dL_law__937 rfl rfl rfl ?_
  refine v_iload (pc' := 940) 4 dL_law__938 rfl rfl ?_
  refine v_bipush (v := 7) (pc' := 942) dL_law__940 rfl rfl ?_
  refine v_iadd (pc' := 943) dL_law__942 rfl ?_
  refine v_sld (pc' := 944) dL_law__943 rfl fun v87 => ?_
  refine v_aload_nX (pc' := 945) 0 dL_law__944 rfl rfl rfl ?_
  refine v_iload (pc' := 947) 4 dL_law__945 rfl rfl ?_
  refine v_bipush (v := 8) (pc' := 949) dL_law__947 rfl rfl ?_
  refine v_iadd (pc' := 950) dL_law__949 rfl ?_
  refine v_sld (pc' := 951) dL_law__950 rfl fun v88 => ?_
  refine v_aload_n (pc' := 952) 3 dL_law__951 rfl rfl rfl ?_
  refine v_callX (vs := [rf g a1, .int v81, .int v82, .int v83, .int v84, .int v85, .int v86, .int v87, .int v88, rf g a3]) (pc' := 955) (h_L_would g a1 v81 v82 v83 v84 v85 v86 v87 v88 a3) mx_L_would wl_L_174 (Nat.le_of_ble_eq_true rfl) (by omega) (by decide) (Nat.le_of_ble_eq_true rfl) rfl dL_law__952 rfl fun v89 => ?_
  refine v_istore (lv' := [(5, .int v89), (0, .ref (gS g).1), (1, rf g a1), (2, rf g a2), (3, rf g a3), (4, .int x4)]) (pc' := 957) dL_law__955 (by decide) rfl rfl ?_
  refine v_aload_n (pc' := 958) 3 dL_law__957 rfl rfl rfl ?_
  refine v_aload_nX (pc' := 959) 1 dL_law__958 rfl rfl rfl ?_
  refine v_iload (pc' := 961) 5 dL_law__959 rfl rfl ?_
  refine v_iconst (v := 1) (pc' := 962) dL_law__961 rfl rfl ?_
  refine v_iadd (pc' := 963) dL_law__962 rfl ?_
  refine v_sld (pc' := 964) dL_law__963 rfl fun v90 => ?_
  refine v_aload_nX (pc' := 965) 1 dL_law__964 rfl rfl rfl ?_
  refine v_iload (pc' := 967) 5 dL_law__965 rfl rfl ?_
  refine v_iconst (v := 2) (pc' := 968) dL_law__967 rfl rfl ?_
  refine v_iadd (pc' := 969) dL_law__968 rfl ?_
  refine v_sld (pc' := 970) dL_law__969 rfl fun v91 => ?_
  refine v_aload_nX (pc' := 971) 1 dL_law__970 rfl rfl rfl ?_
  refine v_iload (pc' := 973) 5 dL_law__971 rfl rfl ?_
  refine v_iconst (v := 3) (pc' := 974) dL_law__973 rfl rfl ?_
  refine v_iadd (pc' := 975) dL_law__974 rfl ?_
  refine v_sld (pc' := 976) dL_law__975 rfl fun v92 => ?_
  refine v_aload_nX (pc' := 977) 1 dL_law__976 rfl rfl rfl ?_
  refine v_iload (pc' := 979) 5 dL_law__977 rfl rfl ?_
  refine v_iconst (v := 4) (pc' := 980) dL_law__979 rfl rfl ?_
  refine v_iadd (pc' := 981) dL_law__980 rfl ?_
  refine v_sld (pc' := 982) dL_law__981 rfl fun v93 => ?_
  refine v_aload_nX (pc' := 983) 1 dL_law__982 rfl rfl rfl ?_
  refine v_iload (pc' := 985) 5 dL_law__983 rfl rfl ?_
  refine v_iconst (v := 5) (pc' := 986) dL_law__985 rfl rfl ?_
  refine v_iadd (pc' := 987) dL_law__986 rfl ?_
  refine v_sld (pc' := 988) dL_law__987 rfl fun v94 => ?_
  refine v_aload_nX (pc' := 989) 1 dL_law__988 rfl rfl rfl ?_
  refine v_iload (pc' := 991) 5 dL_law__989 rfl rfl ?_
  refine v_bipush (v := 6) (pc' := 993) dL_law__991 rfl rfl ?_
  refine v_iadd (pc' := 994) dL_law__993 rfl ?_
  refine v_sld (pc' := 995) dL_law__994 rfl fun v95 => ?_
  refine v_aload_nX (pc' := 996) 1 dL_law__995 rfl rfl rfl ?_
  refine v_iload (pc' := 998) 5 dL_law__996 rfl rfl ?_
  refine v_bipush (v := 7) (pc' := 1000) dL_law__998 rfl rfl ?_
  refine v_iadd (pc' := 1001) dL_law__1000 rfl ?_
  refine v_sld (pc' := 1002) dL_law__1001 rfl fun v96 => ?_
  refine v_aload_nX (pc' := 1003) 1 dL_law__1002 rfl rfl rfl ?_
  refine v_iload (pc' := 1005) 5 dL_law__1003 rfl rfl ?_
  refine v_bipush (v := 8) (pc' := 1007) dL_law__1005 rfl rfl ?_
  refine v_iadd (pc' := 1008) dL_law__1007 rfl ?_
  refine v_sld (pc' := 1009) dL_law__1008 rfl fun v97 => ?_
  refine v_callV (vs := [.int v90, .int v91, .int v92, .int v93, .int v94, .int v95, .int v96, .int v97]) (pc' := 1012) (h_X12_would g a2 v90 v91 v92 v93 v94 v95 v96 v97) mv_X12_would wl_L_177 rfl (Nat.le_of_ble_eq_true rfl) (by omega) (by decide) (Nat.le_of_ble_eq_true rfl) rfl dL_law__1009 rfl fun v98 => ?_
  refine v_istore (lv' := [(6, .int v98), (5, .int v89), (0, .ref (gS g).1), (1, rf g a1), (2, rf g a2), (3, rf g a3), (4, .int x4)]) (pc' := 1014) dL_law__1012 (by decide) rfl rfl ?_
  refine v_aload_n (pc' := 1015) 4 dL_law__1014 rfl rfl rfl ?_
  refine v_callV (vs := []) (pc' := 1018) (h_X12_thrown g a2) mv_X12_thrown wl_L_136 rfl (Nat.le_of_ble_eq_true rfl) (by omega) (by decide) (Nat.le_of_ble_eq_true rfl) rfl dL_law__1015 rfl fun v99 => ?_
  refine v_iload (pc' := 1020) 1 dL_law__1018 rfl rfl ?_
  refine v_icmpeq (t := 1025) (pc' := 1023) dL_law__1020 (by decide) rfl ?_ ?_
  · refine v_iload (pc' := 1027) 1 dL_law__1025 rfl rfl ?_
    refine v_ifne (t := 1042) (pc' := 1030) dL_law__1027 (by decide) rfl ?_ ?_
    · refine V.sub [2, 3, 4, 5, 6] rfl ?_
      exact h_L_law__b1042 g k23 hk23 a1 a2 a3 x4
    · refine v_aload_n (pc' := 1031) 5 dL_law__1030 rfl rfl rfl ?_
      refine v_iconst (v := 0) (pc' := 1032) dL_law__1031 rfl rfl ?_
      refine v_lald (pc' := 1033) dL_law__1032 rfl fun w100 => ?_
      refine v_iload (pc' := 1035) 0 dL_law__1033 rfl rfl ?_
      refine v_i2l (pc' := 1036) dL_law__1035 rfl ?_
      refine v_lcmp (pc' := 1037) dL_law__1036 rfl ?_
      refine v_ifeq (t := 1042) (pc' := 1040) dL_law__1037 (by decide) rfl ?_ ?_
      · refine V.sub [2, 3, 4, 5, 6] rfl ?_
        exact h_L_law__b1042 g k23 hk23 a1 a2 a3 x4
      · refine v_iconst (v := 0) (pc' := 1041) dL_law__1040 rfl rfl ?_
        exact v_zret rfl rfl dL_law__1041
  · refine v_iconst (v := 0) (pc' := 1024) dL_law__1023 rfl rfl ?_
    exact v_zret rfl rfl dL_law__1024
set_option maxRecDepth 20000 in
theorem h_L_law__b1110 (g : GW) (k23 : Nat → Nat → Nat → Int32 → Mo Int32) (hk23 : ∀ a1 a2 a3 x4, V g mL_law_ 62 rtI 23 [(0, .ref (gS g).1), (1, rf g a1), (2, rf g a2), (3, rf g a3), (4, .int x4)] [] (k23 a1 a2 a3 x4)) (a1 : Nat) (a2 : Nat) (a3 : Nat) (x4 : Int32) : V g mL_law_ 62 rtI 1110 [(0, .ref (gS g).1), (1, rf g a1), (2, rf g a2), (3, rf g a3), (4, .int x4)] [] (f_L_law__b1110 g k23 a1 a2 a3 x4) := by
  unfold f_L_law__b1110
  refine v_goto (t := 2771) dL_law__1110 (by decide) ?_
  refine V.sub [0, 1, 2, 3, 4] rfl ?_
  exact h_L_law__b2771 g k23 hk23 a1 a2 a3 x4
set_option maxRecDepth 20000 in
theorem h_L_law__b1045 (g : GW) (k23 : Nat → Nat → Nat → Int32 → Mo Int32) (hk23 : ∀ a1 a2 a3 x4, V g mL_law_ 62 rtI 23 [(0, .ref (gS g).1), (1, rf g a1), (2, rf g a2), (3, rf g a3), (4, .int x4)] [] (k23 a1 a2 a3 x4)) (a1 : Nat) (a2 : Nat) (a3 : Nat) (x4 : Int32) : V g mL_law_ 62 rtI 1045 [(0, .ref (gS g).1), (1, rf g a1), (2, rf g a2), (3, rf g a3), (4, .int x4)] [] (f_L_law__b1045 g k23 a1 a2 a3 x4) := by
  unfold f_L_law__b1045
  refine v_aload_n (pc' := 1046) 1 dL_law__1045 rfl rfl rfl ?_
  refine v_aload_nX (pc' := 1047) 0 dL_law__1046 rfl rfl rfl ?_
  refine v_iload (pc' := 1049) 4 dL_law__1047 rfl rfl ?_
  refine v_iconst (v := 1) (pc' := 1050) dL_law__1049 rfl rfl ?_
  refine v_iadd (pc' := 1051) dL_law__1050 rfl ?_
  refine v_sld (pc' := 1052) dL_law__1051 rfl fun v101 => ?_
  refine v_aload_nX (pc' := 1053) 0 dL_law__1052 rfl rfl rfl ?_
  refine v_iload (pc' := 1055) 4 dL_law__1053 rfl rfl ?_
  refine v_iconst (v := 2) (pc' := 1056) dL_law__1055 rfl rfl ?_
  refine v_iadd (pc' := 1057) dL_law__1056 rfl ?_
  refine v_sld (pc' := 1058) dL_law__1057 rfl fun v102 => ?_
  refine v_aload_n (pc' := 1059) 3 dL_law__1058 rfl rfl rfl ?_
  refine v_callX (vs := [rf g a1, .int v101, .int v102, rf g a3]) (pc' := 1062) (h_L_unlike g a1 v101 v102 a3) mx_L_unlike wl_L_178 (Nat.le_of_ble_eq_true rfl) (by omega) (by decide) (Nat.le_of_ble_eq_true rfl) rfl dL_law__1059 rfl fun v103 => ?_
  refine v_istore (lv' := [(5, .int v103), (0, .ref (gS g).1), (1, rf g a1), (2, rf g a2), (3, rf g a3), (4, .int x4)]) (pc' := 1064) dL_law__1062 (by decide) rfl rfl ?_
  refine v_aload_n (pc' := 1065) 3 dL_law__1064 rfl rfl rfl ?_
  refine v_aload_nX (pc' := 1066) 1 dL_law__1065 rfl rfl rfl ?_
  refine v_iload (pc' := 1068) 5 dL_law__1066 rfl rfl ?_
  refine v_iconst (v := 1) (pc' := 1069) dL_law__1068 rfl rfl ?_
  refine v_iadd (pc' := 1070) dL_law__1069 rfl ?_
  refine v_sld (pc' := 1071) dL_law__1070 rfl fun v104 => ?_
  refine v_aload_nX (pc' := 1072) 1 dL_law__1071 rfl rfl rfl ?_
  refine v_iload (pc' := 1074) 5 dL_law__1072 rfl rfl ?_
  refine v_iconst (v := 2) (pc' := 1075) dL_law__1074 rfl rfl ?_
  refine v_iadd (pc' := 1076) dL_law__1075 rfl ?_
  refine v_sld (pc' := 1077) dL_law__1076 rfl fun v105 => ?_
  refine v_callV (vs := [.int v104, .int v105]) (pc' := 1080) (h_X12_unlike g a2 v104 v105) mv_X12_unlike wl_L_180 rfl (Nat.le_of_ble_eq_true rfl) (by omega) (by decide) (Nat.le_of_ble_eq_true rfl) rfl dL_law__1077 rfl fun v106 => ?_
  refine v_istore (lv' := [(6, .int v106), (5, .int v103), (0, .ref (gS g).1), (1, rf g a1), (2, rf g a2), (3, rf g a3), (4, .int x4)]) (pc' := 1082) dL_law__1080 (by decide) rfl rfl ?_
  refine v_aload_n (pc' := 1083) 4 dL_law__1082 rfl rfl rfl ?_
  refine v_callV (vs := []) (pc' := 1086) (h_X12_thrown g a2) mv_X12_thrown wl_L_136 rfl (Nat.le_of_ble_eq_true rfl) (by omega) (by decide) (Nat.le_of_ble_eq_true rfl) rfl dL_law__1083 rfl fun v107 => ?_
  refine v_iload (pc' := 1088) 1 dL_law__1086 rfl rfl ?_
  refine v_icmpeq (t := 1093) (pc' := 1091) dL_law__1088 (by decide) rfl ?_ ?_
  · refine v_iload (pc' := 1095) 1 dL_law__1093 rfl rfl ?_
    refine v_ifne (t := 1110) (pc' := 1098) dL_law__1095 (by decide) rfl ?_ ?_
    · refine V.sub [2, 3, 4, 5, 6] rfl ?_
      exact h_L_law__b1110 g k23 hk23 a1 a2 a3 x4
    · refine v_aload_n (pc' := 1099) 5 dL_law__1098 rfl rfl rfl ?_
      refine v_iconst (v := 0) (pc' := 1100) dL_law__1099 rfl rfl ?_
      refine v_lald (pc' := 1101) dL_law__1100 rfl fun w108 => ?_
      refine v_iload (pc' := 1103) 0 dL_law__1101 rfl rfl ?_
      refine v_i2l (pc' := 1104) dL_law__1103 rfl ?_
      refine v_lcmp (pc' := 1105) dL_law__1104 rfl ?_
      refine v_ifeq (t := 1110) (pc' := 1108) dL_law__1105 (by decide) rfl ?_ ?_
      · refine V.sub [2, 3, 4, 5, 6] rfl ?_
        exact h_L_law__b1110 g k23 hk23 a1 a2 a3 x4
      · refine v_iconst (v := 0) (pc' := 1109) dL_law__1108 rfl rfl ?_
        exact v_zret rfl rfl dL_law__1109
  · refine v_iconst (v := 0) (pc' := 1092) dL_law__1091 rfl rfl ?_
    exact v_zret rfl rfl dL_law__1092
set_option maxRecDepth 20000 in
theorem h_L_law__b1113 (g : GW) (k23 : Nat → Nat → Nat → Int32 → Mo Int32) (hk23 : ∀ a1 a2 a3 x4, V g mL_law_ 62 rtI 23 [(0, .ref (gS g).1), (1, rf g a1), (2, rf g a2), (3, rf g a3), (4, .int x4)] [] (k23 a1 a2 a3 x4)) (a1 : Nat) (a2 : Nat) (a3 : Nat) (x4 : Int32) : V g mL_law_ 62 rtI 1113 [(0, .ref (gS g).1), (1, rf g a1), (2, rf g a2), (3, rf g a3), (4, .int x4)] [] (f_L_law__b1113 g k23 a1 a2 a3 x4) := by
  unfold f_L_law__b1113
  refine v_aload_n (pc' := 1114) 1 dL_law__1113 rfl rfl rfl ?_
  refine v_callV (vs := []) (pc' := 1117) (h_X11_had g a1) mv_X11_had wl_L_181 rfl (Nat.le_of_ble_eq_true rfl) (by omega) (by decide) (Nat.le_of_ble_eq_true rfl) rfl dL_law__1114 rfl fun v109 => ?_
  refine v_aload_n (pc' := 1118) 2 dL_law__1117 rfl rfl rfl ?_
  refine v_callV (vs := []) (pc' := 1121) (h_X12_had g a2) mv_X12_had wl_L_184 rfl (Nat.le_of_ble_eq_true rfl) (by omega) (by decide) (Nat.le_of_ble_eq_true rfl) rfl dL_law__1118 rfl fun v110 => ?_
  refine v_icmpeq (t := 2771) (pc' := 1124) dL_law__1121 (by decide) rfl ?_ ?_
  · refine V.sub [0, 1, 2, 3, 4] rfl ?_
    exact h_L_law__b2771 g k23 hk23 a1 a2 a3 x4
  · refine v_iconst (v := 0) (pc' := 1125) dL_law__1124 rfl rfl ?_
    exact v_zret rfl rfl dL_law__1125
set_option maxRecDepth 20000 in
theorem h_L_law__b1126 (g : GW) (k23 : Nat → Nat → Nat → Int32 → Mo Int32) (hk23 : ∀ a1 a2 a3 x4, V g mL_law_ 62 rtI 23 [(0, .ref (gS g).1), (1, rf g a1), (2, rf g a2), (3, rf g a3), (4, .int x4)] [] (k23 a1 a2 a3 x4)) (a1 : Nat) (a2 : Nat) (a3 : Nat) (x4 : Int32) : V g mL_law_ 62 rtI 1126 [(0, .ref (gS g).1), (1, rf g a1), (2, rf g a2), (3, rf g a3), (4, .int x4)] [] (f_L_law__b1126 g k23 a1 a2 a3 x4) := by
  unfold f_L_law__b1126
  refine v_aload_n (pc' := 1127) 1 dL_law__1126 rfl rfl rfl ?_
  refine v_callV (vs := []) (pc' := 1130) (h_X11_mistaken g a1) mv_X11_mistaken wl_L_185 rfl (Nat.le_of_ble_eq_true rfl) (by omega) (by decide) (Nat.le_of_ble_eq_true rfl) rfl dL_law__1127 rfl fun v111 => ?_
  refine v_aload_n (pc' := 1131) 2 dL_law__1130 rfl rfl rfl ?_
  refine v_callV (vs := []) (pc' := 1134) (h_X12_mistaken g a2) mv_X12_mistaken wl_L_188 rfl (Nat.le_of_ble_eq_true rfl) (by omega) (by decide) (Nat.le_of_ble_eq_true rfl) rfl dL_law__1131 rfl fun v112 => ?_
  refine v_icmpeq (t := 2771) (pc' := 1137) dL_law__1134 (by decide) rfl ?_ ?_
  · refine V.sub [0, 1, 2, 3, 4] rfl ?_
    exact h_L_law__b2771 g k23 hk23 a1 a2 a3 x4
  · refine v_iconst (v := 0) (pc' := 1138) dL_law__1137 rfl rfl ?_
    exact v_zret rfl rfl dL_law__1138
set_option maxRecDepth 20000 in
theorem h_L_law__b1192 (g : GW) (k23 : Nat → Nat → Nat → Int32 → Mo Int32) (hk23 : ∀ a1 a2 a3 x4, V g mL_law_ 62 rtI 23 [(0, .ref (gS g).1), (1, rf g a1), (2, rf g a2), (3, rf g a3), (4, .int x4)] [] (k23 a1 a2 a3 x4)) (a1 : Nat) (a2 : Nat) (a3 : Nat) (x4 : Int32) : V g mL_law_ 62 rtI 1192 [(0, .ref (gS g).1), (1, rf g a1), (2, rf g a2), (3, rf g a3), (4, .int x4)] [] (f_L_law__b1192 g k23 a1 a2 a3 x4) := by
  unfold f_L_law__b1192
  refine v_goto (t := 2771) dL_law__1192 (by decide) ?_
  refine V.sub [0, 1, 2, 3, 4] rfl ?_
  exact h_L_law__b2771 g k23 hk23 a1 a2 a3 x4
set_option maxRecDepth 20000 in
theorem h_L_law__b1139 (g : GW) (k23 : Nat → Nat → Nat → Int32 → Mo Int32) (hk23 : ∀ a1 a2 a3 x4, V g mL_law_ 62 rtI 23 [(0, .ref (gS g).1), (1, rf g a1), (2, rf g a2), (3, rf g a3), (4, .int x4)] [] (k23 a1 a2 a3 x4)) (a1 : Nat) (a2 : Nat) (a3 : Nat) (x4 : Int32) : V g mL_law_ 62 rtI 1139 [(0, .ref (gS g).1), (1, rf g a1), (2, rf g a2), (3, rf g a3), (4, .int x4)] [] (f_L_law__b1139 g k23 a1 a2 a3 x4) := by
  unfold f_L_law__b1139
  refine v_aload_n (pc' := 1140) 1 dL_law__1139 rfl rfl rfl ?_
  refine v_aload_nX (pc' := 1141) 0 dL_law__1140 rfl rfl rfl ?_
  refine v_iload (pc' := 1143) 4 dL_law__1141 rfl rfl ?_
  refine v_iconst (v := 1) (pc' := 1144) dL_law__1143 rfl rfl ?_
  refine v_iadd (pc' := 1145) dL_law__1144 rfl ?_
  refine v_sld (pc' := 1146) dL_law__1145 rfl fun v113 => ?_
  refine v_aload_n (pc' := 1147) 3 dL_law__1146 rfl rfl rfl ?_
  refine v_callX (vs := [rf g a1, .int v113, rf g a3]) (pc' := 1150) (h_L_can g a1 v113 a3) mx_L_can wl_L_189 (Nat.le_of_ble_eq_true rfl) (by omega) (by decide) (Nat.le_of_ble_eq_true rfl) rfl dL_law__1147 rfl fun v114 => ?_
  refine v_istore (lv' := [(5, .int v114), (0, .ref (gS g).1), (1, rf g a1), (2, rf g a2), (3, rf g a3), (4, .int x4)]) (pc' := 1152) dL_law__1150 (by decide) rfl rfl ?_
  refine v_aload_n (pc' := 1153) 3 dL_law__1152 rfl rfl rfl ?_
  refine v_aload_nX (pc' := 1154) 1 dL_law__1153 rfl rfl rfl ?_
  refine v_iload (pc' := 1156) 5 dL_law__1154 rfl rfl ?_
  refine v_iconst (v := 1) (pc' := 1157) dL_law__1156 rfl rfl ?_
  refine v_iadd (pc' := 1158) dL_law__1157 rfl ?_
  refine v_sld (pc' := 1159) dL_law__1158 rfl fun v115 => ?_
  refine v_callV (vs := [.int v115]) (pc' := 1162) (h_X12_can g a2 v115) mv_X12_can wl_L_191 rfl (Nat.le_of_ble_eq_true rfl) (by omega) (by decide) (Nat.le_of_ble_eq_true rfl) rfl dL_law__1159 rfl fun v116 => ?_
  refine v_istore (lv' := [(6, .int v116), (5, .int v114), (0, .ref (gS g).1), (1, rf g a1), (2, rf g a2), (3, rf g a3), (4, .int x4)]) (pc' := 1164) dL_law__1162 (by decide) rfl rfl ?_
  refine v_aload_n (pc' := 1165) 4 dL_law__1164 rfl rfl rfl ?_
  refine v_callV (vs := []) (pc' := 1168) (h_X12_thrown g a2) mv_X12_thrown wl_L_136 rfl (Nat.le_of_ble_eq_true rfl) (by omega) (by decide) (Nat.le_of_ble_eq_true rfl) rfl dL_law__1165 rfl fun v117 => ?_
  refine v_iload (pc' := 1170) 1 dL_law__1168 rfl rfl ?_
  refine v_icmpeq (t := 1175) (pc' := 1173) dL_law__1170 (by decide) rfl ?_ ?_
  · refine v_iload (pc' := 1177) 1 dL_law__1175 rfl rfl ?_
    refine v_ifne (t := 1192) (pc' := 1180) dL_law__1177 (by decide) rfl ?_ ?_
    · refine V.sub [2, 3, 4, 5, 6] rfl ?_
      exact h_L_law__b1192 g k23 hk23 a1 a2 a3 x4
    · refine v_aload_n (pc' := 1181) 5 dL_law__1180 rfl rfl rfl ?_
      refine v_iconst (v := 0) (pc' := 1182) dL_law__1181 rfl rfl ?_
      refine v_lald (pc' := 1183) dL_law__1182 rfl fun w118 => ?_
      refine v_iload (pc' := 1185) 0 dL_law__1183 rfl rfl ?_
      refine v_i2l (pc' := 1186) dL_law__1185 rfl ?_
      refine v_lcmp (pc' := 1187) dL_law__1186 rfl ?_
      refine v_ifeq (t := 1192) (pc' := 1190) dL_law__1187 (by decide) rfl ?_ ?_
      · refine V.sub [2, 3, 4, 5, 6] rfl ?_
        exact h_L_law__b1192 g k23 hk23 a1 a2 a3 x4
      · refine v_iconst (v := 0) (pc' := 1191) dL_law__1190 rfl rfl ?_
        exact v_zret rfl rfl dL_law__1191
  · refine v_iconst (v := 0) (pc' := 1174) dL_law__1173 rfl rfl ?_
    exact v_zret rfl rfl dL_law__1174
set_option maxRecDepth 20000 in
theorem h_L_law__b1248 (g : GW) (k23 : Nat → Nat → Nat → Int32 → Mo Int32) (hk23 : ∀ a1 a2 a3 x4, V g mL_law_ 62 rtI 23 [(0, .ref (gS g).1), (1, rf g a1), (2, rf g a2), (3, rf g a3), (4, .int x4)] [] (k23 a1 a2 a3 x4)) (a1 : Nat) (a2 : Nat) (a3 : Nat) (x4 : Int32) : V g mL_law_ 62 rtI 1248 [(0, .ref (gS g).1), (1, rf g a1), (2, rf g a2), (3, rf g a3), (4, .int x4)] [] (f_L_law__b1248 g k23 a1 a2 a3 x4) := by
  unfold f_L_law__b1248
  refine v_goto (t := 2771) dL_law__1248 (by decide) ?_
  refine V.sub [0, 1, 2, 3, 4] rfl ?_
  exact h_L_law__b2771 g k23 hk23 a1 a2 a3 x4
set_option maxRecDepth 20000 in
theorem h_L_law__b1195 (g : GW) (k23 : Nat → Nat → Nat → Int32 → Mo Int32) (hk23 : ∀ a1 a2 a3 x4, V g mL_law_ 62 rtI 23 [(0, .ref (gS g).1), (1, rf g a1), (2, rf g a2), (3, rf g a3), (4, .int x4)] [] (k23 a1 a2 a3 x4)) (a1 : Nat) (a2 : Nat) (a3 : Nat) (x4 : Int32) : V g mL_law_ 62 rtI 1195 [(0, .ref (gS g).1), (1, rf g a1), (2, rf g a2), (3, rf g a3), (4, .int x4)] [] (f_L_law__b1195 g k23 a1 a2 a3 x4) := by
  unfold f_L_law__b1195
  refine v_aload_n (pc' := 1196) 1 dL_law__1195 rfl rfl rfl ?_
  refine v_aload_nX (pc' := 1197) 0 dL_law__1196 rfl rfl rfl ?_
  refine v_iload (pc' := 1199) 4 dL_law__1197 rfl rfl ?_
  refine v_iconst (v := 1) (pc' := 1200) dL_law__1199 rfl rfl ?_
  refine v_iadd (pc' := 1201) dL_law__1200 rfl ?_
  refine v_sld (pc' := 1202) dL_law__1201 rfl fun v119 => ?_
  refine v_aload_n (pc' := 1203) 3 dL_law__1202 rfl rfl rfl ?_
  refine v_callX (vs := [rf g a1, .int v119, rf g a3]) (pc' := 1206) (h_L_fewest g a1 v119 a3) mx_L_fewest wl_L_192 (Nat.le_of_ble_eq_true rfl) (by omega) (by decide) (Nat.le_of_ble_eq_true rfl) rfl dL_law__1203 rfl fun v120 => ?_
  refine v_istore (lv' := [(5, .int v120), (0, .ref (gS g).1), (1, rf g a1), (2, rf g a2), (3, rf g a3), (4, .int x4)]) (pc' := 1208) dL_law__1206 (by decide) rfl rfl ?_
  refine v_aload_n (pc' := 1209) 3 dL_law__1208 rfl rfl rfl ?_
  refine v_aload_nX (pc' := 1210) 1 dL_law__1209 rfl rfl rfl ?_
  refine v_iload (pc' := 1212) 5 dL_law__1210 rfl rfl ?_
  refine v_iconst (v := 1) (pc' := 1213) dL_law__1212 rfl rfl ?_
  refine v_iadd (pc' := 1214) dL_law__1213 rfl ?_
  refine v_sld (pc' := 1215) dL_law__1214 rfl fun v121 => ?_
  refine v_callV (vs := [.int v121]) (pc' := 1218) (h_X12_fewest g a2 v121) mv_X12_fewest wl_L_194 rfl (Nat.le_of_ble_eq_true rfl) (by omega) (by decide) (Nat.le_of_ble_eq_true rfl) rfl dL_law__1215 rfl fun v122 => ?_
  refine v_istore (lv' := [(6, .int v122), (5, .int v120), (0, .ref (gS g).1), (1, rf g a1), (2, rf g a2), (3, rf g a3), (4, .int x4)]) (pc' := 1220) dL_law__1218 (by decide) rfl rfl ?_
  refine v_aload_n (pc' := 1221) 4 dL_law__1220 rfl rfl rfl ?_
  refine v_callV (vs := []) (pc' := 1224) (h_X12_thrown g a2) mv_X12_thrown wl_L_136 rfl (Nat.le_of_ble_eq_true rfl) (by omega) (by decide) (Nat.le_of_ble_eq_true rfl) rfl dL_law__1221 rfl fun v123 => ?_
  refine v_iload (pc' := 1226) 1 dL_law__1224 rfl rfl ?_
  refine v_icmpeq (t := 1231) (pc' := 1229) dL_law__1226 (by decide) rfl ?_ ?_
  · refine v_iload (pc' := 1233) 1 dL_law__1231 rfl rfl ?_
    refine v_ifne (t := 1248) (pc' := 1236) dL_law__1233 (by decide) rfl ?_ ?_
    · refine V.sub [2, 3, 4, 5, 6] rfl ?_
      exact h_L_law__b1248 g k23 hk23 a1 a2 a3 x4
    · refine v_aload_n (pc' := 1237) 5 dL_law__1236 rfl rfl rfl ?_
      refine v_iconst (v := 0) (pc' := 1238) dL_law__1237 rfl rfl ?_
      refine v_lald (pc' := 1239) dL_law__1238 rfl fun w124 => ?_
      refine v_iload (pc' := 1241) 0 dL_law__1239 rfl rfl ?_
      refine v_i2l (pc' := 1242) dL_law__1241 rfl ?_
      refine v_lcmp (pc' := 1243) dL_law__1242 rfl ?_
      refine v_ifeq (t := 1248) (pc' := 1246) dL_law__1243 (by decide) rfl ?_ ?_
      · refine V.sub [2, 3, 4, 5, 6] rfl ?_
        exact h_L_law__b1248 g k23 hk23 a1 a2 a3 x4
      · refine v_iconst (v := 0) (pc' := 1247) dL_law__1246 rfl rfl ?_
        exact v_zret rfl rfl dL_law__1247
  · refine v_iconst (v := 0) (pc' := 1230) dL_law__1229 rfl rfl ?_
    exact v_zret rfl rfl dL_law__1230
set_option maxRecDepth 20000 in
theorem h_L_law__b1304 (g : GW) (k23 : Nat → Nat → Nat → Int32 → Mo Int32) (hk23 : ∀ a1 a2 a3 x4, V g mL_law_ 62 rtI 23 [(0, .ref (gS g).1), (1, rf g a1), (2, rf g a2), (3, rf g a3), (4, .int x4)] [] (k23 a1 a2 a3 x4)) (a1 : Nat) (a2 : Nat) (a3 : Nat) (x4 : Int32) : V g mL_law_ 62 rtI 1304 [(0, .ref (gS g).1), (1, rf g a1), (2, rf g a2), (3, rf g a3), (4, .int x4)] [] (f_L_law__b1304 g k23 a1 a2 a3 x4) := by
  unfold f_L_law__b1304
  refine v_goto (t := 2771) dL_law__1304 (by decide) ?_
  refine V.sub [0, 1, 2, 3, 4] rfl ?_
  exact h_L_law__b2771 g k23 hk23 a1 a2 a3 x4
set_option maxRecDepth 20000 in
theorem h_L_law__b1251 (g : GW) (k23 : Nat → Nat → Nat → Int32 → Mo Int32) (hk23 : ∀ a1 a2 a3 x4, V g mL_law_ 62 rtI 23 [(0, .ref (gS g).1), (1, rf g a1), (2, rf g a2), (3, rf g a3), (4, .int x4)] [] (k23 a1 a2 a3 x4)) (a1 : Nat) (a2 : Nat) (a3 : Nat) (x4 : Int32) : V g mL_law_ 62 rtI 1251 [(0, .ref (gS g).1), (1, rf g a1), (2, rf g a2), (3, rf g a3), (4, .int x4)] [] (f_L_law__b1251 g k23 a1 a2 a3 x4) := by
  unfold f_L_law__b1251
  refine v_aload_n (pc' := 1252) 1 dL_law__1251 rfl rfl rfl ?_
  refine v_aload_nX (pc' := 1253) 0 dL_law__1252 rfl rfl rfl ?_
  refine v_iload (pc' := 1255) 4 dL_law__1253 rfl rfl ?_
  refine v_iconst (v := 1) (pc' := 1256) dL_law__1255 rfl rfl ?_
  refine v_iadd (pc' := 1257) dL_law__1256 rfl ?_
  refine v_sld (pc' := 1258) dL_law__1257 rfl fun v125 => ?_
  refine v_aload_n (pc' := 1259) 3 dL_law__1258 rfl rfl rfl ?_
  refine v_callX (vs := [rf g a1, .int v125, rf g a3]) (pc' := 1262) (h_L_nobody g a1 v125 a3) mx_L_nobody wl_L_195 (Nat.le_of_ble_eq_true rfl) (by omega) (by decide) (Nat.le_of_ble_eq_true rfl) rfl dL_law__1259 rfl fun v126 => ?_
  refine v_istore (lv' := [(5, .int v126), (0, .ref (gS g).1), (1, rf g a1), (2, rf g a2), (3, rf g a3), (4, .int x4)]) (pc' := 1264) dL_law__1262 (by decide) rfl rfl ?_
  refine v_aload_n (pc' := 1265) 3 dL_law__1264 rfl rfl rfl ?_
  refine v_aload_nX (pc' := 1266) 1 dL_law__1265 rfl rfl rfl ?_
  refine v_iload (pc' := 1268) 5 dL_law__1266 rfl rfl ?_
  refine v_iconst (v := 1) (pc' := 1269) dL_law__1268 rfl rfl ?_
  refine v_iadd (pc' := 1270) dL_law__1269 rfl ?_
  refine v_sld (pc' := 1271) dL_law__1270 rfl fun v127 => ?_
  refine v_callV (vs := [.int v127]) (pc' := 1274) (h_X12_nobody g a2 v127) mv_X12_nobody wl_L_197 rfl (Nat.le_of_ble_eq_true rfl) (by omega) (by decide) (Nat.le_of_ble_eq_true rfl) rfl dL_law__1271 rfl fun v128 => ?_
  refine v_istore (lv' := [(6, .int v128), (5, .int v126), (0, .ref (gS g).1), (1, rf g a1), (2, rf g a2), (3, rf g a3), (4, .int x4)]) (pc' := 1276) dL_law__1274 (by decide) rfl rfl ?_
  refine v_aload_n (pc' := 1277) 4 dL_law__1276 rfl rfl rfl ?_
  refine v_callV (vs := []) (pc' := 1280) (h_X12_thrown g a2) mv_X12_thrown wl_L_136 rfl (Nat.le_of_ble_eq_true rfl) (by omega) (by decide) (Nat.le_of_ble_eq_true rfl) rfl dL_law__1277 rfl fun v129 => ?_
  refine v_iload (pc' := 1282) 1 dL_law__1280 rfl rfl ?_
  refine v_icmpeq (t := 1287) (pc' := 1285) dL_law__1282 (by decide) rfl ?_ ?_
  · refine v_iload (pc' := 1289) 1 dL_law__1287 rfl rfl ?_
    refine v_ifne (t := 1304) (pc' := 1292) dL_law__1289 (by decide) rfl ?_ ?_
    · refine V.sub [2, 3, 4, 5, 6] rfl ?_
      exact h_L_law__b1304 g k23 hk23 a1 a2 a3 x4
    · refine v_aload_n (pc' := 1293) 5 dL_law__1292 rfl rfl rfl ?_
      refine v_iconst (v := 0) (pc' := 1294) dL_law__1293 rfl rfl ?_
      refine v_lald (pc' := 1295) dL_law__1294 rfl fun w130 => ?_
      refine v_iload (pc' := 1297) 0 dL_law__1295 rfl rfl ?_
      refine v_i2l (pc' := 1298) dL_law__1297 rfl ?_
      refine v_lcmp (pc' := 1299) dL_law__1298 rfl ?_
      refine v_ifeq (t := 1304) (pc' := 1302) dL_law__1299 (by decide) rfl ?_ ?_
      · refine V.sub [2, 3, 4, 5, 6] rfl ?_
        exact h_L_law__b1304 g k23 hk23 a1 a2 a3 x4
      · refine v_iconst (v := 0) (pc' := 1303) dL_law__1302 rfl rfl ?_
        exact v_zret rfl rfl dL_law__1303
  · refine v_iconst (v := 0) (pc' := 1286) dL_law__1285 rfl rfl ?_
    exact v_zret rfl rfl dL_law__1286
set_option maxRecDepth 20000 in
theorem h_L_law__b1372 (g : GW) (k23 : Nat → Nat → Nat → Int32 → Mo Int32) (hk23 : ∀ a1 a2 a3 x4, V g mL_law_ 62 rtI 23 [(0, .ref (gS g).1), (1, rf g a1), (2, rf g a2), (3, rf g a3), (4, .int x4)] [] (k23 a1 a2 a3 x4)) (a1 : Nat) (a2 : Nat) (a3 : Nat) (x4 : Int32) : V g mL_law_ 62 rtI 1372 [(0, .ref (gS g).1), (1, rf g a1), (2, rf g a2), (3, rf g a3), (4, .int x4)] [] (f_L_law__b1372 g k23 a1 a2 a3 x4) := by
  unfold f_L_law__b1372
  refine v_goto (t := 2771) dL_law__1372 (by decide) ?_
  refine V.sub [0, 1, 2, 3, 4] rfl ?_
  exact h_L_law__b2771 g k23 hk23 a1 a2 a3 x4
set_option maxRecDepth 20000 in
theorem h_L_law__b1307 (g : GW) (k23 : Nat → Nat → Nat → Int32 → Mo Int32) (hk23 : ∀ a1 a2 a3 x4, V g mL_law_ 62 rtI 23 [(0, .ref (gS g).1), (1, rf g a1), (2, rf g a2), (3, rf g a3), (4, .int x4)] [] (k23 a1 a2 a3 x4)) (a1 : Nat) (a2 : Nat) (a3 : Nat) (x4 : Int32) : V g mL_law_ 62 rtI 1307 [(0, .ref (gS g).1), (1, rf g a1), (2, rf g a2), (3, rf g a3), (4, .int x4)] [] (f_L_law__b1307 g k23 a1 a2 a3 x4) := by
  unfold f_L_law__b1307
  refine v_aload_n (pc' := 1308) 1 dL_law__1307 rfl rfl rfl ?_
  refine v_aload_nX (pc' := 1309) 0 dL_law__1308 rfl rfl rfl ?_
  refine v_iload (pc' := 1311) 4 dL_law__1309 rfl rfl ?_
  refine v_iconst (v := 1) (pc' := 1312) dL_law__1311 rfl rfl ?_
  refine v_iadd (pc' := 1313) dL_law__1312 rfl ?_
  refine v_sld (pc' := 1314) dL_law__1313 rfl fun v131 => ?_
  refine v_aload_nX (pc' := 1315) 0 dL_law__1314 rfl rfl rfl ?_
  refine v_iload (pc' := 1317) 4 dL_law__1315 rfl rfl ?_
  refine v_iconst (v := 2) (pc' := 1318) dL_law__1317 rfl rfl ?_
  refine v_iadd (pc' := 1319) dL_law__1318 rfl ?_
  refine v_sld (pc' := 1320) dL_law__1319 rfl fun v132 => ?_
  refine v_aload_n (pc' := 1321) 3 dL_law__1320 rfl rfl rfl ?_
  refine v_callX (vs := [rf g a1, .int v131, .int v132, rf g a3]) (pc' := 1324) (h_L_ring g a1 v131 v132 a3) mx_L_ring wl_L_198 (Nat.le_of_ble_eq_true rfl) (by omega) (by decide) (Nat.le_of_ble_eq_true rfl) rfl dL_law__1321 rfl fun v133 => ?_
  refine v_istore (lv' := [(5, .int v133), (0, .ref (gS g).1), (1, rf g a1), (2, rf g a2), (3, rf g a3), (4, .int x4)]) (pc' := 1326) dL_law__1324 (by decide) rfl rfl ?_
  refine v_aload_n (pc' := 1327) 3 dL_law__1326 rfl rfl rfl ?_
  refine v_aload_nX (pc' := 1328) 1 dL_law__1327 rfl rfl rfl ?_
  refine v_iload (pc' := 1330) 5 dL_law__1328 rfl rfl ?_
  refine v_iconst (v := 1) (pc' := 1331) dL_law__1330 rfl rfl ?_
  refine v_iadd (pc' := 1332) dL_law__1331 rfl ?_
  refine v_sld (pc' := 1333) dL_law__1332 rfl fun v134 => ?_
  refine v_aload_nX (pc' := 1334) 1 dL_law__1333 rfl rfl rfl ?_
  refine v_iload (pc' := 1336) 5 dL_law__1334 rfl rfl ?_
  refine v_iconst (v := 2) (pc' := 1337) dL_law__1336 rfl rfl ?_
  refine v_iadd (pc' := 1338) dL_law__1337 rfl ?_
  refine v_sld (pc' := 1339) dL_law__1338 rfl fun v135 => ?_
  refine v_callV (vs := [.int v134, .int v135]) (pc' := 1342) (h_X12_ring g a2 v134 v135) mv_X12_ring wl_L_200 rfl (Nat.le_of_ble_eq_true rfl) (by omega) (by decide) (Nat.le_of_ble_eq_true rfl) rfl dL_law__1339 rfl fun v136 => ?_
  refine v_istore (lv' := [(6, .int v136), (5, .int v133), (0, .ref (gS g).1), (1, rf g a1), (2, rf g a2), (3, rf g a3), (4, .int x4)]) (pc' := 1344) dL_law__1342 (by decide) rfl rfl ?_
  refine v_aload_n (pc' := 1345) 4 dL_law__1344 rfl rfl rfl ?_
  refine v_callV (vs := []) (pc' := 1348) (h_X12_thrown g a2) mv_X12_thrown wl_L_136 rfl (Nat.le_of_ble_eq_true rfl) (by omega) (by decide) (Nat.le_of_ble_eq_true rfl) rfl dL_law__1345 rfl fun v137 => ?_
  refine v_iload (pc' := 1350) 1 dL_law__1348 rfl rfl ?_
  refine v_icmpeq (t := 1355) (pc' := 1353) dL_law__1350 (by decide) rfl ?_ ?_
  · refine v_iload (pc' := 1357) 1 dL_law__1355 rfl rfl ?_
    refine v_ifne (t := 1372) (pc' := 1360) dL_law__1357 (by decide) rfl ?_ ?_
    · refine V.sub [2, 3, 4, 5, 6] rfl ?_
      exact h_L_law__b1372 g k23 hk23 a1 a2 a3 x4
    · refine v_aload_n (pc' := 1361) 5 dL_law__1360 rfl rfl rfl ?_
      refine v_iconst (v := 0) (pc' := 1362) dL_law__1361 rfl rfl ?_
      refine v_lald (pc' := 1363) dL_law__1362 rfl fun w138 => ?_
      refine v_iload (pc' := 1365) 0 dL_law__1363 rfl rfl ?_
      refine v_i2l (pc' := 1366) dL_law__1365 rfl ?_
      refine v_lcmp (pc' := 1367) dL_law__1366 rfl ?_
      refine v_ifeq (t := 1372) (pc' := 1370) dL_law__1367 (by decide) rfl ?_ ?_
      · refine V.sub [2, 3, 4, 5, 6] rfl ?_
        exact h_L_law__b1372 g k23 hk23 a1 a2 a3 x4
      · refine v_iconst (v := 0) (pc' := 1371) dL_law__1370 rfl rfl ?_
        exact v_zret rfl rfl dL_law__1371
  · refine v_iconst (v := 0) (pc' := 1354) dL_law__1353 rfl rfl ?_
    exact v_zret rfl rfl dL_law__1354
set_option maxRecDepth 20000 in
theorem h_L_law__b1440 (g : GW) (k23 : Nat → Nat → Nat → Int32 → Mo Int32) (hk23 : ∀ a1 a2 a3 x4, V g mL_law_ 62 rtI 23 [(0, .ref (gS g).1), (1, rf g a1), (2, rf g a2), (3, rf g a3), (4, .int x4)] [] (k23 a1 a2 a3 x4)) (a1 : Nat) (a2 : Nat) (a3 : Nat) (x4 : Int32) : V g mL_law_ 62 rtI 1440 [(0, .ref (gS g).1), (1, rf g a1), (2, rf g a2), (3, rf g a3), (4, .int x4)] [] (f_L_law__b1440 g k23 a1 a2 a3 x4) := by
  unfold f_L_law__b1440
  refine v_goto (t := 2771) dL_law__1440 (by decide) ?_
  refine V.sub [0, 1, 2, 3, 4] rfl ?_
  exact h_L_law__b2771 g k23 hk23 a1 a2 a3 x4
set_option maxRecDepth 20000 in
theorem h_L_law__b1375 (g : GW) (k23 : Nat → Nat → Nat → Int32 → Mo Int32) (hk23 : ∀ a1 a2 a3 x4, V g mL_law_ 62 rtI 23 [(0, .ref (gS g).1), (1, rf g a1), (2, rf g a2), (3, rf g a3), (4, .int x4)] [] (k23 a1 a2 a3 x4)) (a1 : Nat) (a2 : Nat) (a3 : Nat) (x4 : Int32) : V g mL_law_ 62 rtI 1375 [(0, .ref (gS g).1), (1, rf g a1), (2, rf g a2), (3, rf g a3), (4, .int x4)] [] (f_L_law__b1375 g k23 a1 a2 a3 x4) := by
  unfold f_L_law__b1375
  refine v_aload_n (pc' := 1376) 1 dL_law__1375 rfl rfl rfl ?_
  refine v_aload_nX (pc' := 1377) 0 dL_law__1376 rfl rfl rfl ?_
  refine v_iload (pc' := 1379) 4 dL_law__1377 rfl rfl ?_
  refine v_iconst (v := 1) (pc' := 1380) dL_law__1379 rfl rfl ?_
  refine v_iadd (pc' := 1381) dL_law__1380 rfl ?_
  refine v_sld (pc' := 1382) dL_law__1381 rfl fun v139 => ?_
  refine v_aload_nX (pc' := 1383) 0 dL_law__1382 rfl rfl rfl ?_
  refine v_iload (pc' := 1385) 4 dL_law__1383 rfl rfl ?_
  refine v_iconst (v := 2) (pc' := 1386) dL_law__1385 rfl rfl ?_
  refine v_iadd (pc' := 1387) dL_law__1386 rfl ?_
  refine v_sld (pc' := 1388) dL_law__1387 rfl fun v140 => ?_
  refine v_aload_n (pc' := 1389) 3 dL_law__1388 rfl rfl rfl ?_
  refine v_callX (vs := [rf g a1, .int v139, .int v140, rf g a3]) (pc' := 1392) (h_L_who g a1 v139 v140 a3) mx_L_who wl_L_201 (Nat.le_of_ble_eq_true rfl) (by omega) (by decide) (Nat.le_of_ble_eq_true rfl) rfl dL_law__1389 rfl fun v141 => ?_
  refine v_istore (lv' := [(5, .int v141), (0, .ref (gS g).1), (1, rf g a1), (2, rf g a2), (3, rf g a3), (4, .int x4)]) (pc' := 1394) dL_law__1392 (by decide) rfl rfl ?_
  refine v_aload_n (pc' := 1395) 3 dL_law__1394 rfl rfl rfl ?_
  refine v_aload_nX (pc' := 1396) 1 dL_law__1395 rfl rfl rfl ?_
  refine v_iload (pc' := 1398) 5 dL_law__1396 rfl rfl ?_
  refine v_iconst (v := 1) (pc' := 1399) dL_law__1398 rfl rfl ?_
  refine v_iadd (pc' := 1400) dL_law__1399 rfl ?_
  refine v_sld (pc' := 1401) dL_law__1400 rfl fun v142 => ?_
  refine v_aload_nX (pc' := 1402) 1 dL_law__1401 rfl rfl rfl ?_
  refine v_iload (pc' := 1404) 5 dL_law__1402 rfl rfl ?_
  refine v_iconst (v := 2) (pc' := 1405) dL_law__1404 rfl rfl ?_
  refine v_iadd (pc' := 1406) dL_law__1405 rfl ?_
  refine v_sld (pc' := 1407) dL_law__1406 rfl fun v143 => ?_
  refine v_callV (vs := [.int v142, .int v143]) (pc' := 1410) (h_X12_who g a2 v142 v143) mv_X12_who wl_L_203 rfl (Nat.le_of_ble_eq_true rfl) (by omega) (by decide) (Nat.le_of_ble_eq_true rfl) rfl dL_law__1407 rfl fun v144 => ?_
  refine v_istore (lv' := [(6, .int v144), (5, .int v141), (0, .ref (gS g).1), (1, rf g a1), (2, rf g a2), (3, rf g a3), (4, .int x4)]) (pc' := 1412) dL_law__1410 (by decide) rfl rfl ?_
  refine v_aload_n (pc' := 1413) 4 dL_law__1412 rfl rfl rfl ?_
  refine v_callV (vs := []) (pc' := 1416) (h_X12_thrown g a2) mv_X12_thrown wl_L_136 rfl (Nat.le_of_ble_eq_true rfl) (by omega) (by decide) (Nat.le_of_ble_eq_true rfl) rfl dL_law__1413 rfl fun v145 => ?_
  refine v_iload (pc' := 1418) 1 dL_law__1416 rfl rfl ?_
  refine v_icmpeq (t := 1423) (pc' := 1421) dL_law__1418 (by decide) rfl ?_ ?_
  · refine v_iload (pc' := 1425) 1 dL_law__1423 rfl rfl ?_
    refine v_ifne (t := 1440) (pc' := 1428) dL_law__1425 (by decide) rfl ?_ ?_
    · refine V.sub [2, 3, 4, 5, 6] rfl ?_
      exact h_L_law__b1440 g k23 hk23 a1 a2 a3 x4
    · refine v_aload_n (pc' := 1429) 5 dL_law__1428 rfl rfl rfl ?_
      refine v_iconst (v := 0) (pc' := 1430) dL_law__1429 rfl rfl ?_
      refine v_lald (pc' := 1431) dL_law__1430 rfl fun w146 => ?_
      refine v_iload (pc' := 1433) 0 dL_law__1431 rfl rfl ?_
      refine v_i2l (pc' := 1434) dL_law__1433 rfl ?_
      refine v_lcmp (pc' := 1435) dL_law__1434 rfl ?_
      refine v_ifeq (t := 1440) (pc' := 1438) dL_law__1435 (by decide) rfl ?_ ?_
      · refine V.sub [2, 3, 4, 5, 6] rfl ?_
        exact h_L_law__b1440 g k23 hk23 a1 a2 a3 x4
      · refine v_iconst (v := 0) (pc' := 1439) dL_law__1438 rfl rfl ?_
        exact v_zret rfl rfl dL_law__1439
  · refine v_iconst (v := 0) (pc' := 1422) dL_law__1421 rfl rfl ?_
    exact v_zret rfl rfl dL_law__1422
set_option maxRecDepth 20000 in
theorem h_L_law__b1496 (g : GW) (k23 : Nat → Nat → Nat → Int32 → Mo Int32) (hk23 : ∀ a1 a2 a3 x4, V g mL_law_ 62 rtI 23 [(0, .ref (gS g).1), (1, rf g a1), (2, rf g a2), (3, rf g a3), (4, .int x4)] [] (k23 a1 a2 a3 x4)) (a1 : Nat) (a2 : Nat) (a3 : Nat) (x4 : Int32) : V g mL_law_ 62 rtI 1496 [(0, .ref (gS g).1), (1, rf g a1), (2, rf g a2), (3, rf g a3), (4, .int x4)] [] (f_L_law__b1496 g k23 a1 a2 a3 x4) := by
  unfold f_L_law__b1496
  refine v_goto (t := 2771) dL_law__1496 (by decide) ?_
  refine V.sub [0, 1, 2, 3, 4] rfl ?_
  exact h_L_law__b2771 g k23 hk23 a1 a2 a3 x4
set_option maxRecDepth 20000 in
theorem h_L_law__b1443 (g : GW) (k23 : Nat → Nat → Nat → Int32 → Mo Int32) (hk23 : ∀ a1 a2 a3 x4, V g mL_law_ 62 rtI 23 [(0, .ref (gS g).1), (1, rf g a1), (2, rf g a2), (3, rf g a3), (4, .int x4)] [] (k23 a1 a2 a3 x4)) (a1 : Nat) (a2 : Nat) (a3 : Nat) (x4 : Int32) : V g mL_law_ 62 rtI 1443 [(0, .ref (gS g).1), (1, rf g a1), (2, rf g a2), (3, rf g a3), (4, .int x4)] [] (f_L_law__b1443 g k23 a1 a2 a3 x4) := by
  unfold f_L_law__b1443
  refine v_aload_n (pc' := 1444) 1 dL_law__1443 rfl rfl rfl ?_
  refine v_aload_nX (pc' := 1445) 0 dL_law__1444 rfl rfl rfl ?_
  refine v_iload (pc' := 1447) 4 dL_law__1445 rfl rfl ?_
  refine v_iconst (v := 1) (pc' := 1448) dL_law__1447 rfl rfl ?_
  refine v_iadd (pc' := 1449) dL_law__1448 rfl ?_
  refine v_sld (pc' := 1450) dL_law__1449 rfl fun v147 => ?_
  refine v_aload_n (pc' := 1451) 3 dL_law__1450 rfl rfl rfl ?_
  refine v_callX (vs := [rf g a1, .int v147, rf g a3]) (pc' := 1454) (h_L_made g a1 v147 a3) mx_L_made wl_L_204 (Nat.le_of_ble_eq_true rfl) (by omega) (by decide) (Nat.le_of_ble_eq_true rfl) rfl dL_law__1451 rfl fun v148 => ?_
  refine v_istore (lv' := [(5, .int v148), (0, .ref (gS g).1), (1, rf g a1), (2, rf g a2), (3, rf g a3), (4, .int x4)]) (pc' := 1456) dL_law__1454 (by decide) rfl rfl ?_
  refine v_aload_n (pc' := 1457) 3 dL_law__1456 rfl rfl rfl ?_
  refine v_aload_nX (pc' := 1458) 1 dL_law__1457 rfl rfl rfl ?_
  refine v_iload (pc' := 1460) 5 dL_law__1458 rfl rfl ?_
  refine v_iconst (v := 1) (pc' := 1461) dL_law__1460 rfl rfl ?_
  refine v_iadd (pc' := 1462) dL_law__1461 rfl ?_
  refine v_sld (pc' := 1463) dL_law__1462 rfl fun v149 => ?_
  refine v_callV (vs := [.int v149]) (pc' := 1466) (h_X12_made g a2 v149) mv_X12_made wl_L_206 rfl (Nat.le_of_ble_eq_true rfl) (by omega) (by decide) (Nat.le_of_ble_eq_true rfl) rfl dL_law__1463 rfl fun v150 => ?_
  refine v_istore (lv' := [(6, .int v150), (5, .int v148), (0, .ref (gS g).1), (1, rf g a1), (2, rf g a2), (3, rf g a3), (4, .int x4)]) (pc' := 1468) dL_law__1466 (by decide) rfl rfl ?_
  refine v_aload_n (pc' := 1469) 4 dL_law__1468 rfl rfl rfl ?_
  refine v_callV (vs := []) (pc' := 1472) (h_X12_thrown g a2) mv_X12_thrown wl_L_136 rfl (Nat.le_of_ble_eq_true rfl) (by omega) (by decide) (Nat.le_of_ble_eq_true rfl) rfl dL_law__1469 rfl fun v151 => ?_
  refine v_iload (pc' := 1474) 1 dL_law__1472 rfl rfl ?_
  refine v_icmpeq (t := 1479) (pc' := 1477) dL_law__1474 (by decide) rfl ?_ ?_
  · refine v_iload (pc' := 1481) 1 dL_law__1479 rfl rfl ?_
    refine v_ifne (t := 1496) (pc' := 1484) dL_law__1481 (by decide) rfl ?_ ?_
    · refine V.sub [2, 3, 4, 5, 6] rfl ?_
      exact h_L_law__b1496 g k23 hk23 a1 a2 a3 x4
    · refine v_aload_n (pc' := 1485) 5 dL_law__1484 rfl rfl rfl ?_
      refine v_iconst (v := 0) (pc' := 1486) dL_law__1485 rfl rfl ?_
      refine v_lald (pc' := 1487) dL_law__1486 rfl fun w152 => ?_
      refine v_iload (pc' := 1489) 0 dL_law__1487 rfl rfl ?_
      refine v_i2l (pc' := 1490) dL_law__1489 rfl ?_
      refine v_lcmp (pc' := 1491) dL_law__1490 rfl ?_
      refine v_ifeq (t := 1496) (pc' := 1494) dL_law__1491 (by decide) rfl ?_ ?_
      · refine V.sub [2, 3, 4, 5, 6] rfl ?_
        exact h_L_law__b1496 g k23 hk23 a1 a2 a3 x4
      · refine v_iconst (v := 0) (pc' := 1495) dL_law__1494 rfl rfl ?_
        exact v_zret rfl rfl dL_law__1495
  · refine v_iconst (v := 0) (pc' := 1478) dL_law__1477 rfl rfl ?_
    exact v_zret rfl rfl dL_law__1478
set_option maxRecDepth 20000 in
theorem h_L_law__b1552 (g : GW) (k23 : Nat → Nat → Nat → Int32 → Mo Int32) (hk23 : ∀ a1 a2 a3 x4, V g mL_law_ 62 rtI 23 [(0, .ref (gS g).1), (1, rf g a1), (2, rf g a2), (3, rf g a3), (4, .int x4)] [] (k23 a1 a2 a3 x4)) (a1 : Nat) (a2 : Nat) (a3 : Nat) (x4 : Int32) : V g mL_law_ 62 rtI 1552 [(0, .ref (gS g).1), (1, rf g a1), (2, rf g a2), (3, rf g a3), (4, .int x4)] [] (f_L_law__b1552 g k23 a1 a2 a3 x4) := by
  unfold f_L_law__b1552
  refine v_goto (t := 2771) dL_law__1552 (by decide) ?_
  refine V.sub [0, 1, 2, 3, 4] rfl ?_
  exact h_L_law__b2771 g k23 hk23 a1 a2 a3 x4
set_option maxRecDepth 20000 in
theorem h_L_law__b1499 (g : GW) (k23 : Nat → Nat → Nat → Int32 → Mo Int32) (hk23 : ∀ a1 a2 a3 x4, V g mL_law_ 62 rtI 23 [(0, .ref (gS g).1), (1, rf g a1), (2, rf g a2), (3, rf g a3), (4, .int x4)] [] (k23 a1 a2 a3 x4)) (a1 : Nat) (a2 : Nat) (a3 : Nat) (x4 : Int32) : V g mL_law_ 62 rtI 1499 [(0, .ref (gS g).1), (1, rf g a1), (2, rf g a2), (3, rf g a3), (4, .int x4)] [] (f_L_law__b1499 g k23 a1 a2 a3 x4) := by
  unfold f_L_law__b1499
  refine v_aload_n (pc' := 1500) 1 dL_law__1499 rfl rfl rfl ?_
  refine v_aload_nX (pc' := 1501) 0 dL_law__1500 rfl rfl rfl ?_
  refine v_iload (pc' := 1503) 4 dL_law__1501 rfl rfl ?_
  refine v_iconst (v := 1) (pc' := 1504) dL_law__1503 rfl rfl ?_
  refine v_iadd (pc' := 1505) dL_law__1504 rfl ?_
  refine v_sld (pc' := 1506) dL_law__1505 rfl fun v153 => ?_
  refine v_aload_n (pc' := 1507) 3 dL_law__1506 rfl rfl rfl ?_
  refine v_callX (vs := [rf g a1, .int v153, rf g a3]) (pc' := 1510) (h_L_unknown g a1 v153 a3) mx_L_unknown wl_L_207 (Nat.le_of_ble_eq_true rfl) (by omega) (by decide) (Nat.le_of_ble_eq_true rfl) rfl dL_law__1507 rfl fun v154 => ?_
  refine v_istore (lv' := [(5, .int v154), (0, .ref (gS g).1), (1, rf g a1), (2, rf g a2), (3, rf g a3), (4, .int x4)]) (pc' := 1512) dL_law__1510 (by decide) rfl rfl ?_
  refine v_aload_n (pc' := 1513) 3 dL_law__1512 rfl rfl rfl ?_
  refine v_aload_nX (pc' := 1514) 1 dL_law__1513 rfl rfl rfl ?_
  refine v_iload (pc' := 1516) 5 dL_law__1514 rfl rfl ?_
  refine v_iconst (v := 1) (pc' := 1517) dL_law__1516 rfl rfl ?_
  refine v_iadd (pc' := 1518) dL_law__1517 rfl ?_
  refine v_sld (pc' := 1519) dL_law__1518 rfl fun v155 => ?_
  refine v_callV (vs := [.int v155]) (pc' := 1522) (h_X12_unknown g a2 v155) mv_X12_unknown wl_L_209 rfl (Nat.le_of_ble_eq_true rfl) (by omega) (by decide) (Nat.le_of_ble_eq_true rfl) rfl dL_law__1519 rfl fun v156 => ?_
  refine v_istore (lv' := [(6, .int v156), (5, .int v154), (0, .ref (gS g).1), (1, rf g a1), (2, rf g a2), (3, rf g a3), (4, .int x4)]) (pc' := 1524) dL_law__1522 (by decide) rfl rfl ?_
  refine v_aload_n (pc' := 1525) 4 dL_law__1524 rfl rfl rfl ?_
  refine v_callV (vs := []) (pc' := 1528) (h_X12_thrown g a2) mv_X12_thrown wl_L_136 rfl (Nat.le_of_ble_eq_true rfl) (by omega) (by decide) (Nat.le_of_ble_eq_true rfl) rfl dL_law__1525 rfl fun v157 => ?_
  refine v_iload (pc' := 1530) 1 dL_law__1528 rfl rfl ?_
  refine v_icmpeq (t := 1535) (pc' := 1533) dL_law__1530 (by decide) rfl ?_ ?_
  · refine v_iload (pc' := 1537) 1 dL_law__1535 rfl rfl ?_
    refine v_ifne (t := 1552) (pc' := 1540) dL_law__1537 (by decide) rfl ?_ ?_
    · refine V.sub [2, 3, 4, 5, 6] rfl ?_
      exact h_L_law__b1552 g k23 hk23 a1 a2 a3 x4
    · refine v_aload_n (pc' := 1541) 5 dL_law__1540 rfl rfl rfl ?_
      refine v_iconst (v := 0) (pc' := 1542) dL_law__1541 rfl rfl ?_
      refine v_lald (pc' := 1543) dL_law__1542 rfl fun w158 => ?_
      refine v_iload (pc' := 1545) 0 dL_law__1543 rfl rfl ?_
      refine v_i2l (pc' := 1546) dL_law__1545 rfl ?_
      refine v_lcmp (pc' := 1547) dL_law__1546 rfl ?_
      refine v_ifeq (t := 1552) (pc' := 1550) dL_law__1547 (by decide) rfl ?_ ?_
      · refine V.sub [2, 3, 4, 5, 6] rfl ?_
        exact h_L_law__b1552 g k23 hk23 a1 a2 a3 x4
      · refine v_iconst (v := 0) (pc' := 1551) dL_law__1550 rfl rfl ?_
        exact v_zret rfl rfl dL_law__1551
  · refine v_iconst (v := 0) (pc' := 1534) dL_law__1533 rfl rfl ?_
    exact v_zret rfl rfl dL_law__1534
set_option maxRecDepth 20000 in
theorem h_L_law__b1608 (g : GW) (k23 : Nat → Nat → Nat → Int32 → Mo Int32) (hk23 : ∀ a1 a2 a3 x4, V g mL_law_ 62 rtI 23 [(0, .ref (gS g).1), (1, rf g a1), (2, rf g a2), (3, rf g a3), (4, .int x4)] [] (k23 a1 a2 a3 x4)) (a1 : Nat) (a2 : Nat) (a3 : Nat) (x4 : Int32) : V g mL_law_ 62 rtI 1608 [(0, .ref (gS g).1), (1, rf g a1), (2, rf g a2), (3, rf g a3), (4, .int x4)] [] (f_L_law__b1608 g k23 a1 a2 a3 x4) := by
  unfold f_L_law__b1608
  refine v_goto (t := 2771) dL_law__1608 (by decide) ?_
  refine V.sub [0, 1, 2, 3, 4] rfl ?_
  exact h_L_law__b2771 g k23 hk23 a1 a2 a3 x4
set_option maxRecDepth 20000 in
theorem h_L_law__b1555 (g : GW) (k23 : Nat → Nat → Nat → Int32 → Mo Int32) (hk23 : ∀ a1 a2 a3 x4, V g mL_law_ 62 rtI 23 [(0, .ref (gS g).1), (1, rf g a1), (2, rf g a2), (3, rf g a3), (4, .int x4)] [] (k23 a1 a2 a3 x4)) (a1 : Nat) (a2 : Nat) (a3 : Nat) (x4 : Int32) : V g mL_law_ 62 rtI 1555 [(0, .ref (gS g).1), (1, rf g a1), (2, rf g a2), (3, rf g a3), (4, .int x4)] [] (f_L_law__b1555 g k23 a1 a2 a3 x4) := by
  unfold f_L_law__b1555
  refine v_aload_n (pc' := 1556) 1 dL_law__1555 rfl rfl rfl ?_
  refine v_aload_nX (pc' := 1557) 0 dL_law__1556 rfl rfl rfl ?_
  refine v_iload (pc' := 1559) 4 dL_law__1557 rfl rfl ?_
  refine v_iconst (v := 1) (pc' := 1560) dL_law__1559 rfl rfl ?_
  refine v_iadd (pc' := 1561) dL_law__1560 rfl ?_
  refine v_sld (pc' := 1562) dL_law__1561 rfl fun v159 => ?_
  refine v_aload_n (pc' := 1563) 3 dL_law__1562 rfl rfl rfl ?_
  refine v_callX (vs := [rf g a1, .int v159, rf g a3]) (pc' := 1566) (h_L_hold g a1 v159 a3) mx_L_hold wl_L_210 (Nat.le_of_ble_eq_true rfl) (by omega) (by decide) (Nat.le_of_ble_eq_true rfl) rfl dL_law__1563 rfl fun v160 => ?_
  refine v_istore (lv' := [(5, .int v160), (0, .ref (gS g).1), (1, rf g a1), (2, rf g a2), (3, rf g a3), (4, .int x4)]) (pc' := 1568) dL_law__1566 (by decide) rfl rfl ?_
  refine v_aload_n (pc' := 1569) 3 dL_law__1568 rfl rfl rfl ?_
  refine v_aload_nX (pc' := 1570) 1 dL_law__1569 rfl rfl rfl ?_
  refine v_iload (pc' := 1572) 5 dL_law__1570 rfl rfl ?_
  refine v_iconst (v := 1) (pc' := 1573) dL_law__1572 rfl rfl ?_
  refine v_iadd (pc' := 1574) dL_law__1573 rfl ?_
  refine v_sld (pc' := 1575) dL_law__1574 rfl fun v161 => ?_
  refine v_callV (vs := [.int v161]) (pc' := 1578) (h_X12_hold g a2 v161) mv_X12_hold wl_L_212 rfl (Nat.le_of_ble_eq_true rfl) (by omega) (by decide) (Nat.le_of_ble_eq_true rfl) rfl dL_law__1575 rfl fun v162 => ?_
  refine v_istore (lv' := [(6, .int v162), (5, .int v160), (0, .ref (gS g).1), (1, rf g a1), (2, rf g a2), (3, rf g a3), (4, .int x4)]) (pc' := 1580) dL_law__1578 (by decide) rfl rfl ?_
  refine v_aload_n (pc' := 1581) 4 dL_law__1580 rfl rfl rfl ?_
  refine v_callV (vs := []) (pc' := 1584) (h_X12_thrown g a2) mv_X12_thrown wl_L_136 rfl (Nat.le_of_ble_eq_true rfl) (by omega) (by decide) (Nat.le_of_ble_eq_true rfl) rfl dL_law__1581 rfl fun v163 => ?_
  refine v_iload (pc' := 1586) 1 dL_law__1584 rfl rfl ?_
  refine v_icmpeq (t := 1591) (pc' := 1589) dL_law__1586 (by decide) rfl ?_ ?_
  · refine v_iload (pc' := 1593) 1 dL_law__1591 rfl rfl ?_
    refine v_ifne (t := 1608) (pc' := 1596) dL_law__1593 (by decide) rfl ?_ ?_
    · refine V.sub [2, 3, 4, 5, 6] rfl ?_
      exact h_L_law__b1608 g k23 hk23 a1 a2 a3 x4
    · refine v_aload_n (pc' := 1597) 5 dL_law__1596 rfl rfl rfl ?_
      refine v_iconst (v := 0) (pc' := 1598) dL_law__1597 rfl rfl ?_
      refine v_lald (pc' := 1599) dL_law__1598 rfl fun w164 => ?_
      refine v_iload (pc' := 1601) 0 dL_law__1599 rfl rfl ?_
      refine v_i2l (pc' := 1602) dL_law__1601 rfl ?_
      refine v_lcmp (pc' := 1603) dL_law__1602 rfl ?_
      refine v_ifeq (t := 1608) (pc' := 1606) dL_law__1603 (by decide) rfl ?_ ?_
      · refine V.sub [2, 3, 4, 5, 6] rfl ?_
        exact h_L_law__b1608 g k23 hk23 a1 a2 a3 x4
      · refine v_iconst (v := 0) (pc' := 1607) dL_law__1606 rfl rfl ?_
        exact v_zret rfl rfl dL_law__1607
  · refine v_iconst (v := 0) (pc' := 1590) dL_law__1589 rfl rfl ?_
    exact v_zret rfl rfl dL_law__1590
set_option maxRecDepth 20000 in
theorem h_L_law__b1611 (g : GW) (k23 : Nat → Nat → Nat → Int32 → Mo Int32) (hk23 : ∀ a1 a2 a3 x4, V g mL_law_ 62 rtI 23 [(0, .ref (gS g).1), (1, rf g a1), (2, rf g a2), (3, rf g a3), (4, .int x4)] [] (k23 a1 a2 a3 x4)) (a1 : Nat) (a2 : Nat) (a3 : Nat) (x4 : Int32) : V g mL_law_ 62 rtI 1611 [(0, .ref (gS g).1), (1, rf g a1), (2, rf g a2), (3, rf g a3), (4, .int x4)] [] (f_L_law__b1611 g k23 a1 a2 a3 x4) := by
  unfold f_L_law__b1611
  refine v_aload_n (pc' := 1612) 1 dL_law__1611 rfl rfl rfl ?_
  refine v_callV (vs := []) (pc' := 1615) (h_X11_papers g a1) mv_X11_papers wl_L_213 rfl (Nat.le_of_ble_eq_true rfl) (by omega) (by decide) (Nat.le_of_ble_eq_true rfl) rfl dL_law__1612 rfl fun v165 => ?_
  refine v_aload_n (pc' := 1616) 2 dL_law__1615 rfl rfl rfl ?_
  refine v_callV (vs := []) (pc' := 1619) (h_X12_papers g a2) mv_X12_papers wl_L_216 rfl (Nat.le_of_ble_eq_true rfl) (by omega) (by decide) (Nat.le_of_ble_eq_true rfl) rfl dL_law__1616 rfl fun v166 => ?_
  refine v_icmpeq (t := 2771) (pc' := 1622) dL_law__1619 (by decide) rfl ?_ ?_
  · refine V.sub [0, 1, 2, 3, 4] rfl ?_
    exact h_L_law__b2771 g k23 hk23 a1 a2 a3 x4
  · refine v_iconst (v := 0) (pc' := 1623) dL_law__1622 rfl rfl ?_
    exact v_zret rfl rfl dL_law__1623
set_option maxRecDepth 20000 in
theorem h_L_law__b1677 (g : GW) (k23 : Nat → Nat → Nat → Int32 → Mo Int32) (hk23 : ∀ a1 a2 a3 x4, V g mL_law_ 62 rtI 23 [(0, .ref (gS g).1), (1, rf g a1), (2, rf g a2), (3, rf g a3), (4, .int x4)] [] (k23 a1 a2 a3 x4)) (a1 : Nat) (a2 : Nat) (a3 : Nat) (x4 : Int32) : V g mL_law_ 62 rtI 1677 [(0, .ref (gS g).1), (1, rf g a1), (2, rf g a2), (3, rf g a3), (4, .int x4)] [] (f_L_law__b1677 g k23 a1 a2 a3 x4) := by
  unfold f_L_law__b1677
  refine v_goto (t := 2771) dL_law__1677 (by decide) ?_
  refine V.sub [0, 1, 2, 3, 4] rfl ?_
  exact h_L_law__b2771 g k23 hk23 a1 a2 a3 x4
set_option maxRecDepth 20000 in
theorem h_L_law__b1624 (g : GW) (k23 : Nat → Nat → Nat → Int32 → Mo Int32) (hk23 : ∀ a1 a2 a3 x4, V g mL_law_ 62 rtI 23 [(0, .ref (gS g).1), (1, rf g a1), (2, rf g a2), (3, rf g a3), (4, .int x4)] [] (k23 a1 a2 a3 x4)) (a1 : Nat) (a2 : Nat) (a3 : Nat) (x4 : Int32) : V g mL_law_ 62 rtI 1624 [(0, .ref (gS g).1), (1, rf g a1), (2, rf g a2), (3, rf g a3), (4, .int x4)] [] (f_L_law__b1624 g k23 a1 a2 a3 x4) := by
  unfold f_L_law__b1624
  refine v_aload_n (pc' := 1625) 1 dL_law__1624 rfl rfl rfl ?_
  refine v_aload_nX (pc' := 1626) 0 dL_law__1625 rfl rfl rfl ?_
  refine v_iload (pc' := 1628) 4 dL_law__1626 rfl rfl ?_
  refine v_iconst (v := 1) (pc' := 1629) dL_law__1628 rfl rfl ?_
  refine v_iadd (pc' := 1630) dL_law__1629 rfl ?_
  refine v_sld (pc' := 1631) dL_law__1630 rfl fun v167 => ?_
  refine v_aload_n (pc' := 1632) 3 dL_law__1631 rfl rfl rfl ?_
  refine v_callX (vs := [rf g a1, .int v167, rf g a3]) (pc' := 1635) (h_L_paper g a1 v167 a3) mx_L_paper wl_L_217 (Nat.le_of_ble_eq_true rfl) (by omega) (by decide) (Nat.le_of_ble_eq_true rfl) rfl dL_law__1632 rfl fun v168 => ?_
  refine v_istore (lv' := [(5, .int v168), (0, .ref (gS g).1), (1, rf g a1), (2, rf g a2), (3, rf g a3), (4, .int x4)]) (pc' := 1637) dL_law__1635 (by decide) rfl rfl ?_
  refine v_aload_n (pc' := 1638) 3 dL_law__1637 rfl rfl rfl ?_
  refine v_aload_nX (pc' := 1639) 1 dL_law__1638 rfl rfl rfl ?_
  refine v_iload (pc' := 1641) 5 dL_law__1639 rfl rfl ?_
  refine v_iconst (v := 1) (pc' := 1642) dL_law__1641 rfl rfl ?_
  refine v_iadd (pc' := 1643) dL_law__1642 rfl ?_
  refine v_sld (pc' := 1644) dL_law__1643 rfl fun v169 => ?_
  refine v_callV (vs := [.int v169]) (pc' := 1647) (h_X12_paper g a2 v169) mv_X12_paper wl_L_219 rfl (Nat.le_of_ble_eq_true rfl) (by omega) (by decide) (Nat.le_of_ble_eq_true rfl) rfl dL_law__1644 rfl fun v170 => ?_
  refine v_istore (lv' := [(6, .int v170), (5, .int v168), (0, .ref (gS g).1), (1, rf g a1), (2, rf g a2), (3, rf g a3), (4, .int x4)]) (pc' := 1649) dL_law__1647 (by decide) rfl rfl ?_
  refine v_aload_n (pc' := 1650) 4 dL_law__1649 rfl rfl rfl ?_
  refine v_callV (vs := []) (pc' := 1653) (h_X12_thrown g a2) mv_X12_thrown wl_L_136 rfl (Nat.le_of_ble_eq_true rfl) (by omega) (by decide) (Nat.le_of_ble_eq_true rfl) rfl dL_law__1650 rfl fun v171 => ?_
  refine v_iload (pc' := 1655) 1 dL_law__1653 rfl rfl ?_
  refine v_icmpeq (t := 1660) (pc' := 1658) dL_law__1655 (by decide) rfl ?_ ?_
  · refine v_iload (pc' := 1662) 1 dL_law__1660 rfl rfl ?_
    refine v_ifne (t := 1677) (pc' := 1665) dL_law__1662 (by decide) rfl ?_ ?_
    · refine V.sub [2, 3, 4, 5, 6] rfl ?_
      exact h_L_law__b1677 g k23 hk23 a1 a2 a3 x4
    · refine v_aload_n (pc' := 1666) 5 dL_law__1665 rfl rfl rfl ?_
      refine v_iconst (v := 0) (pc' := 1667) dL_law__1666 rfl rfl ?_
      refine v_lald (pc' := 1668) dL_law__1667 rfl fun w172 => ?_
      refine v_iload (pc' := 1670) 0 dL_law__1668 rfl rfl ?_
      refine v_i2l (pc' := 1671) dL_law__1670 rfl ?_
      refine v_lcmp (pc' := 1672) dL_law__1671 rfl ?_
      refine v_ifeq (t := 1677) (pc' := 1675) dL_law__1672 (by decide) rfl ?_ ?_
      · refine V.sub [2, 3, 4, 5, 6] rfl ?_
        exact h_L_law__b1677 g k23 hk23 a1 a2 a3 x4
      · refine v_iconst (v := 0) (pc' := 1676) dL_law__1675 rfl rfl ?_
        exact v_zret rfl rfl dL_law__1676
  · refine v_iconst (v := 0) (pc' := 1659) dL_law__1658 rfl rfl ?_
    exact v_zret rfl rfl dL_law__1659
set_option maxRecDepth 20000 in
theorem h_L_law__b1769 (g : GW) (k23 : Nat → Nat → Nat → Int32 → Mo Int32) (hk23 : ∀ a1 a2 a3 x4, V g mL_law_ 62 rtI 23 [(0, .ref (gS g).1), (1, rf g a1), (2, rf g a2), (3, rf g a3), (4, .int x4)] [] (k23 a1 a2 a3 x4)) (a1 : Nat) (a2 : Nat) (a3 : Nat) (x4 : Int32) : V g mL_law_ 62 rtI 1769 [(0, .ref (gS g).1), (1, rf g a1), (2, rf g a2), (3, rf g a3), (4, .int x4)] [] (f_L_law__b1769 g k23 a1 a2 a3 x4) := by
  unfold f_L_law__b1769
  refine v_goto (t := 2771) dL_law__1769 (by decide) ?_
  refine V.sub [0, 1, 2, 3, 4] rfl ?_
  exact h_L_law__b2771 g k23 hk23 a1 a2 a3 x4
set_option maxRecDepth 20000 in
theorem h_L_law__b1680 (g : GW) (k23 : Nat → Nat → Nat → Int32 → Mo Int32) (hk23 : ∀ a1 a2 a3 x4, V g mL_law_ 62 rtI 23 [(0, .ref (gS g).1), (1, rf g a1), (2, rf g a2), (3, rf g a3), (4, .int x4)] [] (k23 a1 a2 a3 x4)) (a1 : Nat) (a2 : Nat) (a3 : Nat) (x4 : Int32) : V g mL_law_ 62 rtI 1680 [(0, .ref (gS g).1), (1, rf g a1), (2, rf g a2), (3, rf g a3), (4, .int x4)] [] (f_L_law__b1680 g k23 a1 a2 a3 x4) := by
  unfold f_L_law__b1680
  refine v_aload_n (pc' := 1681) 1 dL_law__1680 rfl rfl rfl ?_
  refine v_aload_nX (pc' := 1682) 0 dL_law__1681 rfl rfl rfl ?_
  refine v_iload (pc' := 1684) 4 dL_law__1682 rfl rfl ?_
  refine v_iconst (v := 1) (pc' := 1685) dL_law__1684 rfl rfl ?_
  refine v_iadd (pc' := 1686) dL_law__1685 rfl ?_
  refine v_sld (pc' := 1687) dL_law__1686 rfl fun v173 => ?_
  refine v_aload_nX (pc' := 1688) 0 dL_law__1687 rfl rfl rfl ?_
  refine v_iload (pc' := 1690) 4 dL_law__1688 rfl rfl ?_
  refine v_iconst (v := 2) (pc' := 1691) dL_law__1690 rfl rfl ?_
  refine v_iadd (pc' := 1692) dL_law__1691 rfl ?_
  refine v_sld (pc' := 1693) dL_law__1692 rfl fun v174 => ?_
  refine v_aload_nX (pc' := 1694) 0 dL_law__1693 rfl rfl rfl ?_
  refine v_iload (pc' := 1696) 4 dL_law__1694 rfl rfl ?_
  refine v_iconst (v := 3) (pc' := 1697) dL_law__1696 rfl rfl ?_
  refine v_iadd (pc' := 1698) dL_law__1697 rfl ?_
  refine v_sld (pc' := 1699) dL_law__1698 rfl fun v175 => ?_
  refine v_aload_nX (pc' := 1700) 0 dL_law__1699 rfl rfl rfl ?_
  refine v_iload (pc' := 1702) 4 dL_law__1700 rfl rfl ?_
  refine v_iconst (v := 4) (pc' := 1703) dL_law__1702 rfl rfl ?_
  refine v_iadd (pc' := 1704) dL_law__1703 rfl ?_
  refine v_sld (pc' := 1705) dL_law__1704 rfl fun v176 => ?_
  refine v_aload_n (pc' := 1706) 3 dL_law__1705 rfl rfl rfl ?_
  refine v_callX (vs := [rf g a1, .int v173, .int v174, .int v175, .int v176, rf g a3]) (pc' := 1709) (h_L_bids g a1 v173 v174 v175 v176 a3) mx_L_bids wl_L_220 (Nat.le_of_ble_eq_true rfl) (by omega) (by decide) (Nat.le_of_ble_eq_true rfl) rfl dL_law__1706 rfl fun v177 => ?_
  refine v_istore (lv' := [(5, .int v177), (0, .ref (gS g).1), (1, rf g a1), (2, rf g a2), (3, rf g a3), (4, .int x4)]) (pc' := 1711) dL_law__1709 (by decide) rfl rfl ?_
  refine v_aload_n (pc' := 1712) 3 dL_law__1711 rfl rfl rfl ?_
  refine v_aload_nX (pc' := 1713) 1 dL_law__1712 rfl rfl rfl ?_
  refine v_iload (pc' := 1715) 5 dL_law__1713 rfl rfl ?_
  refine v_iconst (v := 1) (pc' := 1716) dL_law__1715 rfl rfl ?_
  refine v_iadd (pc' := 1717) dL_law__1716 rfl ?_
  refine v_sld (pc' := 1718) dL_law__1717 rfl fun v178 => ?_
  refine v_aload_nX (pc' := 1719) 1 dL_law__1718 rfl rfl rfl ?_
  refine v_iload (pc' := 1721) 5 dL_law__1719 rfl rfl ?_
  refine v_iconst (v := 2) (pc' := 1722) dL_law__1721 rfl rfl ?_
  refine v_iadd (pc' := 1723) dL_law__1722 rfl ?_
  refine v_sld (pc' := 1724) dL_law__1723 rfl fun v179 => ?_
  refine v_aload_nX (pc' := 1725) 1 dL_law__1724 rfl rfl rfl ?_
  refine v_iload (pc' := 1727) 5 dL_law__1725 rfl rfl ?_
  refine v_iconst (v := 3) (pc' := 1728) dL_law__1727 rfl rfl ?_
  refine v_iadd (pc' := 1729) dL_law__1728 rfl ?_
  refine v_sld (pc' := 1730) dL_law__1729 rfl fun v180 => ?_
  refine v_aload_nX (pc' := 1731) 1 dL_law__1730 rfl rfl rfl ?_
  refine v_iload (pc' := 1733) 5 dL_law__1731 rfl rfl ?_
  refine v_iconst (v := 4) (pc' := 1734) dL_law__1733 rfl rfl ?_
  refine v_iadd (pc' := 1735) dL_law__1734 rfl ?_
  refine v_sld (pc' := 1736) dL_law__1735 rfl fun v181 => ?_
  refine v_callV (vs := [.int v178, .int v179, .int v180, .int v181]) (pc' := 1739) (h_X12_bids g a2 v178 v179 v180 v181) mv_X12_bids wl_L_223 rfl (Nat.le_of_ble_eq_true rfl) (by omega) (by decide) (Nat.le_of_ble_eq_true rfl) rfl dL_law__1736 rfl fun v182 => ?_
  refine v_istore (lv' := [(6, .int v182), (5, .int v177), (0, .ref (gS g).1), (1, rf g a1), (2, rf g a2), (3, rf g a3), (4, .int x4)]) (pc' := 1741) dL_law__1739 (by decide) rfl rfl ?_
  refine v_aload_n (pc' := 1742) 4 dL_law__1741 rfl rfl rfl ?_
  refine v_callV (vs := []) (pc' := 1745) (h_X12_thrown g a2) mv_X12_thrown wl_L_136 rfl (Nat.le_of_ble_eq_true rfl) (by omega) (by decide) (Nat.le_of_ble_eq_true rfl) rfl dL_law__1742 rfl fun v183 => ?_
  refine v_iload (pc' := 1747) 1 dL_law__1745 rfl rfl ?_
  refine v_icmpeq (t := 1752) (pc' := 1750) dL_law__1747 (by decide) rfl ?_ ?_
  · refine v_iload (pc' := 1754) 1 dL_law__1752 rfl rfl ?_
    refine v_ifne (t := 1769) (pc' := 1757) dL_law__1754 (by decide) rfl ?_ ?_
    · refine V.sub [2, 3, 4, 5, 6] rfl ?_
      exact h_L_law__b1769 g k23 hk23 a1 a2 a3 x4
    · refine v_aload_n (pc' := 1758) 5 dL_law__1757 rfl rfl rfl ?_
      refine v_iconst (v := 0) (pc' := 1759) dL_law__1758 rfl rfl ?_
      refine v_lald (pc' := 1760) dL_law__1759 rfl fun w184 => ?_
      refine v_iload (pc' := 1762) 0 dL_law__1760 rfl rfl ?_
      refine v_i2l (pc' := 1763) dL_law__1762 rfl ?_
      refine v_lcmp (pc' := 1764) dL_law__1763 rfl ?_
      refine v_ifeq (t := 1769) (pc' := 1767) dL_law__1764 (by decide) rfl ?_ ?_
      · refine V.sub [2, 3, 4, 5, 6] rfl ?_
        exact h_L_law__b1769 g k23 hk23 a1 a2 a3 x4
      · refine v_iconst (v := 0) (pc' := 1768) dL_law__1767 rfl rfl ?_
        exact v_zret rfl rfl dL_law__1768
  · refine v_iconst (v := 0) (pc' := 1751) dL_law__1750 rfl rfl ?_
    exact v_zret rfl rfl dL_law__1751
set_option maxRecDepth 20000 in
theorem h_L_law__b1849 (g : GW) (k23 : Nat → Nat → Nat → Int32 → Mo Int32) (hk23 : ∀ a1 a2 a3 x4, V g mL_law_ 62 rtI 23 [(0, .ref (gS g).1), (1, rf g a1), (2, rf g a2), (3, rf g a3), (4, .int x4)] [] (k23 a1 a2 a3 x4)) (a1 : Nat) (a2 : Nat) (a3 : Nat) (x4 : Int32) : V g mL_law_ 62 rtI 1849 [(0, .ref (gS g).1), (1, rf g a1), (2, rf g a2), (3, rf g a3), (4, .int x4)] [] (f_L_law__b1849 g k23 a1 a2 a3 x4) := by
  unfold f_L_law__b1849
  refine v_goto (t := 2771) dL_law__1849 (by decide) ?_
  refine V.sub [0, 1, 2, 3, 4] rfl ?_
  exact h_L_law__b2771 g k23 hk23 a1 a2 a3 x4
set_option maxRecDepth 20000 in
theorem h_L_law__b1772 (g : GW) (k23 : Nat → Nat → Nat → Int32 → Mo Int32) (hk23 : ∀ a1 a2 a3 x4, V g mL_law_ 62 rtI 23 [(0, .ref (gS g).1), (1, rf g a1), (2, rf g a2), (3, rf g a3), (4, .int x4)] [] (k23 a1 a2 a3 x4)) (a1 : Nat) (a2 : Nat) (a3 : Nat) (x4 : Int32) : V g mL_law_ 62 rtI 1772 [(0, .ref (gS g).1), (1, rf g a1), (2, rf g a2), (3, rf g a3), (4, .int x4)] [] (f_L_law__b1772 g k23 a1 a2 a3 x4) := by
  unfold f_L_law__b1772
  refine v_aload_n (pc' := 1773) 1 dL_law__1772 rfl rfl rfl ?_
  refine v_aload_nX (pc' := 1774) 0 dL_law__1773 rfl rfl rfl ?_
  refine v_iload (pc' := 1776) 4 dL_law__1774 rfl rfl ?_
  refine v_iconst (v := 1) (pc' := 1777) dL_law__1776 rfl rfl ?_
  refine v_iadd (pc' := 1778) dL_law__1777 rfl ?_
  refine v_sld (pc' := 1779) dL_law__1778 rfl fun v185 => ?_
  refine v_aload_nX (pc' := 1780) 0 dL_law__1779 rfl rfl rfl ?_
  refine v_iload (pc' := 1782) 4 dL_law__1780 rfl rfl ?_
  refine v_iconst (v := 2) (pc' := 1783) dL_law__1782 rfl rfl ?_
  refine v_iadd (pc' := 1784) dL_law__1783 rfl ?_
  refine v_sld (pc' := 1785) dL_law__1784 rfl fun v186 => ?_
  refine v_aload_nX (pc' := 1786) 0 dL_law__1785 rfl rfl rfl ?_
  refine v_iload (pc' := 1788) 4 dL_law__1786 rfl rfl ?_
  refine v_iconst (v := 3) (pc' := 1789) dL_law__1788 rfl rfl ?_
  refine v_iadd (pc' := 1790) dL_law__1789 rfl ?_
  refine v_sld (pc' := 1791) dL_law__1790 rfl fun v187 => ?_
  refine v_aload_n (pc' := 1792) 3 dL_law__1791 rfl rfl rfl ?_
  refine v_callX (vs := [rf g a1, .int v185, .int v186, .int v187, rf g a3]) (pc' := 1795) (h_L_share g a1 v185 v186 v187 a3) mx_L_share wl_L_224 (Nat.le_of_ble_eq_true rfl) (by omega) (by decide) (Nat.le_of_ble_eq_true rfl) rfl dL_law__1792 rfl fun v188 => ?_
  refine v_istore (lv' := [(5, .int v188), (0, .ref (gS g).1), (1, rf g a1), (2, rf g a2), (3, rf g a3), (4, .int x4)]) (pc' := 1797) dL_law__1795 (by decide) rfl rfl ?_
  refine v_aload_n (pc' := 1798) 3 dL_law__1797 rfl rfl rfl ?_
  refine v_aload_nX (pc' := 1799) 1 dL_law__1798 rfl rfl rfl ?_
  refine v_iload (pc' := 1801) 5 dL_law__1799 rfl rfl ?_
  refine v_iconst (v := 1) (pc' := 1802) dL_law__1801 rfl rfl ?_
  refine v_iadd (pc' := 1803) dL_law__1802 rfl ?_
  refine v_sld (pc' := 1804) dL_law__1803 rfl fun v189 => ?_
  refine v_aload_nX (pc' := 1805) 1 dL_law__1804 rfl rfl rfl ?_
  refine v_iload (pc' := 1807) 5 dL_law__1805 rfl rfl ?_
  refine v_iconst (v := 2) (pc' := 1808) dL_law__1807 rfl rfl ?_
  refine v_iadd (pc' := 1809) dL_law__1808 rfl ?_
  refine v_sld (pc' := 1810) dL_law__1809 rfl fun v190 => ?_
  refine v_aload_nX (pc' := 1811) 1 dL_law__1810 rfl rfl rfl ?_
  refine v_iload (pc' := 1813) 5 dL_law__1811 rfl rfl ?_
  refine v_iconst (v := 3) (pc' := 1814) dL_law__1813 rfl rfl ?_
  refine v_iadd (pc' := 1815) dL_law__1814 rfl ?_
  refine v_sld (pc' := 1816) dL_law__1815 rfl fun v191 => ?_
  refine v_callV (vs := [.int v189, .int v190, .int v191]) (pc' := 1819) (h_X12_share g a2 v189 v190 v191) mv_X12_share wl_L_226 rfl (Nat.le_of_ble_eq_true rfl) (by omega) (by decide) (Nat.le_of_ble_eq_true rfl) rfl dL_law__1816 rfl fun v192 => ?_
  refine v_istore (lv' := [(6, .int v192), (5, .int v188), (0, .ref (gS g).1), (1, rf g a1), (2, rf g a2), (3, rf g a3), (4, .int x4)]) (pc' := 1821) dL_law__1819 (by decide) rfl rfl ?_
  refine v_aload_n (pc' := 1822) 4 dL_law__1821 rfl rfl rfl ?_
  refine v_callV (vs := []) (pc' := 1825) (h_X12_thrown g a2) mv_X12_thrown wl_L_136 rfl (Nat.le_of_ble_eq_true rfl) (by omega) (by decide) (Nat.le_of_ble_eq_true rfl) rfl dL_law__1822 rfl fun v193 => ?_
  refine v_iload (pc' := 1827) 1 dL_law__1825 rfl rfl ?_
  refine v_icmpeq (t := 1832) (pc' := 1830) dL_law__1827 (by decide) rfl ?_ ?_
  · refine v_iload (pc' := 1834) 1 dL_law__1832 rfl rfl ?_
    refine v_ifne (t := 1849) (pc' := 1837) dL_law__1834 (by decide) rfl ?_ ?_
    · refine V.sub [2, 3, 4, 5, 6] rfl ?_
      exact h_L_law__b1849 g k23 hk23 a1 a2 a3 x4
    · refine v_aload_n (pc' := 1838) 5 dL_law__1837 rfl rfl rfl ?_
      refine v_iconst (v := 0) (pc' := 1839) dL_law__1838 rfl rfl ?_
      refine v_lald (pc' := 1840) dL_law__1839 rfl fun w194 => ?_
      refine v_iload (pc' := 1842) 0 dL_law__1840 rfl rfl ?_
      refine v_i2l (pc' := 1843) dL_law__1842 rfl ?_
      refine v_lcmp (pc' := 1844) dL_law__1843 rfl ?_
      refine v_ifeq (t := 1849) (pc' := 1847) dL_law__1844 (by decide) rfl ?_ ?_
      · refine V.sub [2, 3, 4, 5, 6] rfl ?_
        exact h_L_law__b1849 g k23 hk23 a1 a2 a3 x4
      · refine v_iconst (v := 0) (pc' := 1848) dL_law__1847 rfl rfl ?_
        exact v_zret rfl rfl dL_law__1848
  · refine v_iconst (v := 0) (pc' := 1831) dL_law__1830 rfl rfl ?_
    exact v_zret rfl rfl dL_law__1831
set_option maxRecDepth 20000 in
theorem h_L_law__b1905 (g : GW) (k23 : Nat → Nat → Nat → Int32 → Mo Int32) (hk23 : ∀ a1 a2 a3 x4, V g mL_law_ 62 rtI 23 [(0, .ref (gS g).1), (1, rf g a1), (2, rf g a2), (3, rf g a3), (4, .int x4)] [] (k23 a1 a2 a3 x4)) (a1 : Nat) (a2 : Nat) (a3 : Nat) (x4 : Int32) : V g mL_law_ 62 rtI 1905 [(0, .ref (gS g).1), (1, rf g a1), (2, rf g a2), (3, rf g a3), (4, .int x4)] [] (f_L_law__b1905 g k23 a1 a2 a3 x4) := by
  unfold f_L_law__b1905
  refine v_goto (t := 2771) dL_law__1905 (by decide) ?_
  refine V.sub [0, 1, 2, 3, 4] rfl ?_
  exact h_L_law__b2771 g k23 hk23 a1 a2 a3 x4
set_option maxRecDepth 20000 in
theorem h_L_law__b1852 (g : GW) (k23 : Nat → Nat → Nat → Int32 → Mo Int32) (hk23 : ∀ a1 a2 a3 x4, V g mL_law_ 62 rtI 23 [(0, .ref (gS g).1), (1, rf g a1), (2, rf g a2), (3, rf g a3), (4, .int x4)] [] (k23 a1 a2 a3 x4)) (a1 : Nat) (a2 : Nat) (a3 : Nat) (x4 : Int32) : V g mL_law_ 62 rtI 1852 [(0, .ref (gS g).1), (1, rf g a1), (2, rf g a2), (3, rf g a3), (4, .int x4)] [] (f_L_law__b1852 g k23 a1 a2 a3 x4) := by
  unfold f_L_law__b1852
  refine v_aload_n (pc' := 1853) 1 dL_law__1852 rfl rfl rfl ?_
  refine v_aload_nX (pc' := 1854) 0 dL_law__1853 rfl rfl rfl ?_
  refine v_iload (pc' := 1856) 4 dL_law__1854 rfl rfl ?_
  refine v_iconst (v := 1) (pc' := 1857) dL_law__1856 rfl rfl ?_
  refine v_iadd (pc' := 1858) dL_law__1857 rfl ?_
  refine v_sld (pc' := 1859) dL_law__1858 rfl fun v195 => ?_
  refine v_aload_n (pc' := 1860) 3 dL_law__1859 rfl rfl rfl ?_
  refine v_callX (vs := [rf g a1, .int v195, rf g a3]) (pc' := 1863) (h_L_busiest g a1 v195 a3) mx_L_busiest wl_L_227 (Nat.le_of_ble_eq_true rfl) (by omega) (by decide) (Nat.le_of_ble_eq_true rfl) rfl dL_law__1860 rfl fun v196 => ?_
  refine v_istore (lv' := [(5, .int v196), (0, .ref (gS g).1), (1, rf g a1), (2, rf g a2), (3, rf g a3), (4, .int x4)]) (pc' := 1865) dL_law__1863 (by decide) rfl rfl ?_
  refine v_aload_n (pc' := 1866) 3 dL_law__1865 rfl rfl rfl ?_
  refine v_aload_nX (pc' := 1867) 1 dL_law__1866 rfl rfl rfl ?_
  refine v_iload (pc' := 1869) 5 dL_law__1867 rfl rfl ?_
  refine v_iconst (v := 1) (pc' := 1870) dL_law__1869 rfl rfl ?_
  refine v_iadd (pc' := 1871) dL_law__1870 rfl ?_
  refine v_sld (pc' := 1872) dL_law__1871 rfl fun v197 => ?_
  refine v_callV (vs := [.int v197]) (pc' := 1875) (h_X12_busiest g a2 v197) mv_X12_busiest wl_L_229 rfl (Nat.le_of_ble_eq_true rfl) (by omega) (by decide) (Nat.le_of_ble_eq_true rfl) rfl dL_law__1872 rfl fun v198 => ?_
  refine v_istore (lv' := [(6, .int v198), (5, .int v196), (0, .ref (gS g).1), (1, rf g a1), (2, rf g a2), (3, rf g a3), (4, .int x4)]) (pc' := 1877) dL_law__1875 (by decide) rfl rfl ?_
  refine v_aload_n (pc' := 1878) 4 dL_law__1877 rfl rfl rfl ?_
  refine v_callV (vs := []) (pc' := 1881) (h_X12_thrown g a2) mv_X12_thrown wl_L_136 rfl (Nat.le_of_ble_eq_true rfl) (by omega) (by decide) (Nat.le_of_ble_eq_true rfl) rfl dL_law__1878 rfl fun v199 => ?_
  refine v_iload (pc' := 1883) 1 dL_law__1881 rfl rfl ?_
  refine v_icmpeq (t := 1888) (pc' := 1886) dL_law__1883 (by decide) rfl ?_ ?_
  · refine v_iload (pc' := 1890) 1 dL_law__1888 rfl rfl ?_
    refine v_ifne (t := 1905) (pc' := 1893) dL_law__1890 (by decide) rfl ?_ ?_
    · refine V.sub [2, 3, 4, 5, 6] rfl ?_
      exact h_L_law__b1905 g k23 hk23 a1 a2 a3 x4
    · refine v_aload_n (pc' := 1894) 5 dL_law__1893 rfl rfl rfl ?_
      refine v_iconst (v := 0) (pc' := 1895) dL_law__1894 rfl rfl ?_
      refine v_lald (pc' := 1896) dL_law__1895 rfl fun w200 => ?_
      refine v_iload (pc' := 1898) 0 dL_law__1896 rfl rfl ?_
      refine v_i2l (pc' := 1899) dL_law__1898 rfl ?_
      refine v_lcmp (pc' := 1900) dL_law__1899 rfl ?_
      refine v_ifeq (t := 1905) (pc' := 1903) dL_law__1900 (by decide) rfl ?_ ?_
      · refine V.sub [2, 3, 4, 5, 6] rfl ?_
        exact h_L_law__b1905 g k23 hk23 a1 a2 a3 x4
      · refine v_iconst (v := 0) (pc' := 1904) dL_law__1903 rfl rfl ?_
        exact v_zret rfl rfl dL_law__1904
  · refine v_iconst (v := 0) (pc' := 1887) dL_law__1886 rfl rfl ?_
    exact v_zret rfl rfl dL_law__1887
set_option maxRecDepth 20000 in
theorem h_L_law__b1908 (g : GW) (k23 : Nat → Nat → Nat → Int32 → Mo Int32) (hk23 : ∀ a1 a2 a3 x4, V g mL_law_ 62 rtI 23 [(0, .ref (gS g).1), (1, rf g a1), (2, rf g a2), (3, rf g a3), (4, .int x4)] [] (k23 a1 a2 a3 x4)) (a1 : Nat) (a2 : Nat) (a3 : Nat) (x4 : Int32) : V g mL_law_ 62 rtI 1908 [(0, .ref (gS g).1), (1, rf g a1), (2, rf g a2), (3, rf g a3), (4, .int x4)] [] (f_L_law__b1908 g k23 a1 a2 a3 x4) := by
  unfold f_L_law__b1908
  refine v_aload_n (pc' := 1909) 1 dL_law__1908 rfl rfl rfl ?_
  refine v_callV (vs := []) (pc' := 1912) (h_X11_unseen g a1) mv_X11_unseen wl_L_230 rfl (Nat.le_of_ble_eq_true rfl) (by omega) (by decide) (Nat.le_of_ble_eq_true rfl) rfl dL_law__1909 rfl fun v201 => ?_
  refine v_aload_n (pc' := 1913) 2 dL_law__1912 rfl rfl rfl ?_
  refine v_callV (vs := []) (pc' := 1916) (h_X12_unseen g a2) mv_X12_unseen wl_L_233 rfl (Nat.le_of_ble_eq_true rfl) (by omega) (by decide) (Nat.le_of_ble_eq_true rfl) rfl dL_law__1913 rfl fun v202 => ?_
  refine v_icmpeq (t := 2771) (pc' := 1919) dL_law__1916 (by decide) rfl ?_ ?_
  · refine V.sub [0, 1, 2, 3, 4] rfl ?_
    exact h_L_law__b2771 g k23 hk23 a1 a2 a3 x4
  · refine v_iconst (v := 0) (pc' := 1920) dL_law__1919 rfl rfl ?_
    exact v_zret rfl rfl dL_law__1920
set_option maxRecDepth 20000 in
theorem h_L_law__b1974 (g : GW) (k23 : Nat → Nat → Nat → Int32 → Mo Int32) (hk23 : ∀ a1 a2 a3 x4, V g mL_law_ 62 rtI 23 [(0, .ref (gS g).1), (1, rf g a1), (2, rf g a2), (3, rf g a3), (4, .int x4)] [] (k23 a1 a2 a3 x4)) (a1 : Nat) (a2 : Nat) (a3 : Nat) (x4 : Int32) : V g mL_law_ 62 rtI 1974 [(0, .ref (gS g).1), (1, rf g a1), (2, rf g a2), (3, rf g a3), (4, .int x4)] [] (f_L_law__b1974 g k23 a1 a2 a3 x4) := by
  unfold f_L_law__b1974
  refine v_goto (t := 2771) dL_law__1974 (by decide) ?_
  refine V.sub [0, 1, 2, 3, 4] rfl ?_
  exact h_L_law__b2771 g k23 hk23 a1 a2 a3 x4
set_option maxRecDepth 20000 in
theorem h_L_law__b1921 (g : GW) (k23 : Nat → Nat → Nat → Int32 → Mo Int32) (hk23 : ∀ a1 a2 a3 x4, V g mL_law_ 62 rtI 23 [(0, .ref (gS g).1), (1, rf g a1), (2, rf g a2), (3, rf g a3), (4, .int x4)] [] (k23 a1 a2 a3 x4)) (a1 : Nat) (a2 : Nat) (a3 : Nat) (x4 : Int32) : V g mL_law_ 62 rtI 1921 [(0, .ref (gS g).1), (1, rf g a1), (2, rf g a2), (3, rf g a3), (4, .int x4)] [] (f_L_law__b1921 g k23 a1 a2 a3 x4) := by
  unfold f_L_law__b1921
  refine v_aload_n (pc' := 1922) 1 dL_law__1921 rfl rfl rfl ?_
  refine v_aload_nX (pc' := 1923) 0 dL_law__1922 rfl rfl rfl ?_
  refine v_iload (pc' := 1925) 4 dL_law__1923 rfl rfl ?_
  refine v_iconst (v := 1) (pc' := 1926) dL_law__1925 rfl rfl ?_
  refine v_iadd (pc' := 1927) dL_law__1926 rfl ?_
  refine v_sld (pc' := 1928) dL_law__1927 rfl fun v203 => ?_
  refine v_aload_n (pc' := 1929) 3 dL_law__1928 rfl rfl rfl ?_
  refine v_callX (vs := [rf g a1, .int v203, rf g a3]) (pc' := 1932) (h_L_where g a1 v203 a3) mx_L_where wl_L_234 (Nat.le_of_ble_eq_true rfl) (by omega) (by decide) (Nat.le_of_ble_eq_true rfl) rfl dL_law__1929 rfl fun v204 => ?_
  refine v_istore (lv' := [(5, .int v204), (0, .ref (gS g).1), (1, rf g a1), (2, rf g a2), (3, rf g a3), (4, .int x4)]) (pc' := 1934) dL_law__1932 (by decide) rfl rfl ?_
  refine v_aload_n (pc' := 1935) 3 dL_law__1934 rfl rfl rfl ?_
  refine v_aload_nX (pc' := 1936) 1 dL_law__1935 rfl rfl rfl ?_
  refine v_iload (pc' := 1938) 5 dL_law__1936 rfl rfl ?_
  refine v_iconst (v := 1) (pc' := 1939) dL_law__1938 rfl rfl ?_
  refine v_iadd (pc' := 1940) dL_law__1939 rfl ?_
  refine v_sld (pc' := 1941) dL_law__1940 rfl fun v205 => ?_
  refine v_callV (vs := [.int v205]) (pc' := 1944) (h_X12_where g a2 v205) mv_X12_where wl_L_236 rfl (Nat.le_of_ble_eq_true rfl) (by omega) (by decide) (Nat.le_of_ble_eq_true rfl) rfl dL_law__1941 rfl fun v206 => ?_
  refine v_istore (lv' := [(6, .int v206), (5, .int v204), (0, .ref (gS g).1), (1, rf g a1), (2, rf g a2), (3, rf g a3), (4, .int x4)]) (pc' := 1946) dL_law__1944 (by decide) rfl rfl ?_
  refine v_aload_n (pc' := 1947) 4 dL_law__1946 rfl rfl rfl ?_
  refine v_callV (vs := []) (pc' := 1950) (h_X12_thrown g a2) mv_X12_thrown wl_L_136 rfl (Nat.le_of_ble_eq_true rfl) (by omega) (by decide) (Nat.le_of_ble_eq_true rfl) rfl dL_law__1947 rfl fun v207 => ?_
  refine v_iload (pc' := 1952) 1 dL_law__1950 rfl rfl ?_
  refine v_icmpeq (t := 1957) (pc' := 1955) dL_law__1952 (by decide) rfl ?_ ?_
  · refine v_iload (pc' := 1959) 1 dL_law__1957 rfl rfl ?_
    refine v_ifne (t := 1974) (pc' := 1962) dL_law__1959 (by decide) rfl ?_ ?_
    · refine V.sub [2, 3, 4, 5, 6] rfl ?_
      exact h_L_law__b1974 g k23 hk23 a1 a2 a3 x4
    · refine v_aload_n (pc' := 1963) 5 dL_law__1962 rfl rfl rfl ?_
      refine v_iconst (v := 0) (pc' := 1964) dL_law__1963 rfl rfl ?_
      refine v_lald (pc' := 1965) dL_law__1964 rfl fun w208 => ?_
      refine v_iload (pc' := 1967) 0 dL_law__1965 rfl rfl ?_
      refine v_i2l (pc' := 1968) dL_law__1967 rfl ?_
      refine v_lcmp (pc' := 1969) dL_law__1968 rfl ?_
      refine v_ifeq (t := 1974) (pc' := 1972) dL_law__1969 (by decide) rfl ?_ ?_
      · refine V.sub [2, 3, 4, 5, 6] rfl ?_
        exact h_L_law__b1974 g k23 hk23 a1 a2 a3 x4
      · refine v_iconst (v := 0) (pc' := 1973) dL_law__1972 rfl rfl ?_
        exact v_zret rfl rfl dL_law__1973
  · refine v_iconst (v := 0) (pc' := 1956) dL_law__1955 rfl rfl ?_
    exact v_zret rfl rfl dL_law__1956
set_option maxRecDepth 20000 in
theorem h_L_law__b2030 (g : GW) (k23 : Nat → Nat → Nat → Int32 → Mo Int32) (hk23 : ∀ a1 a2 a3 x4, V g mL_law_ 62 rtI 23 [(0, .ref (gS g).1), (1, rf g a1), (2, rf g a2), (3, rf g a3), (4, .int x4)] [] (k23 a1 a2 a3 x4)) (a1 : Nat) (a2 : Nat) (a3 : Nat) (x4 : Int32) : V g mL_law_ 62 rtI 2030 [(0, .ref (gS g).1), (1, rf g a1), (2, rf g a2), (3, rf g a3), (4, .int x4)] [] (f_L_law__b2030 g k23 a1 a2 a3 x4) := by
  unfold f_L_law__b2030
  refine v_goto (t := 2771) dL_law__2030 (by decide) ?_
  refine V.sub [0, 1, 2, 3, 4] rfl ?_
  exact h_L_law__b2771 g k23 hk23 a1 a2 a3 x4
set_option maxRecDepth 20000 in
theorem h_L_law__b1977 (g : GW) (k23 : Nat → Nat → Nat → Int32 → Mo Int32) (hk23 : ∀ a1 a2 a3 x4, V g mL_law_ 62 rtI 23 [(0, .ref (gS g).1), (1, rf g a1), (2, rf g a2), (3, rf g a3), (4, .int x4)] [] (k23 a1 a2 a3 x4)) (a1 : Nat) (a2 : Nat) (a3 : Nat) (x4 : Int32) : V g mL_law_ 62 rtI 1977 [(0, .ref (gS g).1), (1, rf g a1), (2, rf g a2), (3, rf g a3), (4, .int x4)] [] (f_L_law__b1977 g k23 a1 a2 a3 x4) := by
  unfold f_L_law__b1977
  refine v_aload_n (pc' := 1978) 1 dL_law__1977 rfl rfl rfl ?_
  refine v_aload_nX (pc' := 1979) 0 dL_law__1978 rfl rfl rfl ?_
  refine v_iload (pc' := 1981) 4 dL_law__1979 rfl rfl ?_
  refine v_iconst (v := 1) (pc' := 1982) dL_law__1981 rfl rfl ?_
  refine v_iadd (pc' := 1983) dL_law__1982 rfl ?_
  refine v_sld (pc' := 1984) dL_law__1983 rfl fun v209 => ?_
  refine v_aload_n (pc' := 1985) 3 dL_law__1984 rfl rfl rfl ?_
  refine v_callX (vs := [rf g a1, .int v209, rf g a3]) (pc' := 1988) (h_L_twins g a1 v209 a3) mx_L_twins wl_L_237 (Nat.le_of_ble_eq_true rfl) (by omega) (by decide) (Nat.le_of_ble_eq_true rfl) rfl dL_law__1985 rfl fun v210 => ?_
  refine v_istore (lv' := [(5, .int v210), (0, .ref (gS g).1), (1, rf g a1), (2, rf g a2), (3, rf g a3), (4, .int x4)]) (pc' := 1990) dL_law__1988 (by decide) rfl rfl ?_
  refine v_aload_n (pc' := 1991) 3 dL_law__1990 rfl rfl rfl ?_
  refine v_aload_nX (pc' := 1992) 1 dL_law__1991 rfl rfl rfl ?_
  refine v_iload (pc' := 1994) 5 dL_law__1992 rfl rfl ?_
  refine v_iconst (v := 1) (pc' := 1995) dL_law__1994 rfl rfl ?_
  refine v_iadd (pc' := 1996) dL_law__1995 rfl ?_
  refine v_sld (pc' := 1997) dL_law__1996 rfl fun v211 => ?_
  refine v_callV (vs := [.int v211]) (pc' := 2000) (h_X12_twins g a2 v211) mv_X12_twins wl_L_239 rfl (Nat.le_of_ble_eq_true rfl) (by omega) (by decide) (Nat.le_of_ble_eq_true rfl) rfl dL_law__1997 rfl fun v212 => ?_
  refine v_istore (lv' := [(6, .int v212), (5, .int v210), (0, .ref (gS g).1), (1, rf g a1), (2, rf g a2), (3, rf g a3), (4, .int x4)]) (pc' := 2002) dL_law__2000 (by decide) rfl rfl ?_
  refine v_aload_n (pc' := 2003) 4 dL_law__2002 rfl rfl rfl ?_
  refine v_callV (vs := []) (pc' := 2006) (h_X12_thrown g a2) mv_X12_thrown wl_L_136 rfl (Nat.le_of_ble_eq_true rfl) (by omega) (by decide) (Nat.le_of_ble_eq_true rfl) rfl dL_law__2003 rfl fun v213 => ?_
  refine v_iload (pc' := 2008) 1 dL_law__2006 rfl rfl ?_
  refine v_icmpeq (t := 2013) (pc' := 2011) dL_law__2008 (by decide) rfl ?_ ?_
  · refine v_iload (pc' := 2015) 1 dL_law__2013 rfl rfl ?_
    refine v_ifne (t := 2030) (pc' := 2018) dL_law__2015 (by decide) rfl ?_ ?_
    · refine V.sub [2, 3, 4, 5, 6] rfl ?_
      exact h_L_law__b2030 g k23 hk23 a1 a2 a3 x4
    · refine v_aload_n (pc' := 2019) 5 dL_law__2018 rfl rfl rfl ?_
      refine v_iconst (v := 0) (pc' := 2020) dL_law__2019 rfl rfl ?_
      refine v_lald (pc' := 2021) dL_law__2020 rfl fun w214 => ?_
      refine v_iload (pc' := 2023) 0 dL_law__2021 rfl rfl ?_
      refine v_i2l (pc' := 2024) dL_law__2023 rfl ?_
      refine v_lcmp (pc' := 2025) dL_law__2024 rfl ?_
      refine v_ifeq (t := 2030) (pc' := 2028) dL_law__2025 (by decide) rfl ?_ ?_
      · refine V.sub [2, 3, 4, 5, 6] rfl ?_
        exact h_L_law__b2030 g k23 hk23 a1 a2 a3 x4
      · refine v_iconst (v := 0) (pc' := 2029) dL_law__2028 rfl rfl ?_
        exact v_zret rfl rfl dL_law__2029
  · refine v_iconst (v := 0) (pc' := 2012) dL_law__2011 rfl rfl ?_
    exact v_zret rfl rfl dL_law__2012
set_option maxRecDepth 20000 in
theorem h_L_law__b2098 (g : GW) (k23 : Nat → Nat → Nat → Int32 → Mo Int32) (hk23 : ∀ a1 a2 a3 x4, V g mL_law_ 62 rtI 23 [(0, .ref (gS g).1), (1, rf g a1), (2, rf g a2), (3, rf g a3), (4, .int x4)] [] (k23 a1 a2 a3 x4)) (a1 : Nat) (a2 : Nat) (a3 : Nat) (x4 : Int32) : V g mL_law_ 62 rtI 2098 [(0, .ref (gS g).1), (1, rf g a1), (2, rf g a2), (3, rf g a3), (4, .int x4)] [] (f_L_law__b2098 g k23 a1 a2 a3 x4) := by
  unfold f_L_law__b2098
  refine v_goto (t := 2771) dL_law__2098 (by decide) ?_
  refine V.sub [0, 1, 2, 3, 4] rfl ?_
  exact h_L_law__b2771 g k23 hk23 a1 a2 a3 x4
set_option maxRecDepth 20000 in
theorem h_L_law__b2033 (g : GW) (k23 : Nat → Nat → Nat → Int32 → Mo Int32) (hk23 : ∀ a1 a2 a3 x4, V g mL_law_ 62 rtI 23 [(0, .ref (gS g).1), (1, rf g a1), (2, rf g a2), (3, rf g a3), (4, .int x4)] [] (k23 a1 a2 a3 x4)) (a1 : Nat) (a2 : Nat) (a3 : Nat) (x4 : Int32) : V g mL_law_ 62 rtI 2033 [(0, .ref (gS g).1), (1, rf g a1), (2, rf g a2), (3, rf g a3), (4, .int x4)] [] (f_L_law__b2033 g k23 a1 a2 a3 x4) := by
  unfold f_L_law__b2033
  refine v_aload_n (pc' := 2034) 1 dL_law__2033 rfl rfl rfl ?_
  refine v_aload_nX (pc' := 2035) 0 dL_law__2034 rfl rfl rfl ?_
  refine v_iload (pc' := 2037) 4 dL_law__2035 rfl rfl ?_
  refine v_iconst (v := 1) (pc' := 2038) dL_law__2037 rfl rfl ?_
  refine v_iadd (pc' := 2039) dL_law__2038 rfl ?_
  refine v_sld (pc' := 2040) dL_law__2039 rfl fun v215 => ?_
  refine v_aload_nX (pc' := 2041) 0 dL_law__2040 rfl rfl rfl ?_
  refine v_iload (pc' := 2043) 4 dL_law__2041 rfl rfl ?_
  refine v_iconst (v := 2) (pc' := 2044) dL_law__2043 rfl rfl ?_
  refine v_iadd (pc' := 2045) dL_law__2044 rfl ?_
  refine v_sld (pc' := 2046) dL_law__2045 rfl fun v216 => ?_
  refine v_aload_n (pc' := 2047) 3 dL_law__2046 rfl rfl rfl ?_
  refine v_callX (vs := [rf g a1, .int v215, .int v216, rf g a3]) (pc' := 2050) (h_L_chain g a1 v215 v216 a3) mx_L_chain wl_L_240 (Nat.le_of_ble_eq_true rfl) (by omega) (by decide) (Nat.le_of_ble_eq_true rfl) rfl dL_law__2047 rfl fun v217 => ?_
  refine v_istore (lv' := [(5, .int v217), (0, .ref (gS g).1), (1, rf g a1), (2, rf g a2), (3, rf g a3), (4, .int x4)]) (pc' := 2052) dL_law__2050 (by decide) rfl rfl ?_
  refine v_aload_n (pc' := 2053) 3 dL_law__2052 rfl rfl rfl ?_
  refine v_aload_nX (pc' := 2054) 1 dL_law__2053 rfl rfl rfl ?_
  refine v_iload (pc' := 2056) 5 dL_law__2054 rfl rfl ?_
  refine v_iconst (v := 1) (pc' := 2057) dL_law__2056 rfl rfl ?_
  refine v_iadd (pc' := 2058) dL_law__2057 rfl ?_
  refine v_sld (pc' := 2059) dL_law__2058 rfl fun v218 => ?_
  refine v_aload_nX (pc' := 2060) 1 dL_law__2059 rfl rfl rfl ?_
  refine v_iload (pc' := 2062) 5 dL_law__2060 rfl rfl ?_
  refine v_iconst (v := 2) (pc' := 2063) dL_law__2062 rfl rfl ?_
  refine v_iadd (pc' := 2064) dL_law__2063 rfl ?_
  refine v_sld (pc' := 2065) dL_law__2064 rfl fun v219 => ?_
  refine v_callV (vs := [.int v218, .int v219]) (pc' := 2068) (h_X12_chain g a2 v218 v219) mv_X12_chain wl_L_242 rfl (Nat.le_of_ble_eq_true rfl) (by omega) (by decide) (Nat.le_of_ble_eq_true rfl) rfl dL_law__2065 rfl fun v220 => ?_
  refine v_istore (lv' := [(6, .int v220), (5, .int v217), (0, .ref (gS g).1), (1, rf g a1), (2, rf g a2), (3, rf g a3), (4, .int x4)]) (pc' := 2070) dL_law__2068 (by decide) rfl rfl ?_
  refine v_aload_n (pc' := 2071) 4 dL_law__2070 rfl rfl rfl ?_
  refine v_callV (vs := []) (pc' := 2074) (h_X12_thrown g a2) mv_X12_thrown wl_L_136 rfl (Nat.le_of_ble_eq_true rfl) (by omega) (by decide) (Nat.le_of_ble_eq_true rfl) rfl dL_law__2071 rfl fun v221 => ?_
  refine v_iload (pc' := 2076) 1 dL_law__2074 rfl rfl ?_
  refine v_icmpeq (t := 2081) (pc' := 2079) dL_law__2076 (by decide) rfl ?_ ?_
  · refine v_iload (pc' := 2083) 1 dL_law__2081 rfl rfl ?_
    refine v_ifne (t := 2098) (pc' := 2086) dL_law__2083 (by decide) rfl ?_ ?_
    · refine V.sub [2, 3, 4, 5, 6] rfl ?_
      exact h_L_law__b2098 g k23 hk23 a1 a2 a3 x4
    · refine v_aload_n (pc' := 2087) 5 dL_law__2086 rfl rfl rfl ?_
      refine v_iconst (v := 0) (pc' := 2088) dL_law__2087 rfl rfl ?_
      refine v_lald (pc' := 2089) dL_law__2088 rfl fun w222 => ?_
      refine v_iload (pc' := 2091) 0 dL_law__2089 rfl rfl ?_
      refine v_i2l (pc' := 2092) dL_law__2091 rfl ?_
      refine v_lcmp (pc' := 2093) dL_law__2092 rfl ?_
      refine v_ifeq (t := 2098) (pc' := 2096) dL_law__2093 (by decide) rfl ?_ ?_
      · refine V.sub [2, 3, 4, 5, 6] rfl ?_
        exact h_L_law__b2098 g k23 hk23 a1 a2 a3 x4
      · refine v_iconst (v := 0) (pc' := 2097) dL_law__2096 rfl rfl ?_
        exact v_zret rfl rfl dL_law__2097
  · refine v_iconst (v := 0) (pc' := 2080) dL_law__2079 rfl rfl ?_
    exact v_zret rfl rfl dL_law__2080
set_option maxRecDepth 20000 in
theorem h_L_law__b2166 (g : GW) (k23 : Nat → Nat → Nat → Int32 → Mo Int32) (hk23 : ∀ a1 a2 a3 x4, V g mL_law_ 62 rtI 23 [(0, .ref (gS g).1), (1, rf g a1), (2, rf g a2), (3, rf g a3), (4, .int x4)] [] (k23 a1 a2 a3 x4)) (a1 : Nat) (a2 : Nat) (a3 : Nat) (x4 : Int32) : V g mL_law_ 62 rtI 2166 [(0, .ref (gS g).1), (1, rf g a1), (2, rf g a2), (3, rf g a3), (4, .int x4)] [] (f_L_law__b2166 g k23 a1 a2 a3 x4) := by
  unfold f_L_law__b2166
  refine v_goto (t := 2771) dL_law__2166 (by decide) ?_
  refine V.sub [0, 1, 2, 3, 4] rfl ?_
  exact h_L_law__b2771 g k23 hk23 a1 a2 a3 x4
set_option maxRecDepth 20000 in
theorem h_L_law__b2101 (g : GW) (k23 : Nat → Nat → Nat → Int32 → Mo Int32) (hk23 : ∀ a1 a2 a3 x4, V g mL_law_ 62 rtI 23 [(0, .ref (gS g).1), (1, rf g a1), (2, rf g a2), (3, rf g a3), (4, .int x4)] [] (k23 a1 a2 a3 x4)) (a1 : Nat) (a2 : Nat) (a3 : Nat) (x4 : Int32) : V g mL_law_ 62 rtI 2101 [(0, .ref (gS g).1), (1, rf g a1), (2, rf g a2), (3, rf g a3), (4, .int x4)] [] (f_L_law__b2101 g k23 a1 a2 a3 x4) := by
  unfold f_L_law__b2101
  refine v_aload_n (pc' := 2102) 1 dL_law__2101 rfl rfl rfl ?_
  refine v_aload_nX (pc' := 2103) 0 dL_law__2102 rfl rfl rfl ?_
  refine v_iload (pc' := 2105) 4 dL_law__2103 rfl rfl ?_
  refine v_iconst (v := 1) (pc' := 2106) dL_law__2105 rfl rfl ?_
  refine v_iadd (pc' := 2107) dL_law__2106 rfl ?_
  refine v_sld (pc' := 2108) dL_law__2107 rfl fun v223 => ?_
  refine v_aload_nX (pc' := 2109) 0 dL_law__2108 rfl rfl rfl ?_
  refine v_iload (pc' := 2111) 4 dL_law__2109 rfl rfl ?_
  refine v_iconst (v := 2) (pc' := 2112) dL_law__2111 rfl rfl ?_
  refine v_iadd (pc' := 2113) dL_law__2112 rfl ?_
  refine v_sld (pc' := 2114) dL_law__2113 rfl fun v224 => ?_
  refine v_aload_n (pc' := 2115) 3 dL_law__2114 rfl rfl rfl ?_
  refine v_callX (vs := [rf g a1, .int v223, .int v224, rf g a3]) (pc' := 2118) (h_L_looks g a1 v223 v224 a3) mx_L_looks wl_L_243 (Nat.le_of_ble_eq_true rfl) (by omega) (by decide) (Nat.le_of_ble_eq_true rfl) rfl dL_law__2115 rfl fun v225 => ?_
  refine v_istore (lv' := [(5, .int v225), (0, .ref (gS g).1), (1, rf g a1), (2, rf g a2), (3, rf g a3), (4, .int x4)]) (pc' := 2120) dL_law__2118 (by decide) rfl rfl ?_
  refine v_aload_n (pc' := 2121) 3 dL_law__2120 rfl rfl rfl ?_
  refine v_aload_nX (pc' := 2122) 1 dL_law__2121 rfl rfl rfl ?_
  refine v_iload (pc' := 2124) 5 dL_law__2122 rfl rfl ?_
  refine v_iconst (v := 1) (pc' := 2125) dL_law__2124 rfl rfl ?_
  refine v_iadd (pc' := 2126) dL_law__2125 rfl ?_
  refine v_sld (pc' := 2127) dL_law__2126 rfl fun v226 => ?_
  refine v_aload_nX (pc' := 2128) 1 dL_law__2127 rfl rfl rfl ?_
  refine v_iload (pc' := 2130) 5 dL_law__2128 rfl rfl ?_
  refine v_iconst (v := 2) (pc' := 2131) dL_law__2130 rfl rfl ?_
  refine v_iadd (pc' := 2132) dL_law__2131 rfl ?_
  refine v_sld (pc' := 2133) dL_law__2132 rfl fun v227 => ?_
  refine v_callV (vs := [.int v226, .int v227]) (pc' := 2136) (h_X12_looks g a2 v226 v227) mv_X12_looks wl_L_245 rfl (Nat.le_of_ble_eq_true rfl) (by omega) (by decide) (Nat.le_of_ble_eq_true rfl) rfl dL_law__2133 rfl fun v228 => ?_
  refine v_istore (lv' := [(6, .int v228), (5, .int v225), (0, .ref (gS g).1), (1, rf g a1), (2, rf g a2), (3, rf g a3), (4, .int x4)]) (pc' := 2138) dL_law__2136 (by decide) rfl rfl ?_
  refine v_aload_n (pc' := 2139) 4 dL_law__2138 rfl rfl rfl ?_
  refine v_callV (vs := []) (pc' := 2142) (h_X12_thrown g a2) mv_X12_thrown wl_L_136 rfl (Nat.le_of_ble_eq_true rfl) (by omega) (by decide) (Nat.le_of_ble_eq_true rfl) rfl dL_law__2139 rfl fun v229 => ?_
  refine v_iload (pc' := 2144) 1 dL_law__2142 rfl rfl ?_
  refine v_icmpeq (t := 2149) (pc' := 2147) dL_law__2144 (by decide) rfl ?_ ?_
  · refine v_iload (pc' := 2151) 1 dL_law__2149 rfl rfl ?_
    refine v_ifne (t := 2166) (pc' := 2154) dL_law__2151 (by decide) rfl ?_ ?_
    · refine V.sub [2, 3, 4, 5, 6] rfl ?_
      exact h_L_law__b2166 g k23 hk23 a1 a2 a3 x4
    · refine v_aload_n (pc' := 2155) 5 dL_law__2154 rfl rfl rfl ?_
      refine v_iconst (v := 0) (pc' := 2156) dL_law__2155 rfl rfl ?_
      refine v_lald (pc' := 2157) dL_law__2156 rfl fun w230 => ?_
      refine v_iload (pc' := 2159) 0 dL_law__2157 rfl rfl ?_
      refine v_i2l (pc' := 2160) dL_law__2159 rfl ?_
      refine v_lcmp (pc' := 2161) dL_law__2160 rfl ?_
      refine v_ifeq (t := 2166) (pc' := 2164) dL_law__2161 (by decide) rfl ?_ ?_
      · refine V.sub [2, 3, 4, 5, 6] rfl ?_
        exact h_L_law__b2166 g k23 hk23 a1 a2 a3 x4
      · refine v_iconst (v := 0) (pc' := 2165) dL_law__2164 rfl rfl ?_
        exact v_zret rfl rfl dL_law__2165
  · refine v_iconst (v := 0) (pc' := 2148) dL_law__2147 rfl rfl ?_
    exact v_zret rfl rfl dL_law__2148
set_option maxRecDepth 20000 in
theorem h_L_law__b2234 (g : GW) (k23 : Nat → Nat → Nat → Int32 → Mo Int32) (hk23 : ∀ a1 a2 a3 x4, V g mL_law_ 62 rtI 23 [(0, .ref (gS g).1), (1, rf g a1), (2, rf g a2), (3, rf g a3), (4, .int x4)] [] (k23 a1 a2 a3 x4)) (a1 : Nat) (a2 : Nat) (a3 : Nat) (x4 : Int32) : V g mL_law_ 62 rtI 2234 [(0, .ref (gS g).1), (1, rf g a1), (2, rf g a2), (3, rf g a3), (4, .int x4)] [] (f_L_law__b2234 g k23 a1 a2 a3 x4) := by
  unfold f_L_law__b2234
  refine v_goto (t := 2771) dL_law__2234 (by decide) ?_
  refine V.sub [0, 1, 2, 3, 4] rfl ?_
  exact h_L_law__b2771 g k23 hk23 a1 a2 a3 x4
set_option maxRecDepth 20000 in
theorem h_L_law__b2169 (g : GW) (k23 : Nat → Nat → Nat → Int32 → Mo Int32) (hk23 : ∀ a1 a2 a3 x4, V g mL_law_ 62 rtI 23 [(0, .ref (gS g).1), (1, rf g a1), (2, rf g a2), (3, rf g a3), (4, .int x4)] [] (k23 a1 a2 a3 x4)) (a1 : Nat) (a2 : Nat) (a3 : Nat) (x4 : Int32) : V g mL_law_ 62 rtI 2169 [(0, .ref (gS g).1), (1, rf g a1), (2, rf g a2), (3, rf g a3), (4, .int x4)] [] (f_L_law__b2169 g k23 a1 a2 a3 x4) := by
  unfold f_L_law__b2169
  refine v_aload_n (pc' := 2170) 1 dL_law__2169 rfl rfl rfl ?_
  refine v_aload_nX (pc' := 2171) 0 dL_law__2170 rfl rfl rfl ?_
  refine v_iload (pc' := 2173) 4 dL_law__2171 rfl rfl ?_
  refine v_iconst (v := 1) (pc' := 2174) dL_law__2173 rfl rfl ?_
  refine v_iadd (pc' := 2175) dL_law__2174 rfl ?_
  refine v_sld (pc' := 2176) dL_law__2175 rfl fun v231 => ?_
  refine v_aload_nX (pc' := 2177) 0 dL_law__2176 rfl rfl rfl ?_
  refine v_iload (pc' := 2179) 4 dL_law__2177 rfl rfl ?_
  refine v_iconst (v := 2) (pc' := 2180) dL_law__2179 rfl rfl ?_
  refine v_iadd (pc' := 2181) dL_law__2180 rfl ?_
  refine v_sld (pc' := 2182) dL_law__2181 rfl fun v232 => ?_
  refine v_aload_n (pc' := 2183) 3 dL_law__2182 rfl rfl rfl ?_
  refine v_callX (vs := [rf g a1, .int v231, .int v232, rf g a3]) (pc' := 2186) (h_L_cheapest g a1 v231 v232 a3) mx_L_cheapest wl_L_246 (Nat.le_of_ble_eq_true rfl) (by omega) (by decide) (Nat.le_of_ble_eq_true rfl) rfl dL_law__2183 rfl fun v233 => ?_
  refine v_istore (lv' := [(5, .int v233), (0, .ref (gS g).1), (1, rf g a1), (2, rf g a2), (3, rf g a3), (4, .int x4)]) (pc' := 2188) dL_law__2186 (by decide) rfl rfl ?_
  refine v_aload_n (pc' := 2189) 3 dL_law__2188 rfl rfl rfl ?_
  refine v_aload_nX (pc' := 2190) 1 dL_law__2189 rfl rfl rfl ?_
  refine v_iload (pc' := 2192) 5 dL_law__2190 rfl rfl ?_
  refine v_iconst (v := 1) (pc' := 2193) dL_law__2192 rfl rfl ?_
  refine v_iadd (pc' := 2194) dL_law__2193 rfl ?_
  refine v_sld (pc' := 2195) dL_law__2194 rfl fun v234 => ?_
  refine v_aload_nX (pc' := 2196) 1 dL_law__2195 rfl rfl rfl ?_
  refine v_iload (pc' := 2198) 5 dL_law__2196 rfl rfl ?_
  refine v_iconst (v := 2) (pc' := 2199) dL_law__2198 rfl rfl ?_
  refine v_iadd (pc' := 2200) dL_law__2199 rfl ?_
  refine v_sld (pc' := 2201) dL_law__2200 rfl fun v235 => ?_
  refine v_callV (vs := [.int v234, .int v235]) (pc' := 2204) (h_X12_cheapest g a2 v234 v235) mv_X12_cheapest wl_L_248 rfl (Nat.le_of_ble_eq_true rfl) (by omega) (by decide) (Nat.le_of_ble_eq_true rfl) rfl dL_law__2201 rfl fun v236 => ?_
  refine v_istore (lv' := [(6, .int v236), (5, .int v233), (0, .ref (gS g).1), (1, rf g a1), (2, rf g a2), (3, rf g a3), (4, .int x4)]) (pc' := 2206) dL_law__2204 (by decide) rfl rfl ?_
  refine v_aload_n (pc' := 2207) 4 dL_law__2206 rfl rfl rfl ?_
  refine v_callV (vs := []) (pc' := 2210) (h_X12_thrown g a2) mv_X12_thrown wl_L_136 rfl (Nat.le_of_ble_eq_true rfl) (by omega) (by decide) (Nat.le_of_ble_eq_true rfl) rfl dL_law__2207 rfl fun v237 => ?_
  refine v_iload (pc' := 2212) 1 dL_law__2210 rfl rfl ?_
  refine v_icmpeq (t := 2217) (pc' := 2215) dL_law__2212 (by decide) rfl ?_ ?_
  · refine v_iload (pc' := 2219) 1 dL_law__2217 rfl rfl ?_
    refine v_ifne (t := 2234) (pc' := 2222) dL_law__2219 (by decide) rfl ?_ ?_
    · refine V.sub [2, 3, 4, 5, 6] rfl ?_
      exact h_L_law__b2234 g k23 hk23 a1 a2 a3 x4
    · refine v_aload_n (pc' := 2223) 5 dL_law__2222 rfl rfl rfl ?_
      refine v_iconst (v := 0) (pc' := 2224) dL_law__2223 rfl rfl ?_
      refine v_lald (pc' := 2225) dL_law__2224 rfl fun w238 => ?_
      refine v_iload (pc' := 2227) 0 dL_law__2225 rfl rfl ?_
      refine v_i2l (pc' := 2228) dL_law__2227 rfl ?_
      refine v_lcmp (pc' := 2229) dL_law__2228 rfl ?_
      refine v_ifeq (t := 2234) (pc' := 2232) dL_law__2229 (by decide) rfl ?_ ?_
      · refine V.sub [2, 3, 4, 5, 6] rfl ?_
        exact h_L_law__b2234 g k23 hk23 a1 a2 a3 x4
      · refine v_iconst (v := 0) (pc' := 2233) dL_law__2232 rfl rfl ?_
        exact v_zret rfl rfl dL_law__2233
  · refine v_iconst (v := 0) (pc' := 2216) dL_law__2215 rfl rfl ?_
    exact v_zret rfl rfl dL_law__2216
set_option maxRecDepth 20000 in
theorem h_L_law__b2290 (g : GW) (k23 : Nat → Nat → Nat → Int32 → Mo Int32) (hk23 : ∀ a1 a2 a3 x4, V g mL_law_ 62 rtI 23 [(0, .ref (gS g).1), (1, rf g a1), (2, rf g a2), (3, rf g a3), (4, .int x4)] [] (k23 a1 a2 a3 x4)) (a1 : Nat) (a2 : Nat) (a3 : Nat) (x4 : Int32) : V g mL_law_ 62 rtI 2290 [(0, .ref (gS g).1), (1, rf g a1), (2, rf g a2), (3, rf g a3), (4, .int x4)] [] (f_L_law__b2290 g k23 a1 a2 a3 x4) := by
  unfold f_L_law__b2290
  refine v_goto (t := 2771) dL_law__2290 (by decide) ?_
  refine V.sub [0, 1, 2, 3, 4] rfl ?_
  exact h_L_law__b2771 g k23 hk23 a1 a2 a3 x4
set_option maxRecDepth 20000 in
theorem h_L_law__b2237 (g : GW) (k23 : Nat → Nat → Nat → Int32 → Mo Int32) (hk23 : ∀ a1 a2 a3 x4, V g mL_law_ 62 rtI 23 [(0, .ref (gS g).1), (1, rf g a1), (2, rf g a2), (3, rf g a3), (4, .int x4)] [] (k23 a1 a2 a3 x4)) (a1 : Nat) (a2 : Nat) (a3 : Nat) (x4 : Int32) : V g mL_law_ 62 rtI 2237 [(0, .ref (gS g).1), (1, rf g a1), (2, rf g a2), (3, rf g a3), (4, .int x4)] [] (f_L_law__b2237 g k23 a1 a2 a3 x4) := by
  unfold f_L_law__b2237
  refine v_aload_n (pc' := 2238) 1 dL_law__2237 rfl rfl rfl ?_
  refine v_aload_nX (pc' := 2239) 0 dL_law__2238 rfl rfl rfl ?_
  refine v_iload (pc' := 2241) 4 dL_law__2239 rfl rfl ?_
  refine v_iconst (v := 1) (pc' := 2242) dL_law__2241 rfl rfl ?_
  refine v_iadd (pc' := 2243) dL_law__2242 rfl ?_
  refine v_sld (pc' := 2244) dL_law__2243 rfl fun v239 => ?_
  refine v_aload_n (pc' := 2245) 3 dL_law__2244 rfl rfl rfl ?_
  refine v_callX (vs := [rf g a1, .int v239, rf g a3]) (pc' := 2248) (h_L_common g a1 v239 a3) mx_L_common wl_L_249 (Nat.le_of_ble_eq_true rfl) (by omega) (by decide) (Nat.le_of_ble_eq_true rfl) rfl dL_law__2245 rfl fun v240 => ?_
  refine v_istore (lv' := [(5, .int v240), (0, .ref (gS g).1), (1, rf g a1), (2, rf g a2), (3, rf g a3), (4, .int x4)]) (pc' := 2250) dL_law__2248 (by decide) rfl rfl ?_
  refine v_aload_n (pc' := 2251) 3 dL_law__2250 rfl rfl rfl ?_
  refine v_aload_nX (pc' := 2252) 1 dL_law__2251 rfl rfl rfl ?_
  refine v_iload (pc' := 2254) 5 dL_law__2252 rfl rfl ?_
  refine v_iconst (v := 1) (pc' := 2255) dL_law__2254 rfl rfl ?_
  refine v_iadd (pc' := 2256) dL_law__2255 rfl ?_
  refine v_sld (pc' := 2257) dL_law__2256 rfl fun v241 => ?_
  refine v_callV (vs := [.int v241]) (pc' := 2260) (h_X12_common g a2 v241) mv_X12_common wl_L_251 rfl (Nat.le_of_ble_eq_true rfl) (by omega) (by decide) (Nat.le_of_ble_eq_true rfl) rfl dL_law__2257 rfl fun v242 => ?_
  refine v_istore (lv' := [(6, .int v242), (5, .int v240), (0, .ref (gS g).1), (1, rf g a1), (2, rf g a2), (3, rf g a3), (4, .int x4)]) (pc' := 2262) dL_law__2260 (by decide) rfl rfl ?_
  refine v_aload_n (pc' := 2263) 4 dL_law__2262 rfl rfl rfl ?_
  refine v_callV (vs := []) (pc' := 2266) (h_X12_thrown g a2) mv_X12_thrown wl_L_136 rfl (Nat.le_of_ble_eq_true rfl) (by omega) (by decide) (Nat.le_of_ble_eq_true rfl) rfl dL_law__2263 rfl fun v243 => ?_
  refine v_iload (pc' := 2268) 1 dL_law__2266 rfl rfl ?_
  refine v_icmpeq (t := 2273) (pc' := 2271) dL_law__2268 (by decide) rfl ?_ ?_
  · refine v_iload (pc' := 2275) 1 dL_law__2273 rfl rfl ?_
    refine v_ifne (t := 2290) (pc' := 2278) dL_law__2275 (by decide) rfl ?_ ?_
    · refine V.sub [2, 3, 4, 5, 6] rfl ?_
      exact h_L_law__b2290 g k23 hk23 a1 a2 a3 x4
    · refine v_aload_n (pc' := 2279) 5 dL_law__2278 rfl rfl rfl ?_
      refine v_iconst (v := 0) (pc' := 2280) dL_law__2279 rfl rfl ?_
      refine v_lald (pc' := 2281) dL_law__2280 rfl fun w244 => ?_
      refine v_iload (pc' := 2283) 0 dL_law__2281 rfl rfl ?_
      refine v_i2l (pc' := 2284) dL_law__2283 rfl ?_
      refine v_lcmp (pc' := 2285) dL_law__2284 rfl ?_
      refine v_ifeq (t := 2290) (pc' := 2288) dL_law__2285 (by decide) rfl ?_ ?_
      · refine V.sub [2, 3, 4, 5, 6] rfl ?_
        exact h_L_law__b2290 g k23 hk23 a1 a2 a3 x4
      · refine v_iconst (v := 0) (pc' := 2289) dL_law__2288 rfl rfl ?_
        exact v_zret rfl rfl dL_law__2289
  · refine v_iconst (v := 0) (pc' := 2272) dL_law__2271 rfl rfl ?_
    exact v_zret rfl rfl dL_law__2272
set_option maxRecDepth 20000 in
theorem h_L_law__b2358 (g : GW) (k23 : Nat → Nat → Nat → Int32 → Mo Int32) (hk23 : ∀ a1 a2 a3 x4, V g mL_law_ 62 rtI 23 [(0, .ref (gS g).1), (1, rf g a1), (2, rf g a2), (3, rf g a3), (4, .int x4)] [] (k23 a1 a2 a3 x4)) (a1 : Nat) (a2 : Nat) (a3 : Nat) (x4 : Int32) : V g mL_law_ 62 rtI 2358 [(0, .ref (gS g).1), (1, rf g a1), (2, rf g a2), (3, rf g a3), (4, .int x4)] [] (f_L_law__b2358 g k23 a1 a2 a3 x4) := by
  unfold f_L_law__b2358
  refine v_goto (t := 2771) dL_law__2358 (by decide) ?_
  refine V.sub [0, 1, 2, 3, 4] rfl ?_
  exact h_L_law__b2771 g k23 hk23 a1 a2 a3 x4
set_option maxRecDepth 20000 in
theorem h_L_law__b2293 (g : GW) (k23 : Nat → Nat → Nat → Int32 → Mo Int32) (hk23 : ∀ a1 a2 a3 x4, V g mL_law_ 62 rtI 23 [(0, .ref (gS g).1), (1, rf g a1), (2, rf g a2), (3, rf g a3), (4, .int x4)] [] (k23 a1 a2 a3 x4)) (a1 : Nat) (a2 : Nat) (a3 : Nat) (x4 : Int32) : V g mL_law_ 62 rtI 2293 [(0, .ref (gS g).1), (1, rf g a1), (2, rf g a2), (3, rf g a3), (4, .int x4)] [] (f_L_law__b2293 g k23 a1 a2 a3 x4) := by
  unfold f_L_law__b2293
  refine v_aload_n (pc' := 2294) 1 dL_law__2293 rfl rfl rfl ?_
  refine v_aload_nX (pc' := 2295) 0 dL_law__2294 rfl rfl rfl ?_
  refine v_iload (pc' := 2297) 4 dL_law__2295 rfl rfl ?_
  refine v_iconst (v := 1) (pc' := 2298) dL_law__2297 rfl rfl ?_
  refine v_iadd (pc' := 2299) dL_law__2298 rfl ?_
  refine v_sld (pc' := 2300) dL_law__2299 rfl fun v245 => ?_
  refine v_aload_nX (pc' := 2301) 0 dL_law__2300 rfl rfl rfl ?_
  refine v_iload (pc' := 2303) 4 dL_law__2301 rfl rfl ?_
  refine v_iconst (v := 2) (pc' := 2304) dL_law__2303 rfl rfl ?_
  refine v_iadd (pc' := 2305) dL_law__2304 rfl ?_
  refine v_sld (pc' := 2306) dL_law__2305 rfl fun v246 => ?_
  refine v_aload_n (pc' := 2307) 3 dL_law__2306 rfl rfl rfl ?_
  refine v_callX (vs := [rf g a1, .int v245, .int v246, rf g a3]) (pc' := 2310) (h_L_moodFor g a1 v245 v246 a3) mx_L_moodFor wl_L_252 (Nat.le_of_ble_eq_true rfl) (by omega) (by decide) (Nat.le_of_ble_eq_true rfl) rfl dL_law__2307 rfl fun v247 => ?_
  refine v_istore (lv' := [(5, .int v247), (0, .ref (gS g).1), (1, rf g a1), (2, rf g a2), (3, rf g a3), (4, .int x4)]) (pc' := 2312) dL_law__2310 (by decide) rfl rfl ?_
  refine v_aload_n (pc' := 2313) 3 dL_law__2312 rfl rfl rfl ?_
  refine v_aload_nX (pc' := 2314) 1 dL_law__2313 rfl rfl rfl ?_
  refine v_iload (pc' := 2316) 5 dL_law__2314 rfl rfl ?_
  refine v_iconst (v := 1) (pc' := 2317) dL_law__2316 rfl rfl ?_
  refine v_iadd (pc' := 2318) dL_law__2317 rfl ?_
  refine v_sld (pc' := 2319) dL_law__2318 rfl fun v248 => ?_
  refine v_aload_nX (pc' := 2320) 1 dL_law__2319 rfl rfl rfl ?_
  refine v_iload (pc' := 2322) 5 dL_law__2320 rfl rfl ?_
  refine v_iconst (v := 2) (pc' := 2323) dL_law__2322 rfl rfl ?_
  refine v_iadd (pc' := 2324) dL_law__2323 rfl ?_
  refine v_sld (pc' := 2325) dL_law__2324 rfl fun v249 => ?_
  refine v_callV (vs := [.int v248, .int v249]) (pc' := 2328) (h_X12_moodFor g a2 v248 v249) mv_X12_moodFor wl_L_254 rfl (Nat.le_of_ble_eq_true rfl) (by omega) (by decide) (Nat.le_of_ble_eq_true rfl) rfl dL_law__2325 rfl fun v250 => ?_
  refine v_istore (lv' := [(6, .int v250), (5, .int v247), (0, .ref (gS g).1), (1, rf g a1), (2, rf g a2), (3, rf g a3), (4, .int x4)]) (pc' := 2330) dL_law__2328 (by decide) rfl rfl ?_
  refine v_aload_n (pc' := 2331) 4 dL_law__2330 rfl rfl rfl ?_
  refine v_callV (vs := []) (pc' := 2334) (h_X12_thrown g a2) mv_X12_thrown wl_L_136 rfl (Nat.le_of_ble_eq_true rfl) (by omega) (by decide) (Nat.le_of_ble_eq_true rfl) rfl dL_law__2331 rfl fun v251 => ?_
  refine v_iload (pc' := 2336) 1 dL_law__2334 rfl rfl ?_
  refine v_icmpeq (t := 2341) (pc' := 2339) dL_law__2336 (by decide) rfl ?_ ?_
  · refine v_iload (pc' := 2343) 1 dL_law__2341 rfl rfl ?_
    refine v_ifne (t := 2358) (pc' := 2346) dL_law__2343 (by decide) rfl ?_ ?_
    · refine V.sub [2, 3, 4, 5, 6] rfl ?_
      exact h_L_law__b2358 g k23 hk23 a1 a2 a3 x4
    · refine v_aload_n (pc' := 2347) 5 dL_law__2346 rfl rfl rfl ?_
      refine v_iconst (v := 0) (pc' := 2348) dL_law__2347 rfl rfl ?_
      refine v_lald (pc' := 2349) dL_law__2348 rfl fun w252 => ?_
      refine v_iload (pc' := 2351) 0 dL_law__2349 rfl rfl ?_
      refine v_i2l (pc' := 2352) dL_law__2351 rfl ?_
      refine v_lcmp (pc' := 2353) dL_law__2352 rfl ?_
      refine v_ifeq (t := 2358) (pc' := 2356) dL_law__2353 (by decide) rfl ?_ ?_
      · refine V.sub [2, 3, 4, 5, 6] rfl ?_
        exact h_L_law__b2358 g k23 hk23 a1 a2 a3 x4
      · refine v_iconst (v := 0) (pc' := 2357) dL_law__2356 rfl rfl ?_
        exact v_zret rfl rfl dL_law__2357
  · refine v_iconst (v := 0) (pc' := 2340) dL_law__2339 rfl rfl ?_
    exact v_zret rfl rfl dL_law__2340
set_option maxRecDepth 20000 in
theorem h_L_law__b2414 (g : GW) (k23 : Nat → Nat → Nat → Int32 → Mo Int32) (hk23 : ∀ a1 a2 a3 x4, V g mL_law_ 62 rtI 23 [(0, .ref (gS g).1), (1, rf g a1), (2, rf g a2), (3, rf g a3), (4, .int x4)] [] (k23 a1 a2 a3 x4)) (a1 : Nat) (a2 : Nat) (a3 : Nat) (x4 : Int32) : V g mL_law_ 62 rtI 2414 [(0, .ref (gS g).1), (1, rf g a1), (2, rf g a2), (3, rf g a3), (4, .int x4)] [] (f_L_law__b2414 g k23 a1 a2 a3 x4) := by
  unfold f_L_law__b2414
  refine v_goto (t := 2771) dL_law__2414 (by decide) ?_
  refine V.sub [0, 1, 2, 3, 4] rfl ?_
  exact h_L_law__b2771 g k23 hk23 a1 a2 a3 x4
set_option maxRecDepth 20000 in
theorem h_L_law__b2361 (g : GW) (k23 : Nat → Nat → Nat → Int32 → Mo Int32) (hk23 : ∀ a1 a2 a3 x4, V g mL_law_ 62 rtI 23 [(0, .ref (gS g).1), (1, rf g a1), (2, rf g a2), (3, rf g a3), (4, .int x4)] [] (k23 a1 a2 a3 x4)) (a1 : Nat) (a2 : Nat) (a3 : Nat) (x4 : Int32) : V g mL_law_ 62 rtI 2361 [(0, .ref (gS g).1), (1, rf g a1), (2, rf g a2), (3, rf g a3), (4, .int x4)] [] (f_L_law__b2361 g k23 a1 a2 a3 x4) := by
  unfold f_L_law__b2361
  refine v_aload_n (pc' := 2362) 1 dL_law__2361 rfl rfl rfl ?_
  refine v_aload_nX (pc' := 2363) 0 dL_law__2362 rfl rfl rfl ?_
  refine v_iload (pc' := 2365) 4 dL_law__2363 rfl rfl ?_
  refine v_iconst (v := 1) (pc' := 2366) dL_law__2365 rfl rfl ?_
  refine v_iadd (pc' := 2367) dL_law__2366 rfl ?_
  refine v_sld (pc' := 2368) dL_law__2367 rfl fun v253 => ?_
  refine v_aload_n (pc' := 2369) 3 dL_law__2368 rfl rfl rfl ?_
  refine v_callX (vs := [rf g a1, .int v253, rf g a3]) (pc' := 2372) (h_L_lost g a1 v253 a3) mx_L_lost wl_L_255 (Nat.le_of_ble_eq_true rfl) (by omega) (by decide) (Nat.le_of_ble_eq_true rfl) rfl dL_law__2369 rfl fun v254 => ?_
  refine v_istore (lv' := [(5, .int v254), (0, .ref (gS g).1), (1, rf g a1), (2, rf g a2), (3, rf g a3), (4, .int x4)]) (pc' := 2374) dL_law__2372 (by decide) rfl rfl ?_
  refine v_aload_n (pc' := 2375) 3 dL_law__2374 rfl rfl rfl ?_
  refine v_aload_nX (pc' := 2376) 1 dL_law__2375 rfl rfl rfl ?_
  refine v_iload (pc' := 2378) 5 dL_law__2376 rfl rfl ?_
  refine v_iconst (v := 1) (pc' := 2379) dL_law__2378 rfl rfl ?_
  refine v_iadd (pc' := 2380) dL_law__2379 rfl ?_
  refine v_sld (pc' := 2381) dL_law__2380 rfl fun v255 => ?_
  refine v_callV (vs := [.int v255]) (pc' := 2384) (h_X12_lost g a2 v255) mv_X12_lost wl_L_257 rfl (Nat.le_of_ble_eq_true rfl) (by omega) (by decide) (Nat.le_of_ble_eq_true rfl) rfl dL_law__2381 rfl fun v256 => ?_
  refine v_istore (lv' := [(6, .int v256), (5, .int v254), (0, .ref (gS g).1), (1, rf g a1), (2, rf g a2), (3, rf g a3), (4, .int x4)]) (pc' := 2386) dL_law__2384 (by decide) rfl rfl ?_
  refine v_aload_n (pc' := 2387) 4 dL_law__2386 rfl rfl rfl ?_
  refine v_callV (vs := []) (pc' := 2390) (h_X12_thrown g a2) mv_X12_thrown wl_L_136 rfl (Nat.le_of_ble_eq_true rfl) (by omega) (by decide) (Nat.le_of_ble_eq_true rfl) rfl dL_law__2387 rfl fun v257 => ?_
  refine v_iload (pc' := 2392) 1 dL_law__2390 rfl rfl ?_
  refine v_icmpeq (t := 2397) (pc' := 2395) dL_law__2392 (by decide) rfl ?_ ?_
  · refine v_iload (pc' := 2399) 1 dL_law__2397 rfl rfl ?_
    refine v_ifne (t := 2414) (pc' := 2402) dL_law__2399 (by decide) rfl ?_ ?_
    · refine V.sub [2, 3, 4, 5, 6] rfl ?_
      exact h_L_law__b2414 g k23 hk23 a1 a2 a3 x4
    · refine v_aload_n (pc' := 2403) 5 dL_law__2402 rfl rfl rfl ?_
      refine v_iconst (v := 0) (pc' := 2404) dL_law__2403 rfl rfl ?_
      refine v_lald (pc' := 2405) dL_law__2404 rfl fun w258 => ?_
      refine v_iload (pc' := 2407) 0 dL_law__2405 rfl rfl ?_
      refine v_i2l (pc' := 2408) dL_law__2407 rfl ?_
      refine v_lcmp (pc' := 2409) dL_law__2408 rfl ?_
      refine v_ifeq (t := 2414) (pc' := 2412) dL_law__2409 (by decide) rfl ?_ ?_
      · refine V.sub [2, 3, 4, 5, 6] rfl ?_
        exact h_L_law__b2414 g k23 hk23 a1 a2 a3 x4
      · refine v_iconst (v := 0) (pc' := 2413) dL_law__2412 rfl rfl ?_
        exact v_zret rfl rfl dL_law__2413
  · refine v_iconst (v := 0) (pc' := 2396) dL_law__2395 rfl rfl ?_
    exact v_zret rfl rfl dL_law__2396
set_option maxRecDepth 20000 in
theorem h_L_law__b2482 (g : GW) (k23 : Nat → Nat → Nat → Int32 → Mo Int32) (hk23 : ∀ a1 a2 a3 x4, V g mL_law_ 62 rtI 23 [(0, .ref (gS g).1), (1, rf g a1), (2, rf g a2), (3, rf g a3), (4, .int x4)] [] (k23 a1 a2 a3 x4)) (a1 : Nat) (a2 : Nat) (a3 : Nat) (x4 : Int32) : V g mL_law_ 62 rtI 2482 [(0, .ref (gS g).1), (1, rf g a1), (2, rf g a2), (3, rf g a3), (4, .int x4)] [] (f_L_law__b2482 g k23 a1 a2 a3 x4) := by
  unfold f_L_law__b2482
  refine v_goto (t := 2771) dL_law__2482 (by decide) ?_
  refine V.sub [0, 1, 2, 3, 4] rfl ?_
  exact h_L_law__b2771 g k23 hk23 a1 a2 a3 x4
set_option maxRecDepth 20000 in
theorem h_L_law__b2417 (g : GW) (k23 : Nat → Nat → Nat → Int32 → Mo Int32) (hk23 : ∀ a1 a2 a3 x4, V g mL_law_ 62 rtI 23 [(0, .ref (gS g).1), (1, rf g a1), (2, rf g a2), (3, rf g a3), (4, .int x4)] [] (k23 a1 a2 a3 x4)) (a1 : Nat) (a2 : Nat) (a3 : Nat) (x4 : Int32) : V g mL_law_ 62 rtI 2417 [(0, .ref (gS g).1), (1, rf g a1), (2, rf g a2), (3, rf g a3), (4, .int x4)] [] (f_L_law__b2417 g k23 a1 a2 a3 x4) := by
  unfold f_L_law__b2417
  refine v_aload_n (pc' := 2418) 1 dL_law__2417 rfl rfl rfl ?_
  refine v_aload_nX (pc' := 2419) 0 dL_law__2418 rfl rfl rfl ?_
  refine v_iload (pc' := 2421) 4 dL_law__2419 rfl rfl ?_
  refine v_iconst (v := 1) (pc' := 2422) dL_law__2421 rfl rfl ?_
  refine v_iadd (pc' := 2423) dL_law__2422 rfl ?_
  refine v_sld (pc' := 2424) dL_law__2423 rfl fun v259 => ?_
  refine v_aload_nX (pc' := 2425) 0 dL_law__2424 rfl rfl rfl ?_
  refine v_iload (pc' := 2427) 4 dL_law__2425 rfl rfl ?_
  refine v_iconst (v := 2) (pc' := 2428) dL_law__2427 rfl rfl ?_
  refine v_iadd (pc' := 2429) dL_law__2428 rfl ?_
  refine v_sld (pc' := 2430) dL_law__2429 rfl fun v260 => ?_
  refine v_aload_n (pc' := 2431) 3 dL_law__2430 rfl rfl rfl ?_
  refine v_callX (vs := [rf g a1, .int v259, .int v260, rf g a3]) (pc' := 2434) (h_L_faces g a1 v259 v260 a3) mx_L_faces wl_L_258 (Nat.le_of_ble_eq_true rfl) (by omega) (by decide) (Nat.le_of_ble_eq_true rfl) rfl dL_law__2431 rfl fun v261 => ?_
  refine v_istore (lv' := [(5, .int v261), (0, .ref (gS g).1), (1, rf g a1), (2, rf g a2), (3, rf g a3), (4, .int x4)]) (pc' := 2436) dL_law__2434 (by decide) rfl rfl ?_
  refine v_aload_n (pc' := 2437) 3 dL_law__2436 rfl rfl rfl ?_
  refine v_aload_nX (pc' := 2438) 1 dL_law__2437 rfl rfl rfl ?_
  refine v_iload (pc' := 2440) 5 dL_law__2438 rfl rfl ?_
  refine v_iconst (v := 1) (pc' := 2441) dL_law__2440 rfl rfl ?_
  refine v_iadd (pc' := 2442) dL_law__2441 rfl ?_
  refine v_sld (pc' := 2443) dL_law__2442 rfl fun v262 => ?_
  refine v_aload_nX (pc' := 2444) 1 dL_law__2443 rfl rfl rfl ?_
  refine v_iload (pc' := 2446) 5 dL_law__2444 rfl rfl ?_
  refine v_iconst (v := 2) (pc' := 2447) dL_law__2446 rfl rfl ?_
  refine v_iadd (pc' := 2448) dL_law__2447 rfl ?_
  refine v_sld (pc' := 2449) dL_law__2448 rfl fun v263 => ?_
  refine v_callV (vs := [.int v262, .int v263]) (pc' := 2452) (h_X12_faces g a2 v262 v263) mv_X12_faces wl_L_260 rfl (Nat.le_of_ble_eq_true rfl) (by omega) (by decide) (Nat.le_of_ble_eq_true rfl) rfl dL_law__2449 rfl fun v264 => ?_
  refine v_istore (lv' := [(6, .int v264), (5, .int v261), (0, .ref (gS g).1), (1, rf g a1), (2, rf g a2), (3, rf g a3), (4, .int x4)]) (pc' := 2454) dL_law__2452 (by decide) rfl rfl ?_
  refine v_aload_n (pc' := 2455) 4 dL_law__2454 rfl rfl rfl ?_
  refine v_callV (vs := []) (pc' := 2458) (h_X12_thrown g a2) mv_X12_thrown wl_L_136 rfl (Nat.le_of_ble_eq_true rfl) (by omega) (by decide) (Nat.le_of_ble_eq_true rfl) rfl dL_law__2455 rfl fun v265 => ?_
  refine v_iload (pc' := 2460) 1 dL_law__2458 rfl rfl ?_
  refine v_icmpeq (t := 2465) (pc' := 2463) dL_law__2460 (by decide) rfl ?_ ?_
  · refine v_iload (pc' := 2467) 1 dL_law__2465 rfl rfl ?_
    refine v_ifne (t := 2482) (pc' := 2470) dL_law__2467 (by decide) rfl ?_ ?_
    · refine V.sub [2, 3, 4, 5, 6] rfl ?_
      exact h_L_law__b2482 g k23 hk23 a1 a2 a3 x4
    · refine v_aload_n (pc' := 2471) 5 dL_law__2470 rfl rfl rfl ?_
      refine v_iconst (v := 0) (pc' := 2472) dL_law__2471 rfl rfl ?_
      refine v_lald (pc' := 2473) dL_law__2472 rfl fun w266 => ?_
      refine v_iload (pc' := 2475) 0 dL_law__2473 rfl rfl ?_
      refine v_i2l (pc' := 2476) dL_law__2475 rfl ?_
      refine v_lcmp (pc' := 2477) dL_law__2476 rfl ?_
      refine v_ifeq (t := 2482) (pc' := 2480) dL_law__2477 (by decide) rfl ?_ ?_
      · refine V.sub [2, 3, 4, 5, 6] rfl ?_
        exact h_L_law__b2482 g k23 hk23 a1 a2 a3 x4
      · refine v_iconst (v := 0) (pc' := 2481) dL_law__2480 rfl rfl ?_
        exact v_zret rfl rfl dL_law__2481
  · refine v_iconst (v := 0) (pc' := 2464) dL_law__2463 rfl rfl ?_
    exact v_zret rfl rfl dL_law__2464
set_option maxRecDepth 20000 in
theorem h_L_law__b2574 (g : GW) (k23 : Nat → Nat → Nat → Int32 → Mo Int32) (hk23 : ∀ a1 a2 a3 x4, V g mL_law_ 62 rtI 23 [(0, .ref (gS g).1), (1, rf g a1), (2, rf g a2), (3, rf g a3), (4, .int x4)] [] (k23 a1 a2 a3 x4)) (a1 : Nat) (a2 : Nat) (a3 : Nat) (x4 : Int32) : V g mL_law_ 62 rtI 2574 [(0, .ref (gS g).1), (1, rf g a1), (2, rf g a2), (3, rf g a3), (4, .int x4)] [] (f_L_law__b2574 g k23 a1 a2 a3 x4) := by
  unfold f_L_law__b2574
  refine v_goto (t := 2771) dL_law__2574 (by decide) ?_
  refine V.sub [0, 1, 2, 3, 4] rfl ?_
  exact h_L_law__b2771 g k23 hk23 a1 a2 a3 x4
set_option maxRecDepth 20000 in
theorem h_L_law__b2485 (g : GW) (k23 : Nat → Nat → Nat → Int32 → Mo Int32) (hk23 : ∀ a1 a2 a3 x4, V g mL_law_ 62 rtI 23 [(0, .ref (gS g).1), (1, rf g a1), (2, rf g a2), (3, rf g a3), (4, .int x4)] [] (k23 a1 a2 a3 x4)) (a1 : Nat) (a2 : Nat) (a3 : Nat) (x4 : Int32) : V g mL_law_ 62 rtI 2485 [(0, .ref (gS g).1), (1, rf g a1), (2, rf g a2), (3, rf g a3), (4, .int x4)] [] (f_L_law__b2485 g k23 a1 a2 a3 x4) := by
  unfold f_L_law__b2485
  refine v_aload_n (pc' := 2486) 1 dL_law__2485 rfl rfl rfl ?_
  refine v_aload_nX (pc' := 2487) 0 dL_law__2486 rfl rfl rfl ?_
  refine v_iload (pc' := 2489) 4 dL_law__2487 rfl rfl ?_
  refine v_iconst (v := 1) (pc' := 2490) dL_law__2489 rfl rfl ?_
  refine v_iadd (pc' := 2491) dL_law__2490 rfl ?_
  refine v_sld (pc' := 2492) dL_law__2491 rfl fun v267 => ?_
  refine v_aload_nX (pc' := 2493) 0 dL_law__2492 rfl rfl rfl ?_
  refine v_iload (pc' := 2495) 4 dL_law__2493 rfl rfl ?_
  refine v_iconst (v := 2) (pc' := 2496) dL_law__2495 rfl rfl ?_
  refine v_iadd (pc' := 2497) dL_law__2496 rfl ?_
  refine v_sld (pc' := 2498) dL_law__2497 rfl fun v268 => ?_
  refine v_aload_nX (pc' := 2499) 0 dL_law__2498 rfl rfl rfl ?_
  refine v_iload (pc' := 2501) 4 dL_law__2499 rfl rfl ?_
  refine v_iconst (v := 3) (pc' := 2502) dL_law__2501 rfl rfl ?_
  refine v_iadd (pc' := 2503) dL_law__2502 rfl ?_
  refine v_sld (pc' := 2504) dL_law__2503 rfl fun v269 => ?_
  refine v_aload_nX (pc' := 2505) 0 dL_law__2504 rfl rfl rfl ?_
  refine v_iload (pc' := 2507) 4 dL_law__2505 rfl rfl ?_
  refine v_iconst (v := 4) (pc' := 2508) dL_law__2507 rfl rfl ?_
  refine v_iadd (pc' := 2509) dL_law__2508 rfl ?_
  refine v_sld (pc' := 2510) dL_law__2509 rfl fun v270 => ?_
  refine v_aload_n (pc' := 2511) 3 dL_law__2510 rfl rfl rfl ?_
  refine v_callX (vs := [rf g a1, .int v267, .int v268, .int v269, .int v270, rf g a3]) (pc' := 2514) (h_L_years g a1 v267 v268 v269 v270 a3) mx_L_years wl_L_261 (Nat.le_of_ble_eq_true rfl) (by omega) (by decide) (Nat.le_of_ble_eq_true rfl) rfl dL_law__2511 rfl fun v271 => ?_
  refine v_istore (lv' := [(5, .int v271), (0, .ref (gS g).1), (1, rf g a1), (2, rf g a2), (3, rf g a3), (4, .int x4)]) (pc' := 2516) dL_law__2514 (by decide) rfl rfl ?_
  refine v_aload_n (pc' := 2517) 3 dL_law__2516 rfl rfl rfl ?_
  refine v_aload_nX (pc' := 2518) 1 dL_law__2517 rfl rfl rfl ?_
  refine v_iload (pc' := 2520) 5 dL_law__2518 rfl rfl ?_
  refine v_iconst (v := 1) (pc' := 2521) dL_law__2520 rfl rfl ?_
  refine v_iadd (pc' := 2522) dL_law__2521 rfl ?_
  refine v_sld (pc' := 2523) dL_law__2522 rfl fun v272 => ?_
  refine v_aload_nX (pc' := 2524) 1 dL_law__2523 rfl rfl rfl ?_
  refine v_iload (pc' := 2526) 5 dL_law__2524 rfl rfl ?_
  refine v_iconst (v := 2) (pc' := 2527) dL_law__2526 rfl rfl ?_
  refine v_iadd (pc' := 2528) dL_law__2527 rfl ?_
  refine v_sld (pc' := 2529) dL_law__2528 rfl fun v273 => ?_
  refine v_aload_nX (pc' := 2530) 1 dL_law__2529 rfl rfl rfl ?_
  refine v_iload (pc' := 2532) 5 dL_law__2530 rfl rfl ?_
  refine v_iconst (v := 3) (pc' := 2533) dL_law__2532 rfl rfl ?_
  refine v_iadd (pc' := 2534) dL_law__2533 rfl ?_
  refine v_sld (pc' := 2535) dL_law__2534 rfl fun v274 => ?_
  refine v_aload_nX (pc' := 2536) 1 dL_law__2535 rfl rfl rfl ?_
  refine v_iload (pc' := 2538) 5 dL_law__2536 rfl rfl ?_
  refine v_iconst (v := 4) (pc' := 2539) dL_law__2538 rfl rfl ?_
  refine v_iadd (pc' := 2540) dL_law__2539 rfl ?_
  refine v_sld (pc' := 2541) dL_law__2540 rfl fun v275 => ?_
  refine v_callV (vs := [.int v272, .int v273, .int v274, .int v275]) (pc' := 2544) (h_X12_years g a2 v272 v273 v274 v275) mv_X12_years wl_L_263 rfl (Nat.le_of_ble_eq_true rfl) (by omega) (by decide) (Nat.le_of_ble_eq_true rfl) rfl dL_law__2541 rfl fun v276 => ?_
  refine v_istore (lv' := [(6, .int v276), (5, .int v271), (0, .ref (gS g).1), (1, rf g a1), (2, rf g a2), (3, rf g a3), (4, .int x4)]) (pc' := 2546) dL_law__2544 (by decide) rfl rfl ?_
  refine v_aload_n (pc' := 2547) 4 dL_law__2546 rfl rfl rfl ?_
  refine v_callV (vs := []) (pc' := 2550) (h_X12_thrown g a2) mv_X12_thrown wl_L_136 rfl (Nat.le_of_ble_eq_true rfl) (by omega) (by decide) (Nat.le_of_ble_eq_true rfl) rfl dL_law__2547 rfl fun v277 => ?_
  refine v_iload (pc' := 2552) 1 dL_law__2550 rfl rfl ?_
  refine v_icmpeq (t := 2557) (pc' := 2555) dL_law__2552 (by decide) rfl ?_ ?_
  · refine v_iload (pc' := 2559) 1 dL_law__2557 rfl rfl ?_
    refine v_ifne (t := 2574) (pc' := 2562) dL_law__2559 (by decide) rfl ?_ ?_
    · refine V.sub [2, 3, 4, 5, 6] rfl ?_
      exact h_L_law__b2574 g k23 hk23 a1 a2 a3 x4
    · refine v_aload_n (pc' := 2563) 5 dL_law__2562 rfl rfl rfl ?_
      refine v_iconst (v := 0) (pc' := 2564) dL_law__2563 rfl rfl ?_
      refine v_lald (pc' := 2565) dL_law__2564 rfl fun w278 => ?_
      refine v_iload (pc' := 2567) 0 dL_law__2565 rfl rfl ?_
      refine v_i2l (pc' := 2568) dL_law__2567 rfl ?_
      refine v_lcmp (pc' := 2569) dL_law__2568 rfl ?_
      refine v_ifeq (t := 2574) (pc' := 2572) dL_law__2569 (by decide) rfl ?_ ?_
      · refine V.sub [2, 3, 4, 5, 6] rfl ?_
        exact h_L_law__b2574 g k23 hk23 a1 a2 a3 x4
      · refine v_iconst (v := 0) (pc' := 2573) dL_law__2572 rfl rfl ?_
        exact v_zret rfl rfl dL_law__2573
  · refine v_iconst (v := 0) (pc' := 2556) dL_law__2555 rfl rfl ?_
    exact v_zret rfl rfl dL_law__2556
set_option maxRecDepth 20000 in
theorem h_L_law__b2692 (g : GW) (k23 : Nat → Nat → Nat → Int32 → Mo Int32) (hk23 : ∀ a1 a2 a3 x4, V g mL_law_ 62 rtI 23 [(0, .ref (gS g).1), (1, rf g a1), (2, rf g a2), (3, rf g a3), (4, .int x4)] [] (k23 a1 a2 a3 x4)) (a1 : Nat) (a2 : Nat) (a3 : Nat) (x4 : Int32) : V g mL_law_ 62 rtI 2692 [(0, .ref (gS g).1), (1, rf g a1), (2, rf g a2), (3, rf g a3), (4, .int x4)] [] (f_L_law__b2692 g k23 a1 a2 a3 x4) := by
  unfold f_L_law__b2692
  refine v_goto (t := 2771) dL_law__2692 (by decide) ?_
  refine V.sub [0, 1, 2, 3, 4] rfl ?_
  exact h_L_law__b2771 g k23 hk23 a1 a2 a3 x4
set_option maxRecDepth 20000 in
theorem h_L_law__b2577 (g : GW) (k23 : Nat → Nat → Nat → Int32 → Mo Int32) (hk23 : ∀ a1 a2 a3 x4, V g mL_law_ 62 rtI 23 [(0, .ref (gS g).1), (1, rf g a1), (2, rf g a2), (3, rf g a3), (4, .int x4)] [] (k23 a1 a2 a3 x4)) (a1 : Nat) (a2 : Nat) (a3 : Nat) (x4 : Int32) : V g mL_law_ 62 rtI 2577 [(0, .ref (gS g).1), (1, rf g a1), (2, rf g a2), (3, rf g a3), (4, .int x4)] [] (f_L_law__b2577 g k23 a1 a2 a3 x4) := by
  unfold f_L_law__b2577
  refine v_aload_n (pc' := 2578) 1 dL_law__2577 rfl rfl rfl ?_
  refine v_aload_nX (pc' := 2579) 0 dL_law__2578 rfl rfl rfl ?_
  refine v_iload (pc' := 2581) 4 dL_law__2579 rfl rfl ?_
  refine v_iconst (v := 1) (pc' := 2582) dL_law__2581 rfl rfl ?_
  refine v_iadd (pc' := 2583) dL_law__2582 rfl ?_
  refine v_sld (pc' := 2584) dL_law__2583 rfl fun v279 => ?_
  refine v_aload_nX (pc' := 2585) 0 dL_law__2584 rfl rfl rfl ?_
  refine v_iload (pc' := 2587) 4 dL_law__2585 rfl rfl ?_
  refine v_iconst (v := 2) (pc' := 2588) dL_law__2587 rfl rfl ?_
  refine v_iadd (pc' := 2589) dL_law__2588 rfl ?_
  refine v_sld (pc' := 2590) dL_law__2589 rfl fun v280 => ?_
  refine v_aload_nX (pc' := 2591) 0 dL_law__2590 rfl rfl rfl ?_
  refine v_iload (pc' := 2593) 4 dL_law__2591 rfl rfl ?_
  refine v_iconst (v := 3) (pc' := 2594) dL_law__2593 rfl rfl ?_
  refine v_iadd (pc' := 2595) dL_law__2594 rfl ?_
  refine v_sld (pc' := 2596) dL_law__2595 rfl fun v281 => ?_
  refine v_aload_nX (pc' := 2597) 0 dL_law__2596 rfl rfl rfl ?_
  refine v_iload (pc' := 2599) 4 dL_law__2597 rfl rfl ?_
  refine v_iconst (v := 4) (pc' := 2600) dL_law__2599 rfl rfl ?_
  refine v_iadd (pc' := 2601) dL_law__2600 rfl ?_
  refine v_sld (pc' := 2602) dL_law__2601 rfl fun v282 => ?_
  refine v_aload_nX (pc' := 2603) 0 dL_law__2602 rfl rfl rfl ?_
  refine v_iload (pc' := 2605) 4 dL_law__2603 rfl rfl ?_
  refine v_iconst (v := 5) (pc' := 2606) dL_law__2605 rfl rfl ?_
  refine v_iadd (pc' := 2607) dL_law__2606 rfl ?_
  refine v_sld (pc' := 2608) dL_law__2607 rfl fun v283 => ?_
  refine v_aload_nX (pc' := 2609) 0 dL_law__2608 rfl rfl rfl ?_
  refine v_iload (pc' := 2611) 4 dL_law__2609 rfl rfl ?_
  refine v_bipush (v := 6) (pc' := 2613) dL_law__2611 rfl rfl ?_
  refine v_iadd (pc' := 2614) dL_law__2613 rfl ?_
  refine v_sld (pc' := 2615) dL_law__2614 rfl fun v284 => ?_
  refine v_aload_n (pc' := 2616) 3 dL_law__2615 rfl rfl rfl ?_
  refine v_callX (vs := [rf g a1, .int v279, .int v280, .int v281, .int v282, .int v283, .int v284, rf g a3]) (pc' := 2619) (h_L_span g a1 v279 v280 v281 v282 v283 v284 a3) mx_L_span wl_L_264 (Nat.le_of_ble_eq_true rfl) (by omega) (by decide) (Nat.le_of_ble_eq_true rfl) rfl dL_law__2616 rfl fun v285 => ?_
  refine v_istore (lv' := [(5, .int v285), (0, .ref (gS g).1), (1, rf g a1), (2, rf g a2), (3, rf g a3), (4, .int x4)]) (pc' := 2621) dL_law__2619 (by decide) rfl rfl ?_
  refine v_aload_n (pc' := 2622) 3 dL_law__2621 rfl rfl rfl ?_
  refine v_aload_nX (pc' := 2623) 1 dL_law__2622 rfl rfl rfl ?_
  refine v_iload (pc' := 2625) 5 dL_law__2623 rfl rfl ?_
  refine v_iconst (v := 1) (pc' := 2626) dL_law__2625 rfl rfl ?_
  refine v_iadd (pc' := 2627) dL_law__2626 rfl ?_
  refine v_sld (pc' := 2628) dL_law__2627 rfl fun v286 => ?_
  refine v_aload_nX (pc' := 2629) 1 dL_law__2628 rfl rfl rfl ?_
  refine v_iload (pc' := 2631) 5 dL_law__2629 rfl rfl ?_
  refine v_iconst (v := 2) (pc' := 2632) dL_law__2631 rfl rfl ?_
  refine v_iadd (pc' := 2633) dL_law__2632 rfl ?_
  refine v_sld (pc' := 2634) dL_law__2633 rfl fun v287 => ?_
  refine v_aload_nX (pc' := 2635) 1 dL_law__2634 rfl rfl rfl ?_
  refine v_iload (pc' := 2637) 5 dL_law__2635 rfl rfl ?_
  refine v_iconst (v := 3) (pc' := 2638) dL_law__2637 rfl rfl ?_
  refine v_iadd (pc' := 2639) dL_law__2638 rfl ?_
  refine v_sld (pc' := 2640) dL_law__2639 rfl fun v288 => ?_
  refine v_aload_nX (pc' := 2641) 1 dL_law__2640 rfl rfl rfl ?_
  refine v_iload (pc' := 2643) 5 dL_law__2641 rfl rfl ?_
  refine v_iconst (v := 4) (pc' := 2644) dL_law__2643 rfl rfl ?_
  refine v_iadd (pc' := 2645) dL_law__2644 rfl ?_
  refine v_sld (pc' := 2646) dL_law__2645 rfl fun v289 => ?_
  refine v_aload_nX (pc' := 2647) 1 dL_law__2646 rfl rfl rfl ?_
  refine v_iload (pc' := 2649) 5 dL_law__2647 rfl rfl ?_
  refine v_iconst (v := 5) (pc' := 2650) dL_law__2649 rfl rfl ?_
  refine v_iadd (pc' := 2651) dL_law__2650 rfl ?_
  refine v_sld (pc' := 2652) dL_law__2651 rfl fun v290 => ?_
  refine v_aload_nX (pc' := 2653) 1 dL_law__2652 rfl rfl rfl ?_
  refine v_iload (pc' := 2655) 5 dL_law__2653 rfl rfl ?_
  refine v_bipush (v := 6) (pc' := 2657) dL_law__2655 rfl rfl ?_
  refine v_iadd (pc' := 2658) dL_law__2657 rfl ?_
  refine v_sld (pc' := 2659) dL_law__2658 rfl fun v291 => ?_
  refine v_callV (vs := [.int v286, .int v287, .int v288, .int v289, .int v290, .int v291]) (pc' := 2662) (h_X12_span g a2 v286 v287 v288 v289 v290 v291) mv_X12_span wl_L_267 rfl (Nat.le_of_ble_eq_true rfl) (by omega) (by decide) (Nat.le_of_ble_eq_true rfl) rfl dL_law__2659 rfl fun v292 => ?_
  refine v_istore (lv' := [(6, .int v292), (5, .int v285), (0, .ref (gS g).1), (1, rf g a1), (2, rf g a2), (3, rf g a3), (4, .int x4)]) (pc' := 2664) dL_law__2662 (by decide) rfl rfl ?_
  refine v_aload_n (pc' := 2665) 4 dL_law__2664 rfl rfl rfl ?_
  refine v_callV (vs := []) (pc' := 2668) (h_X12_thrown g a2) mv_X12_thrown wl_L_136 rfl (Nat.le_of_ble_eq_true rfl) (by omega) (by decide) (Nat.le_of_ble_eq_true rfl) rfl dL_law__2665 rfl fun v293 => ?_
  refine v_iload (pc' := 2670) 1 dL_law__2668 rfl rfl ?_
  refine v_icmpeq (t := 2675) (pc' := 2673) dL_law__2670 (by decide) rfl ?_ ?_
  · refine v_iload (pc' := 2677) 1 dL_law__2675 rfl rfl ?_
    refine v_ifne (t := 2692) (pc' := 2680) dL_law__2677 (by decide) rfl ?_ ?_
    · refine V.sub [2, 3, 4, 5, 6] rfl ?_
      exact h_L_law__b2692 g k23 hk23 a1 a2 a3 x4
    · refine v_aload_n (pc' := 2681) 5 dL_law__2680 rfl rfl rfl ?_
      refine v_iconst (v := 0) (pc' := 2682) dL_law__2681 rfl rfl ?_
      refine v_lald (pc' := 2683) dL_law__2682 rfl fun w294 => ?_
      refine v_iload (pc' := 2685) 0 dL_law__2683 rfl rfl ?_
      refine v_i2l (pc' := 2686) dL_law__2685 rfl ?_
      refine v_lcmp (pc' := 2687) dL_law__2686 rfl ?_
      refine v_ifeq (t := 2692) (pc' := 2690) dL_law__2687 (by decide) rfl ?_ ?_
      · refine V.sub [2, 3, 4, 5, 6] rfl ?_
        exact h_L_law__b2692 g k23 hk23 a1 a2 a3 x4
      · refine v_iconst (v := 0) (pc' := 2691) dL_law__2690 rfl rfl ?_
        exact v_zret rfl rfl dL_law__2691
  · refine v_iconst (v := 0) (pc' := 2674) dL_law__2673 rfl rfl ?_
    exact v_zret rfl rfl dL_law__2674
set_option maxRecDepth 20000 in
theorem h_L_law__b2695 (g : GW) (k23 : Nat → Nat → Nat → Int32 → Mo Int32) (hk23 : ∀ a1 a2 a3 x4, V g mL_law_ 62 rtI 23 [(0, .ref (gS g).1), (1, rf g a1), (2, rf g a2), (3, rf g a3), (4, .int x4)] [] (k23 a1 a2 a3 x4)) (a1 : Nat) (a2 : Nat) (a3 : Nat) (x4 : Int32) : V g mL_law_ 62 rtI 2695 [(0, .ref (gS g).1), (1, rf g a1), (2, rf g a2), (3, rf g a3), (4, .int x4)] [] (f_L_law__b2695 g k23 a1 a2 a3 x4) := by
  unfold f_L_law__b2695
  refine v_aload_n (pc' := 2696) 1 dL_law__2695 rfl rfl rfl ?_
  refine v_callV (vs := []) (pc' := 2699) (h_X11_image g a1) mv_X11_image wl_L_268 rfl (Nat.le_of_ble_eq_true rfl) (by omega) (by decide) (Nat.le_of_ble_eq_true rfl) rfl dL_law__2696 rfl fun v295 => ?_
  refine v_aload_n (pc' := 2700) 2 dL_law__2699 rfl rfl rfl ?_
  refine v_callV (vs := []) (pc' := 2703) (h_X12_image g a2) mv_X12_image wl_L_271 rfl (Nat.le_of_ble_eq_true rfl) (by omega) (by decide) (Nat.le_of_ble_eq_true rfl) rfl dL_law__2700 rfl fun v296 => ?_
  refine v_icmpeq (t := 2771) (pc' := 2706) dL_law__2703 (by decide) rfl ?_ ?_
  · refine V.sub [0, 1, 2, 3, 4] rfl ?_
    exact h_L_law__b2771 g k23 hk23 a1 a2 a3 x4
  · refine v_iconst (v := 0) (pc' := 2707) dL_law__2706 rfl rfl ?_
    exact v_zret rfl rfl dL_law__2707
set_option maxRecDepth 20000 in
theorem h_L_law__b2708 (g : GW) (k23 : Nat → Nat → Nat → Int32 → Mo Int32) (hk23 : ∀ a1 a2 a3 x4, V g mL_law_ 62 rtI 23 [(0, .ref (gS g).1), (1, rf g a1), (2, rf g a2), (3, rf g a3), (4, .int x4)] [] (k23 a1 a2 a3 x4)) (a1 : Nat) (a2 : Nat) (a3 : Nat) (x4 : Int32) : V g mL_law_ 62 rtI 2708 [(0, .ref (gS g).1), (1, rf g a1), (2, rf g a2), (3, rf g a3), (4, .int x4)] [] (f_L_law__b2708 g k23 a1 a2 a3 x4) := by
  unfold f_L_law__b2708
  refine v_aload_n (pc' := 2709) 1 dL_law__2708 rfl rfl rfl ?_
  refine v_callV (vs := []) (pc' := 2712) (h_X11_restore g a1) mv_X11_restore wl_L_272 rfl (Nat.le_of_ble_eq_true rfl) (by omega) (by decide) (Nat.le_of_ble_eq_true rfl) rfl dL_law__2709 rfl fun v297 => ?_
  refine v_aload_n (pc' := 2713) 2 dL_law__2712 rfl rfl rfl ?_
  refine v_callV (vs := []) (pc' := 2716) (h_X12_restore g a2) mv_X12_restore wl_L_275 rfl (Nat.le_of_ble_eq_true rfl) (by omega) (by decide) (Nat.le_of_ble_eq_true rfl) rfl dL_law__2713 rfl fun v298 => ?_
  refine v_icmpeq (t := 2771) (pc' := 2719) dL_law__2716 (by decide) rfl ?_ ?_
  · refine V.sub [0, 1, 2, 3, 4] rfl ?_
    exact h_L_law__b2771 g k23 hk23 a1 a2 a3 x4
  · refine v_iconst (v := 0) (pc' := 2720) dL_law__2719 rfl rfl ?_
    exact v_zret rfl rfl dL_law__2720
set_option maxRecDepth 20000 in
theorem h_L_law__b2721 (g : GW) (k23 : Nat → Nat → Nat → Int32 → Mo Int32) (hk23 : ∀ a1 a2 a3 x4, V g mL_law_ 62 rtI 23 [(0, .ref (gS g).1), (1, rf g a1), (2, rf g a2), (3, rf g a3), (4, .int x4)] [] (k23 a1 a2 a3 x4)) (a1 : Nat) (a2 : Nat) (a3 : Nat) (x4 : Int32) : V g mL_law_ 62 rtI 2721 [(0, .ref (gS g).1), (1, rf g a1), (2, rf g a2), (3, rf g a3), (4, .int x4)] [] (f_L_law__b2721 g k23 a1 a2 a3 x4) := by
  unfold f_L_law__b2721
  refine v_aload_n (pc' := 2722) 1 dL_law__2721 rfl rfl rfl ?_
  refine v_aload_nX (pc' := 2723) 0 dL_law__2722 rfl rfl rfl ?_
  refine v_iload (pc' := 2725) 4 dL_law__2723 rfl rfl ?_
  refine v_iconst (v := 1) (pc' := 2726) dL_law__2725 rfl rfl ?_
  refine v_iadd (pc' := 2727) dL_law__2726 rfl ?_
  refine v_sld (pc' := 2728) dL_law__2727 rfl fun v299 => ?_
  refine v_callV (vs := [.int v299]) (pc' := 2731) (h_X11_status g a1 v299) mv_X11_status wl_L_276 rfl (Nat.le_of_ble_eq_true rfl) (by omega) (by decide) (Nat.le_of_ble_eq_true rfl) rfl dL_law__2728 rfl fun v300 => ?_
  refine v_aload_n (pc' := 2732) 2 dL_law__2731 rfl rfl rfl ?_
  refine v_aload_nX (pc' := 2733) 0 dL_law__2732 rfl rfl rfl ?_
  refine v_iload (pc' := 2735) 4 dL_law__2733 rfl rfl ?_
  refine v_iconst (v := 1) (pc' := 2736) dL_law__2735 rfl rfl ?_
  refine v_iadd (pc' := 2737) dL_law__2736 rfl ?_
  refine v_sld (pc' := 2738) dL_law__2737 rfl fun v301 => ?_
  refine v_callV (vs := [.int v301]) (pc' := 2741) (h_X12_status g a2 v301) mv_X12_status wl_L_279 rfl (Nat.le_of_ble_eq_true rfl) (by omega) (by decide) (Nat.le_of_ble_eq_true rfl) rfl dL_law__2738 rfl fun v302 => ?_
  refine v_icmpeq (t := 2771) (pc' := 2744) dL_law__2741 (by decide) rfl ?_ ?_
  · refine V.sub [0, 1, 2, 3, 4] rfl ?_
    exact h_L_law__b2771 g k23 hk23 a1 a2 a3 x4
  · refine v_iconst (v := 0) (pc' := 2745) dL_law__2744 rfl rfl ?_
    exact v_zret rfl rfl dL_law__2745
set_option maxRecDepth 20000 in
theorem h_L_law__b2746 (g : GW) (k23 : Nat → Nat → Nat → Int32 → Mo Int32) (hk23 : ∀ a1 a2 a3 x4, V g mL_law_ 62 rtI 23 [(0, .ref (gS g).1), (1, rf g a1), (2, rf g a2), (3, rf g a3), (4, .int x4)] [] (k23 a1 a2 a3 x4)) (a1 : Nat) (a2 : Nat) (a3 : Nat) (x4 : Int32) : V g mL_law_ 62 rtI 2746 [(0, .ref (gS g).1), (1, rf g a1), (2, rf g a2), (3, rf g a3), (4, .int x4)] [] (f_L_law__b2746 g k23 a1 a2 a3 x4) := by
  unfold f_L_law__b2746
  refine v_aload_n (pc' := 2747) 1 dL_law__2746 rfl rfl rfl ?_
  refine v_aload_nX (pc' := 2748) 0 dL_law__2747 rfl rfl rfl ?_
  refine v_iload (pc' := 2750) 4 dL_law__2748 rfl rfl ?_
  refine v_iconst (v := 1) (pc' := 2751) dL_law__2750 rfl rfl ?_
  refine v_iadd (pc' := 2752) dL_law__2751 rfl ?_
  refine v_sld (pc' := 2753) dL_law__2752 rfl fun v303 => ?_
  refine v_callV (vs := [.int v303]) (pc' := 2756) (h_X11_count g a1 v303) mv_X11_count wl_L_280 rfl (Nat.le_of_ble_eq_true rfl) (by omega) (by decide) (Nat.le_of_ble_eq_true rfl) rfl dL_law__2753 rfl fun v304 => ?_
  refine v_aload_n (pc' := 2757) 2 dL_law__2756 rfl rfl rfl ?_
  refine v_aload_nX (pc' := 2758) 0 dL_law__2757 rfl rfl rfl ?_
  refine v_iload (pc' := 2760) 4 dL_law__2758 rfl rfl ?_
  refine v_iconst (v := 1) (pc' := 2761) dL_law__2760 rfl rfl ?_
  refine v_iadd (pc' := 2762) dL_law__2761 rfl ?_
  refine v_sld (pc' := 2763) dL_law__2762 rfl fun v305 => ?_
  refine v_callV (vs := [.int v305]) (pc' := 2766) (h_X12_count g a2 v305) mv_X12_count wl_L_283 rfl (Nat.le_of_ble_eq_true rfl) (by omega) (by decide) (Nat.le_of_ble_eq_true rfl) rfl dL_law__2763 rfl fun v306 => ?_
  refine v_icmpeq (t := 2771) (pc' := 2769) dL_law__2766 (by decide) rfl ?_ ?_
  · refine V.sub [0, 1, 2, 3, 4] rfl ?_
    exact h_L_law__b2771 g k23 hk23 a1 a2 a3 x4
  · refine v_iconst (v := 0) (pc' := 2770) dL_law__2769 rfl rfl ?_
    exact v_zret rfl rfl dL_law__2770
set_option maxRecDepth 20000 in
theorem h_L_law__b23 (g : GW) : ∀ n : Nat, ∀ a1 a2 a3 x4, V g mL_law_ 62 rtI 23 [(0, .ref (gS g).1), (1, rf g a1), (2, rf g a2), (3, rf g a3), (4, .int x4)] [] (f_L_law__b23 g n a1 a2 a3 x4) := by
  intro n
  induction n with
  | zero => intro a1 a2 a3 x4; exact V.vain
  | succ n ih =>
    intro a1 a2 a3 x4
    unfold f_L_law__b23
    refine v_iload (pc' := 25) 4 dL_law__23 rfl rfl ?_
    refine v_aload_nX (pc' := 26) 0 dL_law__25 rfl rfl rfl ?_
    refine v_slen (pc' := 27) dL_law__26 rfl ?_
    refine v_bipush (v := 9) (pc' := 29) dL_law__27 rfl rfl ?_
    refine v_isub (pc' := 30) dL_law__29 rfl ?_
    refine v_icmpgt (t := 2777) (pc' := 33) dL_law__30 (by decide) rfl ?_ ?_
    · refine v_iconst (v := 1) (pc' := 2778) dL_law__2777 rfl rfl ?_
      exact v_zret rfl rfl dL_law__2778
    · refine v_aload_nX (pc' := 34) 0 dL_law__33 rfl rfl rfl ?_
      refine v_iload (pc' := 36) 4 dL_law__34 rfl rfl ?_
      refine v_sld (pc' := 37) dL_law__36 rfl fun v307 => ?_
      refine v_bipush (v := 63) (pc' := 39) dL_law__37 rfl rfl ?_
      refine v_iand (pc' := 40) dL_law__39 rfl ?_
      refine v_table (td := 2771) dL_law__40 rfl (by decide) ⟨⟨236, by decide, ?_⟩, ⟨309, by decide, ?_⟩, ⟨365, by decide, ?_⟩, ⟨421, by decide, ?_⟩, ⟨477, by decide, ?_⟩, ⟨533, by decide, ?_⟩, ⟨546, by decide, ?_⟩, ⟨559, by decide, ?_⟩, ⟨615, by decide, ?_⟩, ⟨683, by decide, ?_⟩, ⟨751, by decide, ?_⟩, ⟨819, by decide, ?_⟩, ⟨899, by decide, ?_⟩, ⟨1045, by decide, ?_⟩, ⟨1113, by decide, ?_⟩, ⟨1126, by decide, ?_⟩, ⟨1139, by decide, ?_⟩, ⟨1195, by decide, ?_⟩, ⟨1251, by decide, ?_⟩, ⟨1307, by decide, ?_⟩, ⟨1375, by decide, ?_⟩, ⟨1443, by decide, ?_⟩, ⟨1499, by decide, ?_⟩, ⟨1555, by decide, ?_⟩, ⟨1611, by decide, ?_⟩, ⟨1624, by decide, ?_⟩, ⟨1680, by decide, ?_⟩, ⟨1772, by decide, ?_⟩, ⟨1852, by decide, ?_⟩, ⟨1908, by decide, ?_⟩, ⟨1921, by decide, ?_⟩, ⟨1977, by decide, ?_⟩, ⟨2033, by decide, ?_⟩, ⟨2101, by decide, ?_⟩, ⟨2169, by decide, ?_⟩, ⟨2237, by decide, ?_⟩, ⟨2293, by decide, ?_⟩, ⟨2361, by decide, ?_⟩, ⟨2417, by decide, ?_⟩, ⟨2485, by decide, ?_⟩, ⟨2577, by decide, ?_⟩, ⟨2695, by decide, ?_⟩, ⟨2708, by decide, ?_⟩, ⟨2721, by decide, ?_⟩, ⟨2746, by decide, ?_⟩, trivial⟩ ?_
      · refine V.sub [0, 1, 2, 3, 4] rfl ?_
        exact h_L_law__b236 g (f_L_law__b23 g n) ih a1 a2 a3 x4
      · refine V.sub [0, 1, 2, 3, 4] rfl ?_
        exact h_L_law__b309 g (f_L_law__b23 g n) ih a1 a2 a3 x4
      · refine V.sub [0, 1, 2, 3, 4] rfl ?_
        exact h_L_law__b365 g (f_L_law__b23 g n) ih a1 a2 a3 x4
      · refine V.sub [0, 1, 2, 3, 4] rfl ?_
        exact h_L_law__b421 g (f_L_law__b23 g n) ih a1 a2 a3 x4
      · refine V.sub [0, 1, 2, 3, 4] rfl ?_
        exact h_L_law__b477 g (f_L_law__b23 g n) ih a1 a2 a3 x4
      · refine V.sub [0, 1, 2, 3, 4] rfl ?_
        exact h_L_law__b533 g (f_L_law__b23 g n) ih a1 a2 a3 x4
      · refine V.sub [0, 1, 2, 3, 4] rfl ?_
        exact h_L_law__b546 g (f_L_law__b23 g n) ih a1 a2 a3 x4
      · refine V.sub [0, 1, 2, 3, 4] rfl ?_
        exact h_L_law__b559 g (f_L_law__b23 g n) ih a1 a2 a3 x4
      · refine V.sub [0, 1, 2, 3, 4] rfl ?_
        exact h_L_law__b615 g (f_L_law__b23 g n) ih a1 a2 a3 x4
      · refine V.sub [0, 1, 2, 3, 4] rfl ?_
        exact h_L_law__b683 g (f_L_law__b23 g n) ih a1 a2 a3 x4
      · refine V.sub [0, 1, 2, 3, 4] rfl ?_
        exact h_L_law__b751 g (f_L_law__b23 g n) ih a1 a2 a3 x4
      · refine V.sub [0, 1, 2, 3, 4] rfl ?_
        exact h_L_law__b819 g (f_L_law__b23 g n) ih a1 a2 a3 x4
      · refine V.sub [0, 1, 2, 3, 4] rfl ?_
        exact h_L_law__b899 g (f_L_law__b23 g n) ih a1 a2 a3 x4
      · refine V.sub [0, 1, 2, 3, 4] rfl ?_
        exact h_L_law__b1045 g (f_L_law__b23 g n) ih a1 a2 a3 x4
      · refine V.sub [0, 1, 2, 3, 4] rfl ?_
        exact h_L_law__b1113 g (f_L_law__b23 g n) ih a1 a2 a3 x4
      · refine V.sub [0, 1, 2, 3, 4] rfl ?_
        exact h_L_law__b1126 g (f_L_law__b23 g n) ih a1 a2 a3 x4
      · refine V.sub [0, 1, 2, 3, 4] rfl ?_
        exact h_L_law__b1139 g (f_L_law__b23 g n) ih a1 a2 a3 x4
      · refine V.sub [0, 1, 2, 3, 4] rfl ?_
        exact h_L_law__b1195 g (f_L_law__b23 g n) ih a1 a2 a3 x4
      · refine V.sub [0, 1, 2, 3, 4] rfl ?_
        exact h_L_law__b1251 g (f_L_law__b23 g n) ih a1 a2 a3 x4
      · refine V.sub [0, 1, 2, 3, 4] rfl ?_
        exact h_L_law__b1307 g (f_L_law__b23 g n) ih a1 a2 a3 x4
      · refine V.sub [0, 1, 2, 3, 4] rfl ?_
        exact h_L_law__b1375 g (f_L_law__b23 g n) ih a1 a2 a3 x4
      · refine V.sub [0, 1, 2, 3, 4] rfl ?_
        exact h_L_law__b1443 g (f_L_law__b23 g n) ih a1 a2 a3 x4
      · refine V.sub [0, 1, 2, 3, 4] rfl ?_
        exact h_L_law__b1499 g (f_L_law__b23 g n) ih a1 a2 a3 x4
      · refine V.sub [0, 1, 2, 3, 4] rfl ?_
        exact h_L_law__b1555 g (f_L_law__b23 g n) ih a1 a2 a3 x4
      · refine V.sub [0, 1, 2, 3, 4] rfl ?_
        exact h_L_law__b1611 g (f_L_law__b23 g n) ih a1 a2 a3 x4
      · refine V.sub [0, 1, 2, 3, 4] rfl ?_
        exact h_L_law__b1624 g (f_L_law__b23 g n) ih a1 a2 a3 x4
      · refine V.sub [0, 1, 2, 3, 4] rfl ?_
        exact h_L_law__b1680 g (f_L_law__b23 g n) ih a1 a2 a3 x4
      · refine V.sub [0, 1, 2, 3, 4] rfl ?_
        exact h_L_law__b1772 g (f_L_law__b23 g n) ih a1 a2 a3 x4
      · refine V.sub [0, 1, 2, 3, 4] rfl ?_
        exact h_L_law__b1852 g (f_L_law__b23 g n) ih a1 a2 a3 x4
      · refine V.sub [0, 1, 2, 3, 4] rfl ?_
        exact h_L_law__b1908 g (f_L_law__b23 g n) ih a1 a2 a3 x4
      · refine V.sub [0, 1, 2, 3, 4] rfl ?_
        exact h_L_law__b1921 g (f_L_law__b23 g n) ih a1 a2 a3 x4
      · refine V.sub [0, 1, 2, 3, 4] rfl ?_
        exact h_L_law__b1977 g (f_L_law__b23 g n) ih a1 a2 a3 x4
      · refine V.sub [0, 1, 2, 3, 4] rfl ?_
        exact h_L_law__b2033 g (f_L_law__b23 g n) ih a1 a2 a3 x4
      · refine V.sub [0, 1, 2, 3, 4] rfl ?_
        exact h_L_law__b2101 g (f_L_law__b23 g n) ih a1 a2 a3 x4
      · refine V.sub [0, 1, 2, 3, 4] rfl ?_
        exact h_L_law__b2169 g (f_L_law__b23 g n) ih a1 a2 a3 x4
      · refine V.sub [0, 1, 2, 3, 4] rfl ?_
        exact h_L_law__b2237 g (f_L_law__b23 g n) ih a1 a2 a3 x4
      · refine V.sub [0, 1, 2, 3, 4] rfl ?_
        exact h_L_law__b2293 g (f_L_law__b23 g n) ih a1 a2 a3 x4
      · refine V.sub [0, 1, 2, 3, 4] rfl ?_
        exact h_L_law__b2361 g (f_L_law__b23 g n) ih a1 a2 a3 x4
      · refine V.sub [0, 1, 2, 3, 4] rfl ?_
        exact h_L_law__b2417 g (f_L_law__b23 g n) ih a1 a2 a3 x4
      · refine V.sub [0, 1, 2, 3, 4] rfl ?_
        exact h_L_law__b2485 g (f_L_law__b23 g n) ih a1 a2 a3 x4
      · refine V.sub [0, 1, 2, 3, 4] rfl ?_
        exact h_L_law__b2577 g (f_L_law__b23 g n) ih a1 a2 a3 x4
      · refine V.sub [0, 1, 2, 3, 4] rfl ?_
        exact h_L_law__b2695 g (f_L_law__b23 g n) ih a1 a2 a3 x4
      · refine V.sub [0, 1, 2, 3, 4] rfl ?_
        exact h_L_law__b2708 g (f_L_law__b23 g n) ih a1 a2 a3 x4
      · refine V.sub [0, 1, 2, 3, 4] rfl ?_
        exact h_L_law__b2721 g (f_L_law__b23 g n) ih a1 a2 a3 x4
      · refine V.sub [0, 1, 2, 3, 4] rfl ?_
        exact h_L_law__b2746 g (f_L_law__b23 g n) ih a1 a2 a3 x4
      · refine V.sub [0, 1, 2, 3, 4] rfl ?_
        exact h_L_law__b2771 g (f_L_law__b23 g n) ih a1 a2 a3 x4
set_option maxRecDepth 20000 in
theorem h_L_law_ (g : GW) : V g mL_law_ 62 rtI 0 [(0, .ref (gS g).1)] [] (f_L_law_ g ) := by
  unfold f_L_law_
  refine v_newO (pc' := 3) nw_L_8 dL_law__0 rfl fun r308 => ?_
  refine v_dup (pc' := 4) dL_law__3 rfl rfl ?_
  refine v_callI (vs := []) (pc' := 7) (h_X11_init g r308) mn_X11_init wl_L_121 (Nat.le_of_ble_eq_true rfl) (by omega) (by decide) (Nat.le_of_ble_eq_true rfl) dL_law__4 rfl ?_
  refine v_astore_n (lv' := [(1, rf g r308), (0, .ref (gS g).1)]) (pc' := 8) dL_law__7 rfl (by decide) rfl rfl ?_
  refine v_newO (pc' := 11) nw_L_122 dL_law__8 rfl fun r309 => ?_
  refine v_dup (pc' := 12) dL_law__11 rfl rfl ?_
  refine v_callI (vs := []) (pc' := 15) (h_X12_init g r309) mn_X12_init wl_L_124 (Nat.le_of_ble_eq_true rfl) (by omega) (by decide) (Nat.le_of_ble_eq_true rfl) dL_law__12 rfl ?_
  refine v_astore_n (lv' := [(2, rf g r309), (1, rf g r308), (0, .ref (gS g).1)]) (pc' := 16) dL_law__15 rfl (by decide) rfl rfl ?_
  refine v_iconst (v := 1) (pc' := 17) dL_law__16 rfl rfl ?_
  refine v_newJ (pc' := 19) wa_long dL_law__17 rfl fun r310 => ?_
  refine v_astore_n (lv' := [(3, rf g r310), (2, rf g r309), (1, rf g r308), (0, .ref (gS g).1)]) (pc' := 20) dL_law__19 rfl (by decide) rfl rfl ?_
  refine v_iconst (v := 0) (pc' := 21) dL_law__20 rfl rfl ?_
  refine v_istore (lv' := [(4, .int 0), (3, rf g r310), (2, rf g r309), (1, rf g r308), (0, .ref (gS g).1)]) (pc' := 23) dL_law__21 (by decide) rfl rfl ?_
  refine V.sub [4, 3, 2, 1, 0] rfl ?_
  exact h_L_law__b23 g NF r308 r309 r310 0
