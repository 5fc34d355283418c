theorem z_btc_ok : z_btc = true := by decide +kernel
